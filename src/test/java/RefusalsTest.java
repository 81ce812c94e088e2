import java.util.function.Supplier;

/**
 * Every refusal of every call: the number just outside and the farthest one, calls that have more
 * than one refusal, and after each that nothing has changed. For the last, two offices are made by
 * the same calls; one of them is asked what it must refuse, and then both must tell the same.
 */
public final class RefusalsTest implements Kinds {
    private static final Due DUE = new Due();
    private static final int[] NOT_A_DAY = {LOW, -1, 20001, HIGH};
    private static final int[] NOT_A_SUM = {LOW, -1, 0, 100001, HIGH};
    private static final int[] NOT_A_MARK = {LOW, -1, 1000, HIGH};

    // The numbers of usual() beyond one of each kind.
    private static final int SPENT_STAFF = 8;
    private static final int FRESH_STAFF = 9;
    private static final int OTHER_PLAIN = 10;
    private static final int GONE = 11;
    private static final int SMALL_ROUND = 12;
    private static final int NEXT = 13;

    private final Supplier<Run> made;

    private RefusalsTest(Supplier<Run> made) {
        this.made = made;
    }

    public static void main(String[] args) {
        RefusalsTest usual = new RefusalsTest(RefusalsTest::usual);
        usual.issueOfBadNumbers();
        usual.passOfBadNumbers();
        for (int voucher : new int[] {LOW, -1, NEXT, 39, 40, HIGH}) {
            usual.noSuchVoucher("no such VOUCHER", voucher);
        }
        usual.noSuchVoucher("GONE: its number is of none any more", GONE);
        usual.badNumbersOfVouchers();
        usual.spendOfStaffTwice();
        usual.spendAboveValue();
        usual.spendAboveLeft();
        usual.markOfOtherKinds();
        usual.daysLeftOfOtherKinds();
        usual.mergeOfOne();
        usual.mergeOfUnlikeKinds();
        usual.mergeAboveTheHighestAmount();
        usual.totalOfBadNumbers();
        usual.paperOfBadNumbers();
        usual.paperWithoutLastDay();
        usual.countOfBadNumbers();
        withoutVouchers();
        fullOffice("40 there were", false);
        fullOffice("40 there were (GONE ones, too)", true);
        lastOfDays();
        DUE.end();
    }

    /**
     * DAY 40: 0 to 7 one of each kind from DAY 0 (so that STAFF is behind its LAST DAY and has not
     * lapsed), HOUSE and CREST with POINTS; a STAFF that was spent from today and one that was not; a
     * second PLAIN into which one has gone; a ROUND whose VALUE is well below its LEFT.
     */
    private static Run usual() {
        Run x = new Run(DUE).oneOfEach(60000).passed(40);
        x.issued(60000, STAFF, STAFF, PLAIN).issued(10, PLAIN).issued(19, ROUND);
        x.call("spend", HOUSE, 250);
        x.call("spend", CREST, 250);
        x.call("spend", SPENT_STAFF, 100);
        x.call("merge", OTHER_PLAIN, GONE);
        return x;
    }

    /** The answer is the refusal, and the office then tells what it tells without the call. */
    private void refused(int want, String name, int... n) {
        Run asked = made.get();
        asked.is(want, name, n);
        int[] with = tell(asked);
        int[] without = tell(made.get());
        for (int i = 0; i < without.length; i++) {
            DUE.is("after " + Run.told(name, n) + " thing " + i + " of those told", with[i], without[i]);
        }
    }

    /** All that can be asked; spending comes last, for it alone tells if a STAFF was spent from today. */
    private static int[] tell(Run x) {
        int issued = x.call("count", 1);
        int[] told = new int[30 + 8 * issued];
        int at = 0;
        for (int what = 0; what <= 6; what++) {
            told[at++] = x.call("count", what);
        }
        told[at++] = x.call("total", 7);
        for (int voucher = 0; voucher < issued; voucher++) {
            for (int what = 0; what <= 5; what++) {
                told[at++] = x.call("paper", voucher, what);
            }
            told[at++] = x.call("seal", voucher);
            told[at++] = x.call("spend", voucher, 1);
        }
        told[at++] = x.call("issue", STAFF, 5);
        told[at++] = x.call("lapse");
        told[at++] = x.call("pass", 1);
        for (int what = 0; what <= 6; what++) {
            told[at++] = x.call("count", what);
        }
        return told;
    }

    private static void sentence(String promise) {
        DUE.about(promise);
    }

    private void issueOfBadNumbers() {
        sentence("promise 2: a KIND (0 to 7) and an AMOUNT (1 to 100000)");
        for (int kind : new int[] {LOW, -1, 8, HIGH}) {
            refused(-2, "issue", kind, 1);
            refused(-2, "issue", kind, 100000);
            refused(-2, "issue", kind, 0);
        }
        for (int kind = 0; kind <= 7; kind++) {
            for (int amount : NOT_A_SUM) {
                refused(-2, "issue", kind, amount);
            }
        }
    }

    private void passOfBadNumbers() {
        sentence("promise 3: so many days (1 to 1000)");
        for (int days : new int[] {LOW, -1, 0, 1001, HIGH}) {
            refused(-2, "pass", days);
        }
    }

    /** With numbers that are taken, and with such as would be refused by themselves: -1 is the first. */
    private void noSuchVoucher(String why, int voucher) {
        sentence("-1: " + why);
        for (int n : new int[] {1, LOW, -1, 100001, HIGH}) {
            refused(-1, "value", voucher, n);
            refused(-1, "fee", voucher, n);
            refused(-1, "spend", voucher, n);
            refused(-1, "mark", voucher, n);
            refused(-1, "daysLeft", voucher, n);
            refused(-1, "paper", voucher, n);
        }
        refused(-1, "paper", voucher, 5);
        refused(-1, "seal", voucher);
        refused(-1, "merge", voucher, voucher);
        for (int other = 0; other <= 7; other++) {
            refused(-1, "merge", voucher, other);
            refused(-1, "merge", other, voucher);
        }
        refused(-1, "merge", voucher, NEXT);
        refused(-1, "merge", GONE, voucher);
    }

    private void badNumbersOfVouchers() {
        for (int voucher = 0; voucher <= SPENT_STAFF; voucher++) {
            sentence("promise 4: a day (0 to 20000)");
            for (int day : NOT_A_DAY) {
                refused(-2, "value", voucher, day);
            }
            sentence("promise 5: g (1 to 100000)");
            for (int g : NOT_A_SUM) {
                refused(-2, "fee", voucher, g);
            }
            // Of the STAFF that was spent from today -6 would be due, of those above LEFT -5.
            sentence("promise 6: g (1 to 100000), before -6 and -5");
            for (int g : NOT_A_SUM) {
                refused(-2, "spend", voucher, g);
            }
            sentence("promise 8: n (0 to 999), before -3");
            for (int n : NOT_A_MARK) {
                refused(-2, "mark", voucher, n);
            }
            sentence("promise 9: a day (0 to 20000), before -3");
            for (int day : NOT_A_DAY) {
                refused(-2, "daysLeft", voucher, day);
            }
        }
    }

    private void spendOfStaffTwice() {
        sentence("promise 6: -6, if it was spent from today already, before -5");
        refused(-6, "spend", SPENT_STAFF, 1);
        refused(-6, "spend", SPENT_STAFF, 60000);
        refused(-6, "spend", SPENT_STAFF, 100000);
    }

    private void spendAboveValue() {
        sentence("promise 6: -5, if g is above VALUE today");
        refused(-5, "spend", SMALL_ROUND, 11);
        refused(-5, "spend", FRESH_STAFF, 54001);
        refused(-5, "spend", STAFF, 1);
        for (int voucher = 0; voucher <= 7; voucher++) {
            refused(-5, "spend", voucher, 100000);
        }
    }

    private void spendAboveLeft() {
        sentence("promise 6: -5, if g and the FEE together are above LEFT");
        // 58824 / 50 + 1 = 1177, one too much; HOUSE and CREST have 59744 LEFT and CREST pays 2 less.
        for (int voucher : new int[] {PLAIN, GIFT, SEASON, ROUND, CLUB}) {
            refused(-5, "spend", voucher, 58824);
            refused(-5, "spend", voucher, 60000);
        }
        refused(-5, "spend", HOUSE, 58573);
        refused(-5, "spend", CREST, 58575);
    }

    private void markOfOtherKinds() {
        sentence("promise 8: MARK, of CLUB, HOUSE, CREST alone");
        for (int voucher = PLAIN; voucher <= ROUND; voucher++) {
            refused(-3, "mark", voucher, 0);
            refused(-3, "mark", voucher, 999);
        }
    }

    private void daysLeftOfOtherKinds() {
        sentence("promise 9: DAYS LEFT, of SEASON and STAFF alone");
        for (int voucher = 0; voucher <= 7; voucher++) {
            if (!Kinds.hasLastDay(voucher)) {
                refused(-3, "daysLeft", voucher, 0);
                refused(-3, "daysLeft", voucher, 20000);
            }
        }
    }

    private void mergeOfOne() {
        sentence("promise 11: -2: both are one, before -4");
        for (int voucher = 0; voucher <= OTHER_PLAIN; voucher++) {
            refused(-2, "merge", voucher, voucher);
        }
        refused(-2, "merge", SMALL_ROUND, SMALL_ROUND);
    }

    private void mergeOfUnlikeKinds() {
        sentence("promise 11: -3: unlike KINDS, before -4");
        for (int first = 0; first <= 7; first++) {
            for (int second = 0; second <= 7; second++) {
                if (first != second) {
                    refused(-3, "merge", first, second);
                }
            }
            if (first != ROUND) {
                refused(-3, "merge", first, SMALL_ROUND);
                refused(-3, "merge", SMALL_ROUND, first);
            }
        }
    }

    private void mergeAboveTheHighestAmount() {
        sentence("promise 11: -4: AMOUNTS together above 100000");
        refused(-4, "merge", PLAIN, OTHER_PLAIN);
        refused(-4, "merge", OTHER_PLAIN, PLAIN);
        refused(-4, "merge", FRESH_STAFF, SPENT_STAFF);
        refused(-4, "merge", SPENT_STAFF, FRESH_STAFF);
        for (int kind = 0; kind <= 7; kind++) {
            int of = kind;
            RefusalsTest byOne = new RefusalsTest(() -> new Run(DUE).issued(99999, of).issued(2, of));
            byOne.refused(-4, "merge", 0, 1);
            byOne.refused(-4, "merge", 1, 0);
        }
    }

    private void totalOfBadNumbers() {
        sentence("promise 12: a day (0 to 20000)");
        for (int day : NOT_A_DAY) {
            refused(-2, "total", day);
        }
    }

    private void paperOfBadNumbers() {
        sentence("promise 13: -2: what");
        for (int voucher = 0; voucher <= 7; voucher++) {
            for (int what : new int[] {LOW, -1, 6, HIGH}) {
                refused(-2, "paper", voucher, what);
            }
        }
    }

    private void paperWithoutLastDay() {
        sentence("promise 13: -3: no LAST DAY");
        for (int voucher = 0; voucher <= 7; voucher++) {
            if (!Kinds.hasLastDay(voucher)) {
                refused(-3, "paper", voucher, 5);
            }
        }
    }

    private void countOfBadNumbers() {
        sentence("promise 14: -2");
        for (int what : new int[] {LOW, -1, 7, HIGH}) {
            refused(-2, "count", what);
        }
    }

    private static void withoutVouchers() {
        RefusalsTest empty = new RefusalsTest(() -> new Run(DUE));
        for (int voucher : new int[] {LOW, -1, 0, 1, 39, 40, HIGH}) {
            empty.noSuchVoucher("promise 1: No VOUCHERS", voucher);
        }
        empty.issueOfBadNumbers();
        empty.passOfBadNumbers();
        empty.totalOfBadNumbers();
        empty.countOfBadNumbers();
    }

    /** With a STAFF that can lapse, and one that was spent from today. */
    private static Run full(boolean withGone) {
        Run x = new Run(DUE).oneOfEach(100).passed(31);
        for (int i = 8; i < 40; i++) {
            x.issued(100 + i, i % 8);
        }
        x.call("spend", 8 + STAFF, 1);
        if (withGone) {
            x.call("merge", 0, 8);
            x.call("merge", 7, 39);
        }
        return x;
    }

    private static void fullOffice(String what, boolean withGone) {
        RefusalsTest full = new RefusalsTest(() -> full(withGone));
        sentence("promise 2: -4: " + what);
        for (int kind = 0; kind <= 7; kind++) {
            full.refused(-4, "issue", kind, 1);
            full.refused(-4, "issue", kind, 100000);
        }
        full.issueOfBadNumbers();
        sentence("-1: no such VOUCHER, behind the last that there can be");
        full.refused(-1, "seal", 40);
        full.refused(-1, "merge", 0, 40);
        full.refused(-1, "merge", 40, 0);
    }

    private static void lastOfDays() {
        sentence("promise 3: -4: that would be above 20000");
        RefusalsTest last = new RefusalsTest(() -> onDay(20000));
        last.refused(-4, "pass", 1);
        last.refused(-4, "pass", 1000);
        RefusalsTest before = new RefusalsTest(() -> onDay(19001));
        before.refused(-4, "pass", 1000);
        last.passOfBadNumbers();
    }

    /** With a STAFF that can lapse, and one that was spent from today. */
    private static Run onDay(int day) {
        Run x = new Run(DUE).oneOfEach(100).passed(day).issued(100, STAFF);
        x.call("spend", 8, 1);
        return x;
    }
}
