/**
 * One test for each sentence of the document that names a boundary: the least and the greatest number
 * that is taken, an office without vouchers and a full one, a GONE voucher, a day before, on and
 * behind a LAST DAY. What lies just outside stands here beside it; RefusalsTest has the refusals in full.
 */
public final class BoundariesTest implements Kinds {
    private static final Due DUE = new Due();

    public static void main(String[] args) {
        terms();
        newAndIssue();
        pass();
        values();
        fees();
        spending();
        sealsAndMarks();
        daysLeft();
        lapses();
        merges();
        totals();
        papersAndCounts();
        DUE.end();
    }

    private static Run sentence(String told) {
        DUE.about(told);
        return new Run(DUE);
    }

    // The sections "What it is" and "Terms"

    private static void terms() {
        atMost512Calls();
        divisionIsCut();
        dayIsZeroAtFirst();
        leftIsAmountAtFirst();
        numbersFromZero();
        atMostForty();
        fortyWithGoneOnes();
        goneIsOfNone();
        goneNumberStaysGone();
        pointsAreZeroAtFirst();
        lastDays();
    }

    private static void atMost512Calls() {
        Run x = sentence("at most 512 calls").issued(100000, SEASON);
        while (x.calls() < 508) {
            x.call("spend", 0, 1);
        }
        x.is(100000 - 507 * 2, "paper", 0, 2).is(507, "count", 4).is(1, "issue", 0, 1).is(2, "pass", 2);
    }

    private static void divisionIsCut() {
        Run x = sentence("x / y is cut").issued(1000, PLAIN, STAFF, HOUSE);
        x.is(1, "fee", 0, 49).is(2, "fee", 0, 50).is(2, "fee", 0, 99).is(3, "fee", 0, 100);
        x.is(0, "fee", 1, 49).is(1, "fee", 1, 50).is(1, "fee", 1, 149).is(2, "fee", 1, 150);
        x.is(801, "spend", 2, 195).is(1, "paper", 2, 4);
    }

    private static void dayIsZeroAtFirst() {
        Run x = sentence("DAY is 0 at first").is(0, "count", 0).issued(5, PLAIN);
        x.is(0, "paper", 0, 3).is(1, "pass", 1);
    }

    private static void leftIsAmountAtFirst() {
        sentence("LEFT, its AMOUNT at first");
        for (int amount : new int[] {1, 100000}) {
            Run x = new Run(DUE).oneOfEach(amount);
            for (int kind = 0; kind <= 7; kind++) {
                x.is(amount, "paper", kind, 1).is(amount, "paper", kind, 2);
            }
        }
    }

    private static void numbersFromZero() {
        Run x = sentence("numbered from 0 on as they come");
        for (int kind = 0; kind <= 7; kind++) {
            x.is(-1, "paper", kind, 0).is(kind, "issue", kind, 50 + kind);
            x.is(kind, "paper", kind, 0).is(50 + kind, "paper", kind, 1);
        }
        x.is(-2, "issue", 8, 50).is(8, "issue", CREST, 50);
    }

    private static void atMostForty() {
        Run x = sentence("at most 40");
        for (int i = 0; i < 40; i++) {
            x.is(i, "issue", i % 8, 1 + i);
        }
        x.is(-4, "issue", PLAIN, 1).is(40, "count", 1).is(820, "count", 2).is(820, "count", 6);
        x.is(40, "paper", 39, 1).is(7, "paper", 39, 0).is(-1, "paper", 40, 1);
    }

    private static void fortyWithGoneOnes() {
        Run x = sentence("at most 40 (GONE ones, too)").issued(1, GIFT);
        for (int i = 1; i < 40; i++) {
            x.is(i, "issue", GIFT, 1).is(i + 1, "merge", 0, i);
        }
        x.is(-4, "issue", GIFT, 1).is(40, "count", 1).is(40, "paper", 0, 2).is(40, "count", 6);
    }

    private static void goneIsOfNone() {
        sentence("GONE: its number is of none any more");
        for (int kind = 0; kind <= 7; kind++) {
            Run x = new Run(DUE).issued(100, kind, kind, kind).is(200, "merge", 2, 1);
            x.is(-1, "value", 1, 0).is(-1, "fee", 1, 1).is(-1, "spend", 1, 1).is(-1, "seal", 1);
            x.is(-1, "mark", 1, 0).is(-1, "daysLeft", 1, 0).is(-1, "paper", 1, 0).is(-1, "paper", 1, 5);
            x.is(-1, "merge", 1, 0).is(-1, "merge", 0, 1).is(-1, "merge", 1, 1).is(-1, "merge", 1, 2);
            x.is(100, "paper", 0, 2).is(200, "paper", 2, 2);
        }
    }

    private static void goneNumberStaysGone() {
        Run x = sentence("numbered as they come: a GONE one's number is not given again");
        x.issued(10, PLAIN, PLAIN).is(20, "merge", 0, 1).is(2, "issue", PLAIN, 10).is(-1, "paper", 1, 1);
        x.is(30, "merge", 2, 0).is(3, "issue", PLAIN, 10).is(-1, "paper", 0, 1).is(30, "paper", 2, 1);
    }

    private static void pointsAreZeroAtFirst() {
        Run x = sentence("HOUSE and CREST have POINTS, 0 at first").oneOfEach(5000);
        x.is(0, "paper", HOUSE, 4).is(0, "paper", CREST, 4);
        x.is(5000, "value", HOUSE, 1).is(5000, "value", CREST, 1);
    }

    private static void lastDays() {
        sentence("LAST DAY: FROM + 90, of STAFF FROM + 30");
        for (int from : new int[] {0, 1, 20000}) {
            Run x = new Run(DUE).passed(from).issued(10, SEASON, STAFF);
            x.is(from + 90, "paper", 0, 5).is(from + 30, "paper", 1, 5);
        }
    }

    // Promises 1 and 2

    private static void newAndIssue() {
        noVouchers();
        kindsThatAreTaken();
        amountsThatAreTaken();
    }

    private static void noVouchers() {
        Run x = sentence("promise 1: No VOUCHERS");
        for (int what = 0; what <= 6; what++) {
            x.is(0, "count", what);
        }
        x.is(0, "lapse").is(0, "total", 0).is(0, "total", 20000);
        x.is(-1, "value", 0, 0).is(-1, "fee", 0, 1).is(-1, "spend", 0, 1).is(-1, "seal", 0).is(-1, "mark", 0, 0);
        x.is(-1, "daysLeft", 0, 0).is(-1, "merge", 0, 0).is(-1, "merge", 0, 1).is(-1, "paper", 0, 0);
        x.is(0, "issue", PLAIN, 1);
    }

    private static void kindsThatAreTaken() {
        Run x = sentence("promise 2: a KIND (0 to 7)");
        x.is(-2, "issue", -1, 10).is(0, "issue", 0, 10).is(1, "issue", 7, 10).is(-2, "issue", 8, 10);
        x.is(0, "paper", 0, 0).is(7, "paper", 1, 0).is(2, "count", 1);
    }

    private static void amountsThatAreTaken() {
        sentence("promise 2: an AMOUNT (1 to 100000)");
        for (int kind = 0; kind <= 7; kind++) {
            Run x = new Run(DUE).is(-2, "issue", kind, 0).is(0, "issue", kind, 1);
            x.is(-2, "issue", kind, 100001).is(1, "issue", kind, 100000);
            x.is(1, "paper", 0, 1).is(100000, "paper", 1, 1).is(100001, "count", 2);
        }
    }

    // Promise 3

    private static void pass() {
        daysThatAreTaken();
        dayUpTo20000();
    }

    private static void daysThatAreTaken() {
        Run x = sentence("promise 3: so many days (1 to 1000)");
        x.is(-2, "pass", 0).is(1, "pass", 1).is(-2, "pass", 1001).is(1001, "pass", 1000).is(1001, "count", 0);
    }

    private static void dayUpTo20000() {
        Run x = sentence("promise 3: -4: that would be above 20000").passed(19500);
        x.is(-4, "pass", 501).is(19500, "count", 0).is(20000, "pass", 500).is(-4, "pass", 1).is(-2, "pass", 0);
        x.is(-2, "pass", 1001).is(20000, "count", 0);
        x.is(0, "issue", STAFF, 10).is(20000, "paper", 0, 3).is(9, "spend", 0, 1).is(-6, "spend", 0, 1);
        Run inOneStep = new Run(DUE).passed(19000);
        inOneStep.is(20000, "pass", 1000).is(-4, "pass", 1000);
    }

    // Promise 4

    private static void values() {
        daysOfValue();
        valueOfPlainAndGift();
        valueByLastDay(SEASON, 90, 100);
        valueByLastDay(STAFF, 30, 90);
        valueOfStaffLessTenths();
        valueOfRoundAndClub();
        valueOfHouse();
        valueOfCrest();
        valueOfNothingLeft();
    }

    private static void daysOfValue() {
        Run x = sentence("promise 4: a day (0 to 20000)").oneOfEach(1000);
        int[] first = {1000, 1000, 1000, 900, 1000, 1000, 1000, 2000};
        int[] last = {1000, 1000, 0, 0, 1000, 1000, 1000, 1000};
        for (int kind = 0; kind <= 7; kind++) {
            x.is(-2, "value", kind, -1).is(first[kind], "value", kind, 0);
            x.is(last[kind], "value", kind, 20000).is(-2, "value", kind, 20001);
        }
    }

    private static void valueOfPlainAndGift() {
        Run x = sentence("VALUE of PLAIN: LEFT, of GIFT: as PLAIN").issued(1, PLAIN, GIFT).issued(99999, PLAIN, GIFT);
        x.is(1, "value", 0, 0).is(1, "value", 1, 31).is(99999, "value", 2, 91).is(99999, "value", 3, 7);
    }

    private static void valueByLastDay(int kind, int days, int value) {
        Run x = sentence("VALUE: 0, if t is behind its LAST DAY, kind " + kind).passed(5).issued(100, kind);
        int last = 5 + days;
        x.is(value, "value", 0, last - 1).is(value, "value", 0, last).is(0, "value", 0, last + 1);
        x.is(value, "value", 0, 5).is(value, "value", 0, 4).is(value, "value", 0, 0);
        // The day that is asked for counts, not the one that it is.
        x.passed(days + 1).is(0, "value", 0, last + 1).is(value, "value", 0, last);
        x.is(100, "lapse").is(0, "value", 0, last);
    }

    private static void valueOfStaffLessTenths() {
        Run x = sentence("VALUE of STAFF: less 1 for each 10 in it");
        int[] amounts = {1, 9, 10, 11, 19, 20, 99999, 100000};
        int[] values = {1, 9, 9, 10, 18, 18, 90000, 90000};
        for (int i = 0; i < amounts.length; i++) {
            x.issued(amounts[i], STAFF).is(values[i], "value", i, 0).is(values[i], "value", i, 30);
        }
    }

    private static void valueOfRoundAndClub() {
        sentence("VALUE of ROUND: that of PLAIN less its rest by 10; of CLUB: as ROUND; of HOUSE without POINTS");
        int[] amounts = {1, 9, 10, 11, 19, 20, 99999, 100000};
        int[] values = {0, 0, 10, 10, 10, 20, 99990, 100000};
        for (int i = 0; i < amounts.length; i++) {
            Run x = new Run(DUE).issued(amounts[i], ROUND, CLUB, HOUSE);
            x.is(values[i], "value", 0, 0).is(values[i], "value", 1, 7).is(values[i], "value", 2, 14);
        }
    }

    private static void valueOfHouse() {
        Run x = sentence("VALUE of HOUSE: as CLUB, and its POINTS").issued(1000, HOUSE);
        x.is(799, "spend", 0, 197).is(791, "value", 0, 1).is(696, "spend", 0, 100).is(692, "value", 0, 1);
    }

    private static void valueOfCrest() {
        Run x = sentence("VALUE of CREST: twice that on a day that 7 divides (0, too)").issued(1000, CREST);
        x.is(2000, "value", 0, 0).is(1000, "value", 0, 1).is(1000, "value", 0, 6).is(2000, "value", 0, 7);
        x.is(1000, "value", 0, 8).is(2000, "value", 0, 19999).is(1000, "value", 0, 20000);
        x.is(695, "spend", 0, 299).is(692, "value", 0, 13).is(1384, "value", 0, 14);
    }

    private static void valueOfNothingLeft() {
        sentence("VALUE with nothing LEFT");
        // 980 and its FEE of 20 are 1000. STAFF can be emptied only where no tenth is taken off and no FEE is due.
        int[] due = {0, 0, 0, 0, 0, 0, 9, 18};
        for (int kind = 0; kind <= 7; kind++) {
            Run x = new Run(DUE).issued(kind == STAFF ? 9 : 1000, kind);
            x.is(0, "spend", 0, kind == STAFF ? 9 : 980).is(due[kind], "value", 0, 7);
        }
    }

    // Promise 5

    private static void fees() {
        sumsOfFee();
        feeOfStaff();
        feeOfCrest();
    }

    private static void sumsOfFee() {
        Run x = sentence("promise 5: g (1 to 100000)").oneOfEach(1);
        for (int kind = 0; kind <= 7; kind++) {
            x.is(-2, "fee", kind, 0).is(kind == STAFF ? 0 : 1, "fee", kind, 1);
            x.is(kind == STAFF ? 1000 : 2001, "fee", kind, 100000).is(-2, "fee", kind, 100001);
        }
    }

    private static void feeOfStaff() {
        Run x = sentence("FEE of STAFF: half of what SEASON pays").issued(5000, SEASON, STAFF);
        for (int g : new int[] {1, 49, 50, 99, 100, 149, 150, 4999, 5000}) {
            x.is(x.call("fee", 0, g) / 2, "fee", 1, g);
        }
    }

    private static void feeOfCrest() {
        Run x = sentence("FEE of CREST: what HOUSE pays less its POINTS, 0 at least").issued(5000, HOUSE, CREST);
        x.is(4693, "spend", 0, 300).is(4693, "spend", 1, 300).is(3, "paper", 1, 4);
        x.is(4, "fee", 0, 150).is(1, "fee", 1, 150).is(3, "fee", 0, 149).is(0, "fee", 1, 149);
        x.is(2, "fee", 0, 99).is(0, "fee", 1, 99).is(1, "fee", 0, 1).is(0, "fee", 1, 1);
    }

    // Promise 6

    private static void spending() {
        sumsOfSpend();
        upToValue();
        upToLeft();
        upToLeftOfCrest();
        staffOnceADay();
        staffRefusedIsNotSpent();
        othersManyTimesADay();
        spendByLastDay(SEASON, 90, 98);
        spendByLastDay(STAFF, 30, 99);
        pointsByHundreds();
        feeBeforePoints();
    }

    private static void sumsOfSpend() {
        sentence("promise 6: g (1 to 100000)");
        // 100000 is a number as told, but with its FEE there is never so much LEFT.
        for (int kind = 0; kind <= 7; kind++) {
            Run x = new Run(DUE).issued(100000, kind).is(-2, "spend", 0, 0).is(-2, "spend", 0, 100001);
            x.is(-5, "spend", 0, 100000).is(kind == STAFF ? 99999 : 99998, "spend", 0, 1);
            x.is(1, "count", 3).is(kind == STAFF ? 0 : 1, "count", 4);
        }
    }

    private static void upToValue() {
        Run x = sentence("-5, if g is above VALUE today").issued(19, ROUND, CLUB, HOUSE).issued(1000, STAFF);
        x.is(-5, "spend", 0, 11).is(8, "spend", 0, 10).is(-5, "spend", 0, 1);
        x.is(-5, "spend", 1, 11).is(8, "spend", 1, 10).is(-5, "spend", 1, 1);
        x.is(-5, "spend", 2, 11).is(8, "spend", 2, 10).is(-5, "spend", 2, 1);
        x.is(-5, "spend", 3, 901).is(91, "spend", 3, 900);
        Run crest = new Run(DUE).issued(19, CREST, CREST);
        crest.is(1, "spend", 0, 17).is(-5, "spend", 1, 19);
        crest.passed(1).is(-5, "spend", 1, 11).is(8, "spend", 1, 10);
        Run points = new Run(DUE).issued(319, HOUSE).is(112, "spend", 0, 202).is(-5, "spend", 0, 111);
        points.is(1, "spend", 0, 108).is(3, "paper", 0, 4).is(3, "value", 0, 0).is(-5, "spend", 0, 1);
        Run within = new Run(DUE).issued(226, HOUSE).is(19, "spend", 0, 202).is(12, "value", 0, 0);
        within.is(-5, "spend", 0, 13).is(6, "spend", 0, 12);
    }

    private static void upToLeft() {
        sentence("-5, if g and the FEE together are above LEFT; else LEFT goes down by both");
        for (int kind : new int[] {PLAIN, GIFT, SEASON, ROUND, CLUB, HOUSE, CREST}) {
            Run x = new Run(DUE).issued(1000, kind).is(-5, "spend", 0, 981).is(1000, "paper", 0, 2);
            x.is(0, "spend", 0, 980).is(0, "paper", 0, 2).is(980, "count", 3).is(20, "count", 4).is(-5, "spend", 0, 1);
        }
        Run least = new Run(DUE).issued(1, PLAIN).issued(2, PLAIN);
        least.is(-5, "spend", 0, 1).is(0, "spend", 1, 1).is(1, "count", 3).is(1, "count", 4);
        Run greatest = new Run(DUE).issued(100000, PLAIN).is(-5, "spend", 0, 98040).is(0, "spend", 0, 98039);
        greatest.is(98039, "count", 3).is(1961, "count", 4);
    }

    private static void upToLeftOfCrest() {
        sentence("-5, if g and the FEE together are above LEFT, of a CREST that pays less or none");
        Run less = new Run(DUE).issued(2000, CREST).is(979, "spend", 0, 1000).is(10, "paper", 0, 4);
        less.is(-5, "spend", 0, 970).is(0, "spend", 0, 969).is(31, "count", 4);
        Run none = new Run(DUE).issued(2000, CREST).is(979, "spend", 0, 1000).is(478, "spend", 0, 500);
        none.is(-5, "spend", 0, 479).is(0, "spend", 0, 478).is(22, "count", 4);
    }

    private static void staffOnceADay() {
        Run x = sentence("-6, if it was spent from today already").issued(1000, STAFF, STAFF);
        x.is(999, "spend", 0, 1).is(-6, "spend", 0, 1).is(-6, "spend", 0, 100000).is(-2, "spend", 0, 0);
        x.is(999, "paper", 0, 2).is(1, "count", 3).is(999, "spend", 1, 1);
        x.is(1, "pass", 1).is(998, "spend", 0, 1).is(-6, "spend", 0, 1).is(998, "spend", 1, 1);
        Run emptied = new Run(DUE).issued(9, STAFF).is(0, "spend", 0, 9).is(-6, "spend", 0, 1);
        emptied.passed(1).is(-5, "spend", 0, 1);
    }

    private static void staffRefusedIsNotSpent() {
        Run x = sentence("a refused call changes nothing: STAFF was not spent from").issued(1000, STAFF);
        x.is(-5, "spend", 0, 901).is(-2, "spend", 0, 0).is(91, "spend", 0, 900).is(-6, "spend", 0, 1);
    }

    private static void othersManyTimesADay() {
        sentence("-6 is of STAFF alone");
        for (int kind = 0; kind <= 7; kind++) {
            if (kind != STAFF) {
                new Run(DUE).issued(1000, kind).is(998, "spend", 0, 1).is(996, "spend", 0, 1).is(994, "spend", 0, 1);
            }
        }
    }

    private static void spendByLastDay(int kind, int days, int afterOne) {
        Run x = sentence("VALUE today by its LAST DAY, kind " + kind).passed(3).issued(100, kind, kind, kind);
        x.passed(days - 1).is(afterOne, "spend", 0, 1).passed(1).is(afterOne, "spend", 1, 1);
        x.passed(1).is(-5, "spend", 2, 1).is(-5, "spend", 0, 1).is(100, "paper", 2, 2);
    }

    private static void pointsByHundreds() {
        sentence("Then of HOUSE and CREST: POINTS go up by g / 100");
        for (int kind = 0; kind <= 7; kind++) {
            int by = kind >= HOUSE ? 1 : 0;
            Run x = new Run(DUE).passed(1).issued(5000, kind, kind, kind, kind);
            x.call("spend", 0, 99);
            x.call("spend", 1, 100);
            x.call("spend", 2, 199);
            x.call("spend", 3, 200);
            x.is(0, "paper", 0, 4).is(by, "paper", 1, 4).is(by, "paper", 2, 4).is(2 * by, "paper", 3, 4);
            x.is(kind == STAFF ? -6 : -5, "spend", 3, 5000).is(2 * by, "paper", 3, 4);
        }
    }

    private static void feeBeforePoints() {
        Run x = sentence("Then ... POINTS go up: not before the FEE is paid").issued(5000, CREST);
        x.is(3979, "spend", 0, 1000).is(21, "count", 4).is(10, "paper", 0, 4);
        x.is(2968, "spend", 0, 1000).is(32, "count", 4).is(20, "paper", 0, 4).is(2000, "count", 3);
    }

    // Promises 7 and 8

    private static void sealsAndMarks() {
        leastSeals();
        greatestSeals();
        sealsOfNothingLeft();
        sealOfCrest();
        marksThatAreTaken();
        markOfClubHouseCrestAlone();
    }

    private static void leastSeals() {
        Run x = sentence("promise 7: SEAL of the least").oneOfEach(1);
        int[] due = {962, 962, 1052, 992, 962, 962, 962, 962};
        for (int kind = 0; kind <= 7; kind++) {
            x.is(due[kind], "seal", kind);
        }
        x.is(-1, "seal", 8).is(-1, "seal", -1);
    }

    private static void greatestSeals() {
        Run x = sentence("promise 7: SEAL of the greatest").passed(20000).oneOfEach(100000);
        for (int kind = 0; kind <= 7; kind++) {
            int more = kind == SEASON ? 20090 : kind == STAFF ? 20030 : 0;
            x.is(96820000 + more, "seal", kind);
            x.is(Kinds.hasMark(kind) ? 677740999 : -3, "mark", kind, 999);
        }
    }

    private static void sealsOfNothingLeft() {
        Run x = sentence("promise 7: SEAL with nothing LEFT").passed(2).issued(1000, PLAIN, SEASON).issued(9, STAFF);
        x.is(0, "spend", 0, 980).is(0, "spend", 1, 980).is(0, "spend", 2, 9);
        x.is(1062, "seal", 0).is(1154, "seal", 1).is(103, "seal", 2);
    }

    private static void sealOfCrest() {
        Run x = sentence("SEAL of CREST: that of HOUSE and 3 times its POINTS").issued(1000, HOUSE, CREST);
        x.is(899, "spend", 0, 99).is(899, "spend", 1, 99).is(864939, "seal", 0).is(864939, "seal", 1);
        x.is(796, "spend", 0, 100).is(796, "spend", 1, 100).is(765956, "seal", 0).is(765959, "seal", 1);
    }

    private static void marksThatAreTaken() {
        Run x = sentence("promise 8: n (0 to 999)").oneOfEach(1);
        for (int kind = 0; kind <= 7; kind++) {
            boolean taken = Kinds.hasMark(kind);
            x.is(-2, "mark", kind, -1).is(taken ? 6734 : -3, "mark", kind, 0);
            x.is(taken ? 7733 : -3, "mark", kind, 999).is(-2, "mark", kind, 1000);
        }
    }

    private static void markOfClubHouseCrestAlone() {
        Run x = sentence("MARK of n: SEAL * 7 + n, CREST by its own SEAL").issued(1000, CLUB, HOUSE, CREST);
        for (int voucher = 0; voucher <= 2; voucher++) {
            x.is(795, "spend", voucher, 200);
        }
        x.is(764995 * 7 + 5, "mark", 0, 5).is(764995 * 7 + 5, "mark", 1, 5).is(765001 * 7 + 5, "mark", 2, 5);
    }

    // Promise 9

    private static void daysLeft() {
        daysLeftBy(SEASON, 90);
        daysLeftBy(STAFF, 30);
        daysOfDaysLeft();
    }

    private static void daysLeftBy(int kind, int days) {
        Run x = sentence("DAYS LEFT: LAST DAY - t, 0 at least, kind " + kind).passed(5).issued(100, kind);
        int last = 5 + days;
        x.is(1, "daysLeft", 0, last - 1).is(0, "daysLeft", 0, last).is(0, "daysLeft", 0, last + 1);
        x.is(0, "daysLeft", 0, last + 2).is(days, "daysLeft", 0, 5).is(last, "daysLeft", 0, 0);
    }

    private static void daysOfDaysLeft() {
        Run x = sentence("promise 9: a day (0 to 20000), of SEASON and STAFF alone").passed(20000).oneOfEach(10);
        for (int kind = 0; kind <= 7; kind++) {
            boolean taken = Kinds.hasLastDay(kind);
            int days = kind == SEASON ? 90 : 30;
            x.is(-2, "daysLeft", kind, -1).is(taken ? 20000 + days : -3, "daysLeft", kind, 0);
            x.is(taken ? days : -3, "daysLeft", kind, 20000).is(-2, "daysLeft", kind, 20001);
        }
    }

    // Promise 10

    private static void lapses() {
        lapseByLastDay(SEASON, 90);
        lapseByLastDay(STAFF, 30);
        lapseOfOthers();
        lapseOfFull();
        lapseOfGone();
        lapseOfNothingLeft();
    }

    private static void lapseByLastDay(int kind, int days) {
        Run x = sentence("promise 10: whose LAST DAY is before today, kind " + kind).passed(5).issued(100, kind);
        x.is(0, "lapse").passed(1).issued(70, kind).passed(days - 2).is(0, "lapse").is(100, "paper", 0, 2);
        x.passed(1).is(0, "lapse").is(100, "paper", 0, 2).is(0, "count", 5);
        x.passed(1).is(100, "lapse").is(0, "paper", 0, 2).is(100, "paper", 0, 1).is(70, "paper", 1, 2);
        x.is(0, "lapse").is(100, "count", 5).is(70, "count", 6);
        x.passed(1).is(70, "lapse").is(170, "count", 5).is(0, "count", 6).is(0, "count", 3);
    }

    private static void lapseOfOthers() {
        Run x = sentence("promise 10: others have no LAST DAY").issued(10, PLAIN, GIFT, ROUND, CLUB, HOUSE, CREST);
        x.passed(20000).is(0, "lapse").is(60, "count", 6).is(0, "count", 5);
    }

    private static void lapseOfFull() {
        Run x = sentence("promise 10: how much that was together, of 40");
        for (int i = 0; i < 40; i++) {
            x.issued(100000, i % 2 == 0 ? SEASON : STAFF);
        }
        x.passed(31).is(2000000, "lapse").passed(60).is(2000000, "lapse").is(4000000, "count", 5).is(0, "count", 6);
    }

    private static void lapseOfGone() {
        Run x = sentence("promise 10: a GONE one does not lapse").issued(100, STAFF).passed(10).issued(30, STAFF);
        x.is(130, "merge", 1, 0).passed(21).is(0, "lapse").is(130, "paper", 1, 2);
        x.passed(9).is(0, "lapse").passed(1).is(130, "lapse").is(130, "count", 5);
    }

    private static void lapseOfNothingLeft() {
        Run x = sentence("promise 10: LEFT, not AMOUNT").issued(1000, SEASON, SEASON).is(0, "spend", 0, 980);
        x.is(897, "spend", 1, 100).passed(91).is(897, "lapse").is(897, "count", 5);
    }

    // Promise 11

    private static void merges() {
        amountsTogether();
        bothAreOne();
        unlikeKinds();
        allIntoOne();
        mergeOfStaff();
        mergeOfStaffOnAnotherDay();
        mergeOfPoints();
        mergeOfLastDays();
        mergeWithNothingLeft();
    }

    private static void amountsTogether() {
        sentence("promise 11: -4: AMOUNTS together above 100000");
        for (int kind = 0; kind <= 7; kind++) {
            Run x = new Run(DUE).issued(60000, kind).issued(40001, kind).issued(40000, kind).issued(1, kind);
            x.is(-4, "merge", 0, 1).is(-4, "merge", 1, 0).is(100000, "merge", 2, 0).is(100000, "paper", 2, 1);
            x.is(-4, "merge", 2, 3).is(-4, "merge", 3, 2).is(40002, "merge", 3, 1).is(140002, "count", 6);
        }
        Run least = new Run(DUE).issued(1, PLAIN, PLAIN).is(2, "merge", 1, 0).is(2, "paper", 1, 2);
        least.is(2, "count", 6);
        // AMOUNTS, not what is LEFT of them.
        Run spent = new Run(DUE).issued(60000, PLAIN, PLAIN).is(8979, "spend", 0, 50020);
        spent.is(-4, "merge", 1, 0).is(-4, "merge", 0, 1).is(68979, "count", 6);
    }

    private static void bothAreOne() {
        Run x = sentence("promise 11: -2: both are one").oneOfEach(60000);
        for (int kind = 0; kind <= 7; kind++) {
            x.is(-2, "merge", kind, kind).is(60000, "paper", kind, 1).is(60000, "paper", kind, 2);
        }
        x.is(-1, "merge", 8, 8).is(-1, "merge", -1, -1);
    }

    private static void unlikeKinds() {
        Run x = sentence("promise 11: -3: unlike KINDS").oneOfEach(10);
        for (int first = 0; first <= 7; first++) {
            for (int second = 0; second <= 7; second++) {
                x.is(first == second ? -2 : -3, "merge", first, second);
            }
        }
        x.is(80, "count", 6);
    }

    private static void allIntoOne() {
        sentence("promise 11: The second one goes into the first, 40 of them");
        for (int kind = 0; kind <= 7; kind++) {
            Run x = new Run(DUE);
            for (int i = 0; i < 40; i++) {
                x.issued(2500, kind);
            }
            for (int i = 0; i < 39; i++) {
                x.is(2500 * (i + 2), "merge", 39, i);
            }
            x.is(100000, "paper", 39, 1).is(100000, "paper", 39, 2).is(100000, "count", 6).is(40, "count", 1);
            x.is(100000, "count", 2).is(kind == STAFF ? 90000 : 100000, "total", 1).is(-4, "issue", kind, 1);
        }
    }

    private static void mergeOfStaff() {
        sentence("promise 11: STAFF was spent from today, if one of the two was");
        Run none = new Run(DUE).issued(100, STAFF, STAFF).is(200, "merge", 0, 1).is(199, "spend", 0, 1);
        none.is(-6, "spend", 0, 1);
        Run first = new Run(DUE).issued(100, STAFF, STAFF).is(99, "spend", 0, 1).is(200, "merge", 0, 1);
        first.is(-6, "spend", 0, 1).passed(1).is(198, "spend", 0, 1);
        Run second = new Run(DUE).issued(100, STAFF, STAFF).is(99, "spend", 1, 1).is(200, "merge", 0, 1);
        second.is(-6, "spend", 0, 1).passed(1).is(198, "spend", 0, 1);
        Run both = new Run(DUE).issued(100, STAFF, STAFF).is(99, "spend", 1, 1).is(99, "spend", 0, 1);
        both.is(200, "merge", 0, 1).is(-6, "spend", 0, 1).passed(1).is(197, "spend", 0, 1);
    }

    private static void mergeOfStaffOnAnotherDay() {
        sentence("promise 11: STAFF was spent from today: not on a day before");
        Run x = new Run(DUE).issued(100, STAFF, STAFF, STAFF).is(99, "spend", 0, 1).is(99, "spend", 1, 1).passed(1);
        x.is(200, "merge", 0, 1).is(197, "spend", 0, 1).is(-6, "spend", 0, 1);
        x.is(300, "merge", 2, 0).is(-6, "spend", 2, 1).passed(1).is(296, "spend", 2, 1);
        Run later = new Run(DUE).issued(100, STAFF, STAFF).is(99, "spend", 1, 1).passed(1).is(99, "spend", 0, 1);
        later.is(200, "merge", 0, 1).is(-6, "spend", 0, 1).passed(1).is(197, "spend", 0, 1);
    }

    private static void mergeOfPoints() {
        sentence("promise 11: AMOUNT, LEFT and POINTS are added");
        for (int kind = 0; kind <= 7; kind++) {
            Run x = new Run(DUE).issued(1000, kind, kind);
            int left = x.call("spend", 0, 100) + x.call("spend", 1, 250);
            x.is(2000, "merge", 1, 0).is(2000, "paper", 1, 1).is(left, "paper", 1, 2).is(left, "count", 6);
            x.is(kind >= HOUSE ? 3 : 0, "paper", 1, 4).is(350, "count", 3);
        }
    }

    private static void mergeOfLastDays() {
        Run x = sentence("promise 11: FROM and LAST DAY are not added").issued(100, SEASON, STAFF).passed(7);
        x.issued(100, SEASON, STAFF).is(200, "merge", 0, 2).is(0, "paper", 0, 3).is(90, "paper", 0, 5);
        x.is(200, "merge", 3, 1).is(7, "paper", 3, 3).is(37, "paper", 3, 5);
    }

    private static void mergeWithNothingLeft() {
        Run x = sentence("promise 11: with nothing LEFT").issued(1000, GIFT, GIFT, GIFT).is(0, "spend", 0, 980);
        x.is(2000, "merge", 0, 1).is(1000, "paper", 0, 2).is(0, "count", 5).is(3000, "merge", 2, 0);
        x.is(2000, "paper", 2, 2).is(980, "count", 3).is(20, "count", 4);
    }

    // Promise 12

    private static void totals() {
        daysOfTotal();
        totalByLastDay();
        totalOfFull();
        totalWithoutGone();
    }

    private static void daysOfTotal() {
        Run x = sentence("promise 12: a day (0 to 20000)").issued(25, PLAIN, ROUND, CREST);
        x.is(-2, "total", -1).is(85, "total", 0).is(65, "total", 20000).is(-2, "total", 20001);
    }

    private static void totalByLastDay() {
        Run x = sentence("promise 12: VALUES on a day, by LAST DAYS").issued(100, SEASON, STAFF);
        x.is(190, "total", 29).is(190, "total", 30).is(100, "total", 31).is(100, "total", 89);
        x.is(100, "total", 90).is(0, "total", 91).passed(91).is(0, "total", 91).is(190, "total", 30);
    }

    private static void totalOfFull() {
        Run x = sentence("promise 12: VALUES of all, of 40");
        for (int i = 0; i < 40; i++) {
            x.is(100000 * i, "total", 1).issued(100000, CREST);
        }
        x.is(8000000, "total", 0).is(4000000, "total", 1);
    }

    private static void totalWithoutGone() {
        Run x = sentence("promise 12: a GONE one has no VALUE").issued(15, CLUB, CLUB).is(20, "total", 0);
        x.is(30, "merge", 1, 0).is(30, "total", 0);
    }

    // Promises 13 and 14

    private static void papersAndCounts() {
        whatOfPaper();
        lastDayOfPaper();
        pointsOfOtherKinds();
        whatOfCount();
        countOfFull();
        countWithGone();
    }

    private static void whatOfPaper() {
        sentence("promise 13: what = 0 to 5; -2: what");
        for (int kind = 0; kind <= 7; kind++) {
            int last = kind == SEASON ? 99 : kind == STAFF ? 39 : -3;
            int left = kind == STAFF ? 199 : 197;
            Run x = new Run(DUE).passed(9).issued(300, kind).is(left, "spend", 0, 100);
            x.is(-2, "paper", 0, -1).is(kind, "paper", 0, 0).is(300, "paper", 0, 1).is(left, "paper", 0, 2);
            x.is(9, "paper", 0, 3).is(kind >= HOUSE ? 1 : 0, "paper", 0, 4).is(last, "paper", 0, 5);
            x.is(-2, "paper", 0, 6);
        }
    }

    private static void lastDayOfPaper() {
        Run x = sentence("promise 13: -3: no LAST DAY").oneOfEach(10);
        int[] due = {-3, -3, 90, 30, -3, -3, -3, -3};
        for (int kind = 0; kind <= 7; kind++) {
            x.is(due[kind], "paper", kind, 5);
        }
        x.passed(1000).is(90, "paper", SEASON, 5).is(30, "paper", STAFF, 5);
    }

    private static void pointsOfOtherKinds() {
        Run x = sentence("promise 13: POINTS (0 of other KINDS)").oneOfEach(1000);
        for (int kind = 0; kind <= 7; kind++) {
            x.call("spend", kind, 500);
            x.is(kind >= HOUSE ? 5 : 0, "paper", kind, 4);
        }
    }

    private static void whatOfCount() {
        Run x = sentence("promise 14: 0 to 6; -2").passed(1).issued(1000, PLAIN, STAFF).is(897, "spend", 0, 100);
        x.passed(31).is(1000, "lapse").is(-2, "count", -1).is(-2, "count", 7);
        int[] due = {32, 2, 2000, 100, 3, 1000, 897};
        for (int what = 0; what <= 6; what++) {
            x.is(due[what], "count", what);
        }
    }

    private static void countOfFull() {
        Run x = sentence("promise 14: of 40");
        for (int i = 0; i < 40; i++) {
            x.is(i, "count", 1).issued(100000, SEASON).is(1, "spend", i, 98038);
        }
        x.is(-4, "issue", SEASON, 100000).passed(91).is(40, "lapse");
        int[] due = {91, 40, 4000000, 3921520, 78440, 40, 0};
        for (int what = 0; what <= 6; what++) {
            x.is(due[what], "count", what);
        }
    }

    private static void countWithGone() {
        Run x = sentence("promise 14: VOUCHERS that were issued (GONE ones, too), AMOUNTS as issued, LEFT of all");
        x.issued(1000, ROUND, ROUND).is(897, "spend", 1, 100).is(2000, "merge", 0, 1);
        int[] due = {0, 2, 2000, 100, 3, 0, 1897};
        for (int what = 0; what <= 6; what++) {
            x.is(due[what], "count", what);
        }
    }
}
