/** Each promise by its ordinary answers, its edges and its refusals, reckoned by hand from the document. */
public final class PromisesTest implements Kinds {
    private static final Due DUE = new Due();

    public static void main(String[] args) {
        newObject();
        issue();
        issueRoom();
        pass();
        value();
        valueByLastDay();
        valueWithPoints();
        fee();
        spend();
        spendOfStaff();
        spendOfCrest();
        spendWithPoints();
        seal();
        mark();
        daysLeft();
        lapse();
        merge();
        mergeOrder();
        mergeOfStaff();
        mergeOfPoints();
        mergeOfSeason();
        total();
        paper();
        count();
        objectsAreApart();
        DUE.end();
    }

    /** One voucher of each kind, with the kind as its number. */
    private static VoucherOffice oneOfEach(int amount) {
        VoucherOffice x = new VoucherOffice();
        for (int kind = 0; kind <= 7; kind++) {
            x.issue(kind, amount);
        }
        return x;
    }

    private static void passMany(VoucherOffice x, int times, int days) {
        for (int i = 0; i < times; i++) {
            x.pass(days);
        }
    }

    private static void newObject() {
        DUE.about("promise 1");
        VoucherOffice x = new VoucherOffice();
        for (int what = 0; what <= 6; what++) {
            DUE.is("count(" + what + ")", x.count(what), 0);
        }
        DUE.is("total(0)", x.total(0), 0);
        DUE.is("lapse()", x.lapse(), 0);
        for (int voucher : new int[] {LOW, -1, 0, 1, 39, 40, 41, HIGH}) {
            refusesVoucher(x, voucher);
        }
    }

    /** -1 comes before every other refusal, so the other numbers are wrong here, too. */
    private static void refusesVoucher(VoucherOffice x, int voucher) {
        String of = " of " + voucher;
        for (int n : new int[] {1, -5, HIGH}) {
            DUE.is("value" + of, x.value(voucher, n), -1);
            DUE.is("fee" + of, x.fee(voucher, n), -1);
            DUE.is("spend" + of, x.spend(voucher, n), -1);
            DUE.is("mark" + of, x.mark(voucher, n), -1);
            DUE.is("daysLeft" + of, x.daysLeft(voucher, n), -1);
            DUE.is("paper" + of, x.paper(voucher, n), -1);
        }
        DUE.is("seal" + of, x.seal(voucher), -1);
        DUE.is("merge with itself" + of, x.merge(voucher, voucher), -1);
        DUE.is("merge into 0" + of, x.merge(0, voucher), -1);
        DUE.is("merge with 0" + of, x.merge(voucher, 0), -1);
    }

    private static void issue() {
        DUE.about("promise 2");
        VoucherOffice x = new VoucherOffice();
        DUE.is("issue(0, 1)", x.issue(0, 1), 0);
        DUE.is("issue(7, 100000)", x.issue(7, 100000), 1);
        for (int kind : new int[] {LOW, -1, 8, HIGH}) {
            DUE.is("issue(" + kind + ", 1)", x.issue(kind, 1), -2);
        }
        for (int amount : new int[] {LOW, -1, 0, 100001, HIGH}) {
            DUE.is("issue(3, " + amount + ")", x.issue(3, amount), -2);
        }
        DUE.is("count(1)", x.count(1), 2);
        DUE.is("count(2)", x.count(2), 100001);
        refusesVoucher(x, 2);
        x.pass(5);
        DUE.is("issue(3, 77)", x.issue(3, 77), 2);
        DUE.is("KIND", x.paper(2, 0), 3);
        DUE.is("AMOUNT", x.paper(2, 1), 77);
        DUE.is("LEFT", x.paper(2, 2), 77);
        DUE.is("FROM", x.paper(2, 3), 5);
        DUE.is("POINTS", x.paper(1, 4), 0);
    }

    private static void issueRoom() {
        VoucherOffice x = new VoucherOffice();
        for (int i = 0; i < 38; i++) {
            DUE.is("issue " + i, x.issue(i % 8, 10), i);
        }
        DUE.is("merge(0, 8)", x.merge(0, 8), 20);
        DUE.is("issue 38", x.issue(0, 10), 38);
        DUE.is("issue 39", x.issue(0, 10), 39);
        DUE.is("issue beyond 40", x.issue(0, 10), -4);
        DUE.is("merge(0, 39)", x.merge(0, 39), 30);
        DUE.is("GONE ones leave no room", x.issue(0, 10), -4);
        DUE.is("-2 is before -4", x.issue(8, 10), -2);
        DUE.is("-2 is before -4", x.issue(0, 0), -2);
        DUE.is("count(1)", x.count(1), 40);
        DUE.is("count(2)", x.count(2), 400);
        refusesVoucher(x, 39);
        refusesVoucher(x, 40);
    }

    private static void pass() {
        DUE.about("promise 3");
        VoucherOffice x = new VoucherOffice();
        DUE.is("pass(1)", x.pass(1), 1);
        DUE.is("pass(1000)", x.pass(1000), 1001);
        for (int days : new int[] {LOW, -1, 0, 1001, HIGH}) {
            DUE.is("pass(" + days + ")", x.pass(days), -2);
        }
        DUE.is("count(0)", x.count(0), 1001);
        passMany(x, 18, 1000);
        DUE.is("pass(1000)", x.pass(1000), -4);
        DUE.is("count(0)", x.count(0), 19001);
        DUE.is("pass(999)", x.pass(999), 20000);
        DUE.is("pass(1)", x.pass(1), -4);
        DUE.is("-2 is before -4", x.pass(1001), -2);
        DUE.is("count(0)", x.count(0), 20000);
        DUE.is("issue on the last day", x.issue(SEASON, 100), 0);
        DUE.is("LAST DAY", x.paper(0, 5), 20090);
        DUE.is("daysLeft", x.daysLeft(0, 20000), 90);
    }

    private static void value() {
        DUE.about("promise 4");
        VoucherOffice x = oneOfEach(1019);
        int[] onDayOne = {1019, 1019, 1019, 918, 1010, 1010, 1010, 1010};
        for (int kind = 0; kind <= 7; kind++) {
            DUE.is("value(" + kind + ", 1)", x.value(kind, 1), onDayOne[kind]);
            for (int day : new int[] {LOW, -1, 20001, HIGH}) {
                DUE.is("value(" + kind + ", " + day + ")", x.value(kind, day), -2);
            }
        }
        DUE.is("CREST on 0", x.value(CREST, 0), 2020);
        DUE.is("CREST on 6", x.value(CREST, 6), 1010);
        DUE.is("CREST on 7", x.value(CREST, 7), 2020);
        DUE.is("CREST on 8", x.value(CREST, 8), 1010);
        DUE.is("CREST on 19999", x.value(CREST, 19999), 2020);
        DUE.is("HOUSE on 7", x.value(HOUSE, 7), 1010);
        DUE.is("PLAIN on 20000", x.value(PLAIN, 20000), 1019);
        DUE.is("GIFT on 20000", x.value(GIFT, 20000), 1019);
        DUE.is("ROUND on 20000", x.value(ROUND, 20000), 1010);
        VoucherOffice small = oneOfEach(9);
        int[] ofNine = {9, 9, 9, 9, 0, 0, 0, 0};
        VoucherOffice ten = oneOfEach(10);
        int[] ofTen = {10, 10, 10, 9, 10, 10, 10, 10};
        for (int kind = 0; kind <= 7; kind++) {
            DUE.is("value of 9, kind " + kind, small.value(kind, 1), ofNine[kind]);
            DUE.is("value of 10, kind " + kind, ten.value(kind, 1), ofTen[kind]);
        }
    }

    private static void valueByLastDay() {
        VoucherOffice x = new VoucherOffice();
        x.pass(10);
        x.issue(SEASON, 200);
        x.issue(STAFF, 200);
        DUE.is("SEASON before FROM", x.value(0, 0), 200);
        DUE.is("SEASON on its LAST DAY", x.value(0, 100), 200);
        DUE.is("SEASON behind it", x.value(0, 101), 0);
        DUE.is("STAFF before FROM", x.value(1, 0), 180);
        DUE.is("STAFF on its LAST DAY", x.value(1, 40), 180);
        DUE.is("STAFF behind it", x.value(1, 41), 0);
        DUE.is("LEFT stays", x.paper(1, 2), 200);
    }

    private static void valueWithPoints() {
        VoucherOffice x = oneOfEach(5000);
        x.pass(1);
        for (int kind = 0; kind <= 7; kind++) {
            x.spend(kind, 1234);
        }
        int[] due = {3741, 3741, 3741, 3379, 3740, 3740, 3752, 3752};
        for (int kind = 0; kind <= 7; kind++) {
            DUE.is("value of kind " + kind, x.value(kind, 1), due[kind]);
        }
        DUE.is("CREST on 14: POINTS twice, too", x.value(CREST, 14), 7504);
        DUE.is("HOUSE on 14", x.value(HOUSE, 14), 3752);
    }

    private static void fee() {
        DUE.about("promise 5");
        VoucherOffice x = oneOfEach(100000);
        int[] sums = {1, 49, 50, 99, 100, 149, 150, 100000};
        int[] whole = {1, 1, 2, 2, 3, 3, 4, 2001};
        int[] half = {0, 0, 1, 1, 1, 1, 2, 1000};
        for (int kind = 0; kind <= 7; kind++) {
            for (int i = 0; i < sums.length; i++) {
                int want = kind == STAFF ? half[i] : whole[i];
                DUE.is("fee(" + kind + ", " + sums[i] + ")", x.fee(kind, sums[i]), want);
            }
            for (int g : new int[] {LOW, -1, 0, 100001, HIGH}) {
                DUE.is("fee(" + kind + ", " + g + ")", x.fee(kind, g), -2);
            }
        }
        x.spend(CREST, 300);
        x.spend(HOUSE, 300);
        DUE.is("CREST less its POINTS", x.fee(CREST, 150), 1);
        DUE.is("CREST less all", x.fee(CREST, 100), 0);
        DUE.is("CREST 0 at least", x.fee(CREST, 1), 0);
        DUE.is("HOUSE pays all", x.fee(HOUSE, 150), 4);
        DUE.is("fee of more than there is", x.fee(PLAIN, 100000), 2001);
        DUE.is("asking costs nothing", x.count(4), 14);
    }

    private static void spend() {
        DUE.about("promise 6");
        VoucherOffice x = oneOfEach(1000);
        for (int kind = 0; kind <= 7; kind++) {
            for (int g : new int[] {LOW, -1, 0, 100001, HIGH}) {
                DUE.is("spend(" + kind + ", " + g + ")", x.spend(kind, g), -2);
            }
            DUE.is("all of it, and no FEE left", x.spend(kind, 1000), -5);
            DUE.is("far above", x.spend(kind, 100000), -5);
            DUE.is("LEFT", x.paper(kind, 2), 1000);
            DUE.is("POINTS", x.paper(kind, 4), 0);
        }
        DUE.is("nothing spent", x.count(3) + x.count(4), 0);
        DUE.is("981 and 20", x.spend(PLAIN, 981), -5);
        DUE.is("980 and 20", x.spend(PLAIN, 980), 0);
        DUE.is("of nothing", x.spend(PLAIN, 1), -5);
        DUE.is("GIFT", x.spend(GIFT, 500), 489);
        DUE.is("SEASON twice a day", x.spend(SEASON, 100), 897);
        DUE.is("SEASON twice a day", x.spend(SEASON, 100), 794);
        DUE.is("ROUND", x.spend(ROUND, 100), 897);
        DUE.is("ROUND: above VALUE", x.spend(ROUND, 891), -5);
        DUE.is("CLUB", x.spend(CLUB, 99), 899);
        DUE.is("spent", x.count(3), 980 + 500 + 200 + 100 + 99);
        DUE.is("FEES", x.count(4), 20 + 11 + 6 + 3 + 2);
        x.pass(90);
        DUE.is("SEASON on its LAST DAY", x.spend(SEASON, 100), 691);
        x.pass(1);
        DUE.is("SEASON behind it", x.spend(SEASON, 1), -5);
        VoucherOffice y = new VoucherOffice();
        y.issue(ROUND, 19);
        DUE.is("ROUND: above VALUE, not above LEFT", y.spend(0, 11), -5);
        DUE.is("ROUND: its VALUE", y.spend(0, 10), 8);
        DUE.is("ROUND: no VALUE", y.spend(0, 1), -5);
    }

    private static void spendOfStaff() {
        VoucherOffice x = new VoucherOffice();
        x.issue(STAFF, 1000);
        x.issue(STAFF, 1000);
        DUE.is("above VALUE", x.spend(0, 901), -5);
        DUE.is("a refused one is none", x.spend(0, 100), 899);
        DUE.is("today already", x.spend(0, 100), -6);
        DUE.is("-6 is before -5", x.spend(0, 100000), -6);
        DUE.is("-2 is before -6", x.spend(0, 0), -2);
        DUE.is("another one", x.spend(1, 1), 999);
        x.pass(1);
        DUE.is("on another day", x.spend(0, 49), 850);
        DUE.is("today already", x.spend(0, 1), -6);
        x.pass(29);
        DUE.is("on its LAST DAY", x.spend(0, 50), 799);
        x.pass(1);
        DUE.is("behind it", x.spend(0, 1), -5);
        DUE.is("spent", x.count(3), 200);
        DUE.is("FEES", x.count(4), 1 + 0 + 0 + 1);
        VoucherOffice y = new VoucherOffice();
        y.issue(STAFF, 9);
        DUE.is("all of it, without FEE", y.spend(0, 9), 0);
        DUE.is("was spent from today, with nothing LEFT, too", y.spend(0, 1), -6);
    }

    private static void spendOfCrest() {
        VoucherOffice x = new VoucherOffice();
        x.issue(CREST, 1005);
        DUE.is("VALUE twice, LEFT is not", x.spend(0, 1001), -5);
        DUE.is("more than VALUE once", x.spend(0, 985), 0);
        DUE.is("POINTS", x.paper(0, 4), 9);
        DUE.is("VALUE is its POINTS", x.value(0, 1), 9);
        DUE.is("no LEFT", x.spend(0, 1), -5);
        x.issue(CREST, 1005);
        x.pass(1);
        DUE.is("above VALUE on day 1", x.spend(1, 1001), -5);
        x.issue(CREST, 10000);
        DUE.is("FEE is of the POINTS before", x.spend(2, 5000), 4899);
        DUE.is("then no FEE", x.spend(2, 2000), 2899);
        DUE.is("FEES", x.count(4), 20 + 101);
        DUE.is("POINTS", x.paper(2, 4), 70);
        DUE.is("all that is LEFT, without FEE", x.spend(2, 2899), 0);
        DUE.is("spent", x.count(3), 985 + 9899);
    }

    private static void spendWithPoints() {
        VoucherOffice x = new VoucherOffice();
        x.issue(HOUSE, 1000);
        x.issue(CREST, 1000);
        x.pass(1);
        DUE.is("HOUSE 99", x.spend(0, 99), 899);
        DUE.is("no POINTS", x.paper(0, 4), 0);
        DUE.is("HOUSE 100", x.spend(0, 100), 796);
        DUE.is("a POINT", x.paper(0, 4), 1);
        DUE.is("HOUSE 700", x.spend(0, 700), 81);
        DUE.is("POINTS", x.paper(0, 4), 8);
        DUE.is("HOUSE: POINTS are in VALUE, not in LEFT", x.spend(0, 88), -5);
        DUE.is("HOUSE: LEFT for both", x.spend(0, 79), 0);
        DUE.is("CREST 199", x.spend(1, 199), 797);
        DUE.is("a POINT", x.paper(1, 4), 1);
    }

    private static void seal() {
        DUE.about("promise 7");
        VoucherOffice x = new VoucherOffice();
        x.pass(3);
        for (int kind = 0; kind <= 7; kind++) {
            x.issue(kind, 1000);
        }
        for (int kind = 0; kind <= 7; kind++) {
            int more = kind == SEASON ? 93 : kind == STAFF ? 33 : 0;
            DUE.is("seal(" + kind + ")", x.seal(kind), 962093 + more);
            x.spend(kind, 200);
        }
        int spentFrom = 795 * 961 + 93 + 1000;
        int[] due = {spentFrom, spentFrom, spentFrom + 93, spentFrom + 3 * 961 + 33, spentFrom, spentFrom,
            spentFrom, spentFrom + 6};
        for (int kind = 0; kind <= 7; kind++) {
            DUE.is("seal(" + kind + ") then", x.seal(kind), due[kind]);
        }
        VoucherOffice late = new VoucherOffice();
        passMany(late, 20, 1000);
        late.issue(SEASON, 100000);
        DUE.is("the highest", late.seal(0), 96840090);
    }

    private static void mark() {
        DUE.about("promise 8");
        VoucherOffice x = oneOfEach(1000);
        x.spend(CREST, 200);
        for (int kind = 0; kind <= 7; kind++) {
            for (int n : new int[] {LOW, -1, 1000, HIGH}) {
                DUE.is("mark(" + kind + ", " + n + "): -2 is before -3", x.mark(kind, n), -2);
            }
            for (int n : new int[] {0, 1, 999}) {
                int seal = kind == CREST ? 795 * 961 + 1000 + 6 : 962000;
                DUE.is("mark(" + kind + ", " + n + ")", x.mark(kind, n), kind < CLUB ? -3 : seal * 7 + n);
            }
        }
    }

    private static void daysLeft() {
        DUE.about("promise 9");
        VoucherOffice x = new VoucherOffice();
        x.pass(10);
        for (int kind = 0; kind <= 7; kind++) {
            x.issue(kind, 100);
        }
        for (int kind = 0; kind <= 7; kind++) {
            boolean ends = kind == SEASON || kind == STAFF;
            int last = kind == SEASON ? 100 : 40;
            DUE.is("daysLeft(" + kind + ", 0)", x.daysLeft(kind, 0), ends ? last : -3);
            DUE.is("daysLeft(" + kind + ", 39)", x.daysLeft(kind, 39), ends ? last - 39 : -3);
            DUE.is("the day before", x.daysLeft(kind, last - 1), ends ? 1 : -3);
            DUE.is("on it", x.daysLeft(kind, last), ends ? 0 : -3);
            DUE.is("behind it", x.daysLeft(kind, last + 1), ends ? 0 : -3);
            DUE.is("daysLeft(" + kind + ", 20000)", x.daysLeft(kind, 20000), ends ? 0 : -3);
            for (int day : new int[] {LOW, -1, 20001, HIGH}) {
                DUE.is("daysLeft(" + kind + ", " + day + "): -2 is before -3", x.daysLeft(kind, day), -2);
            }
        }
    }

    private static void lapse() {
        DUE.about("promise 10");
        VoucherOffice x = oneOfEach(1000);
        x.issue(STAFF, 50);
        x.spend(STAFF, 100);
        DUE.is("on day 0", x.lapse(), 0);
        x.pass(30);
        DUE.is("on the LAST DAY of STAFF", x.lapse(), 0);
        x.issue(STAFF, 7);
        x.pass(1);
        DUE.is("behind it", x.lapse(), 899 + 50);
        DUE.is("once", x.lapse(), 0);
        DUE.is("LEFT of STAFF", x.paper(STAFF, 2), 0);
        DUE.is("AMOUNT of STAFF", x.paper(STAFF, 1), 1000);
        DUE.is("a later STAFF", x.paper(9, 2), 7);
        DUE.is("LEFT of SEASON", x.paper(SEASON, 2), 1000);
        DUE.is("seal of lapsed STAFF", x.seal(STAFF), 1030);
        x.pass(59);
        DUE.is("on the LAST DAY of SEASON", x.lapse(), 7);
        x.pass(1);
        DUE.is("behind it", x.lapse(), 1000);
        DUE.is("lapsed", x.count(5), 899 + 50 + 7 + 1000);
        DUE.is("LEFT of all", x.count(6), 6000);
        passMany(x, 19, 1000);
        DUE.is("others never", x.lapse(), 0);
    }

    private static void merge() {
        DUE.about("promise 11");
        VoucherOffice x = new VoucherOffice();
        x.issue(PLAIN, 60000);
        x.pass(2);
        x.issue(PLAIN, 40000);
        x.issue(PLAIN, 1);
        x.spend(0, 1000);
        x.spend(1, 100);
        DUE.is("merge(1, 0)", x.merge(1, 0), 100000);
        DUE.is("AMOUNT", x.paper(1, 1), 100000);
        DUE.is("LEFT", x.paper(1, 2), 60000 - 1021 + 40000 - 103);
        DUE.is("FROM is the first one's", x.paper(1, 3), 2);
        DUE.is("POINTS", x.paper(1, 4), 0);
        refusesVoucher(x, 0);
        DUE.is("above 100000", x.merge(1, 2), -4);
        DUE.is("above 100000", x.merge(2, 1), -4);
        DUE.is("nothing is changed", x.paper(1, 1) + x.paper(2, 1), 100001);
        DUE.is("LEFT of all", x.count(6), 60000 - 1021 + 40000 - 103 + 1);
        DUE.is("issued", x.count(1), 3);
        DUE.is("AMOUNTS as issued", x.count(2), 100001);
        DUE.is("spent", x.count(3), 1100);
        DUE.is("FEES", x.count(4), 24);
    }

    private static void mergeOrder() {
        VoucherOffice x = oneOfEach(60000);
        for (int i = 0; i <= 7; i++) {
            DUE.is("both are one, before -4", x.merge(i, i), -2);
            for (int k = 0; k <= 7; k++) {
                if (i != k) {
                    DUE.is("merge(" + i + ", " + k + "): -3 is before -4", x.merge(i, k), -3);
                }
            }
            DUE.is("AMOUNT", x.paper(i, 1), 60000);
        }
    }

    private static void mergeOfStaff() {
        VoucherOffice x = new VoucherOffice();
        for (int i = 0; i < 6; i++) {
            x.issue(STAFF, 1000);
        }
        x.spend(1, 100);
        x.spend(2, 100);
        DUE.is("the second was spent from", x.merge(0, 1), 2000);
        DUE.is("so is the first", x.spend(0, 1), -6);
        DUE.is("the first was spent from", x.merge(2, 3), 2000);
        DUE.is("and is", x.spend(2, 1), -6);
        DUE.is("none was", x.merge(4, 5), 2000);
        DUE.is("and is not", x.spend(4, 1), 1999);
        x.pass(1);
        DUE.is("the next day", x.spend(0, 1), 1898);
        DUE.is("today and an earlier day", x.merge(0, 2), 4000);
        DUE.is("is today", x.spend(0, 1), -6);
        DUE.is("an earlier day and today", x.merge(4, 0), 6000);
        DUE.is("is today", x.spend(4, 1), -6);
        x.pass(1);
        DUE.is("the next day", x.spend(4, 1), 1898 + 1899 + 1999 - 1);
    }

    private static void mergeOfPoints() {
        for (int kind = HOUSE; kind <= CREST; kind++) {
            VoucherOffice x = new VoucherOffice();
            x.issue(kind, 1000);
            x.issue(kind, 1000);
            x.spend(0, 200);
            x.spend(1, 500);
            DUE.is("merge(0, 1)", x.merge(0, 1), 2000);
            DUE.is("POINTS", x.paper(0, 4), 7);
            DUE.is("LEFT", x.paper(0, 2), 1000 - 205 + 1000 - 511);
            DUE.is("VALUE", x.value(0, 1), 1287);
            DUE.is("FEE", x.fee(0, 500), kind == CREST ? 4 : 11);
        }
    }

    private static void mergeOfSeason() {
        VoucherOffice x = new VoucherOffice();
        x.issue(SEASON, 100);
        x.pass(50);
        x.issue(SEASON, 30);
        x.issue(SEASON, 5);
        DUE.is("a later one into an earlier", x.merge(0, 2), 105);
        DUE.is("LAST DAY is the first one's", x.paper(0, 5), 90);
        DUE.is("an earlier one into a later", x.merge(1, 0), 135);
        DUE.is("LAST DAY is the first one's", x.paper(1, 5), 140);
        x.pass(41);
        DUE.is("a GONE one does not lapse", x.lapse(), 0);
        x.pass(50);
        DUE.is("all of it lapses", x.lapse(), 135);
    }

    private static void total() {
        DUE.about("promise 12");
        VoucherOffice x = oneOfEach(1019);
        int round = 4 * 1010;
        DUE.is("total(1)", x.total(1), 3 * 1019 + 918 + round);
        DUE.is("total(0)", x.total(0), 3 * 1019 + 918 + round + 1010);
        DUE.is("total(30)", x.total(30), 3 * 1019 + 918 + round);
        DUE.is("total(31)", x.total(31), 3 * 1019 + round);
        DUE.is("total(90)", x.total(90), 3 * 1019 + round);
        DUE.is("total(91)", x.total(91), 2 * 1019 + round + 1010);
        DUE.is("total(20000)", x.total(20000), 2 * 1019 + round);
        for (int day : new int[] {LOW, -1, 20001, HIGH}) {
            DUE.is("total(" + day + ")", x.total(day), -2);
        }
        x.issue(ROUND, 19);
        DUE.is("with one more", x.total(20000), 2 * 1019 + round + 10);
        x.merge(ROUND, 8);
        DUE.is("GONE ones are not in it", x.total(20000), 2 * 1019 + round + 20);
        VoucherOffice full = new VoucherOffice();
        for (int i = 0; i < 40; i++) {
            full.issue(CREST, 100000);
        }
        DUE.is("the highest", full.total(0), 8000000);
    }

    private static void paper() {
        DUE.about("promise 13");
        VoucherOffice x = new VoucherOffice();
        x.pass(4);
        for (int kind = 0; kind <= 7; kind++) {
            x.issue(kind, 500 + kind);
        }
        for (int kind = 0; kind <= 7; kind++) {
            x.spend(kind, 200);
            boolean points = kind == HOUSE || kind == CREST;
            int last = kind == SEASON ? 94 : kind == STAFF ? 34 : -3;
            DUE.is("KIND", x.paper(kind, 0), kind);
            DUE.is("AMOUNT of " + kind, x.paper(kind, 1), 500 + kind);
            DUE.is("LEFT of " + kind, x.paper(kind, 2), 300 + kind - (kind == STAFF ? 2 : 5));
            DUE.is("FROM of " + kind, x.paper(kind, 3), 4);
            DUE.is("POINTS of " + kind, x.paper(kind, 4), points ? 2 : 0);
            DUE.is("LAST DAY of " + kind, x.paper(kind, 5), last);
            for (int what : new int[] {LOW, -1, 6, HIGH}) {
                DUE.is("paper(" + kind + ", " + what + ")", x.paper(kind, what), -2);
            }
        }
    }

    private static void count() {
        DUE.about("promise 14");
        VoucherOffice x = new VoucherOffice();
        x.pass(12);
        x.issue(STAFF, 300);
        x.issue(GIFT, 400);
        x.issue(GIFT, 500);
        x.spend(0, 100);
        x.spend(1, 150);
        x.merge(1, 2);
        x.pass(31);
        x.lapse();
        int[] due = {43, 3, 1200, 250, 5, 199, 746};
        for (int what = 0; what <= 6; what++) {
            DUE.is("count(" + what + ")", x.count(what), due[what]);
        }
        for (int what : new int[] {LOW, -1, 7, HIGH}) {
            DUE.is("count(" + what + ")", x.count(what), -2);
        }
    }

    private static void objectsAreApart() {
        DUE.about("promise 1");
        VoucherOffice one = oneOfEach(100);
        VoucherOffice other = new VoucherOffice();
        one.pass(3);
        DUE.is("count(0) of the other", other.count(0), 0);
        DUE.is("count(1) of the other", other.count(1), 0);
        DUE.is("issue of the other", other.issue(0, 5), 0);
        DUE.is("AMOUNT of the one", one.paper(0, 1), 100);
    }
}
