import java.util.Random;

/**
 * Long runs of calls against a model that holds all in flat rows and asks the KIND at each place,
 * as the terms of the document are written. The seed is fixed: each time the same calls.
 */
public final class ModelTest {
    private static final int RUNS = 2000;
    // With the seven counts at its end a run has the 512 calls for which answers are promised.
    private static final int CALLS = 505;
    private static final int[] ODD = {Integer.MIN_VALUE, -1, 0, 8, 40, 1000, 1001, 20000, 20001, 100000, 100001,
        Integer.MAX_VALUE};

    public static void main(String[] args) {
        Due due = new Due();
        Random random = new Random(20261116L);
        int[] seen = new int[7];
        for (int run = 0; run < RUNS; run++) {
            due.about("run " + run);
            oneRun(due, random, seen);
        }
        for (int refusal = 1; refusal <= 6; refusal++) {
            due.holds("the runs saw " + -refusal, seen[refusal] > 0);
        }
        due.end();
    }

    private static void oneRun(Due due, Random random, int[] seen) {
        VoucherOffice office = new VoucherOffice();
        Model model = new Model();
        int kinds = 1 + random.nextInt(8);
        int highest = random.nextBoolean() ? 3000 : 100000;
        int longest = random.nextInt(4) == 0 ? 1000 : 12;
        for (int i = 0; i < CALLS; i++) {
            int call = i < 4 ? 0 : random.nextInt(17);
            int a = first(random, call, kinds, longest, model);
            int b = second(random, call, highest, model, a);
            int want = model.call(call, a, b);
            due.is("call " + call + "(" + a + ", " + b + ")", call(office, call, a, b), want);
            if (want < 0) {
                seen[-want]++;
            }
        }
        for (int what = 0; what <= 6; what++) {
            due.is("count(" + what + ")", office.count(what), model.call(12, what, 0));
        }
    }

    private static int first(Random random, int call, int kinds, int longest, Model model) {
        if (random.nextInt(40) == 0) {
            return ODD[random.nextInt(ODD.length)];
        }
        switch (call) {
            case 0: return 7 - random.nextInt(kinds);
            case 1: return 1 + random.nextInt(longest);
            case 10: return model.day + random.nextInt(100);
            case 12: return random.nextInt(7);
            default: return random.nextInt(model.issued + 1);
        }
    }

    private static int second(Random random, int call, int highest, Model model, int a) {
        if (random.nextInt(40) == 0) {
            return ODD[random.nextInt(ODD.length)];
        }
        switch (call) {
            case 0: return 1 + random.nextInt(highest);
            case 2: case 7: return Math.max(0, model.day - 50 + random.nextInt(150));
            case 6: return random.nextInt(1000);
            case 9: return random.nextInt(model.issued + 1);
            case 11: return random.nextInt(6);
            default: break;
        }
        boolean there = model.isThere(a) && model.left[a] > 0;
        // Close to LEFT and to VALUE is where refusals begin.
        if (there && random.nextInt(3) == 0) {
            int near = random.nextBoolean() ? model.left[a] * 50 / 51 : model.value(a, model.day);
            return near - 3 + random.nextInt(7);
        }
        return 1 + random.nextInt(there ? model.left[a] : highest);
    }

    private static int call(VoucherOffice x, int call, int a, int b) {
        switch (call) {
            case 0: return x.issue(a, b);
            case 1: return x.pass(a);
            case 2: return x.value(a, b);
            case 3: return x.fee(a, b);
            case 5: return x.seal(a);
            case 6: return x.mark(a, b);
            case 7: return x.daysLeft(a, b);
            case 8: return x.lapse();
            case 9: return x.merge(a, b);
            case 10: return x.total(a);
            case 11: return x.paper(a, b);
            case 12: return x.count(a);
            default: return x.spend(a, b);
        }
    }

    private static final class Model {
        int day;
        int issued;
        final int[] kind = new int[40];
        final int[] amount = new int[40];
        final int[] left = new int[40];
        final int[] from = new int[40];
        final int[] points = new int[40];
        final boolean[] gone = new boolean[40];
        final boolean[] spentToday = new boolean[40];
        final int[] sums = new int[7];

        int call(int call, int a, int b) {
            switch (call) {
                case 0: return issue(a, b);
                case 1: return pass(a);
                case 8: return lapse();
                case 9: return merge(a, b);
                case 10: return in(a, 0, 20000) ? total(a) : -2;
                case 12: return in(a, 0, 6) ? count(a) : -2;
                default: return isThere(a) ? ofVoucher(call, a, b) : -1;
            }
        }

        private int ofVoucher(int call, int v, int b) {
            switch (call) {
                case 2: return in(b, 0, 20000) ? value(v, b) : -2;
                case 3: return in(b, 1, 100000) ? fee(v, b) : -2;
                case 5: return seal(v);
                case 6: return !in(b, 0, 999) ? -2 : kind[v] < 5 ? -3 : seal(v) * 7 + b;
                case 7: return !in(b, 0, 20000) ? -2 : !ends(v) ? -3 : lastDay(v) > b ? lastDay(v) - b : 0;
                case 11: return paper(v, b);
                default: return in(b, 1, 100000) ? spend(v, b) : -2;
            }
        }

        boolean isThere(int v) {
            return in(v, 0, issued - 1) && !gone[v];
        }

        int value(int v, int t) {
            int tens = left[v] / 10;
            switch (kind[v]) {
                case 0: case 1: return left[v];
                case 2: return t <= from[v] + 90 ? left[v] : 0;
                case 3: return t <= from[v] + 30 ? left[v] - tens : 0;
                case 4: case 5: return tens * 10;
                case 6: return tens * 10 + points[v];
                default: return (tens * 10 + points[v]) * (t % 7 == 0 ? 2 : 1);
            }
        }

        private int fee(int v, int g) {
            int whole = g / 50 + 1;
            if (kind[v] == 3) {
                return whole / 2;
            }
            if (kind[v] == 7) {
                return whole > points[v] ? whole - points[v] : 0;
            }
            return whole;
        }

        private int spend(int v, int g) {
            if (kind[v] == 3 && spentToday[v]) {
                return -6;
            }
            int fee = fee(v, g);
            if (g > value(v, day) || g + fee > left[v]) {
                return -5;
            }
            left[v] -= g + fee;
            spentToday[v] = true;
            points[v] += kind[v] >= 6 ? g / 100 : 0;
            sums[3] += g;
            sums[4] += fee;
            return left[v];
        }

        private int seal(int v) {
            int base = left[v] * 961 + from[v] * 31 + amount[v];
            return base + (ends(v) ? lastDay(v) : 0) + (kind[v] == 7 ? 3 * points[v] : 0);
        }

        private int paper(int v, int what) {
            if (!in(what, 0, 5)) {
                return -2;
            }
            if (what == 5) {
                return ends(v) ? lastDay(v) : -3;
            }
            return new int[] {kind[v], amount[v], left[v], from[v], points[v]}[what];
        }

        private int issue(int k, int a) {
            if (!in(k, 0, 7) || !in(a, 1, 100000)) {
                return -2;
            }
            if (issued == 40) {
                return -4;
            }
            kind[issued] = k;
            amount[issued] = a;
            left[issued] = a;
            from[issued] = day;
            sums[2] += a;
            return issued++;
        }

        private int pass(int days) {
            if (!in(days, 1, 1000)) {
                return -2;
            }
            if (day + days > 20000) {
                return -4;
            }
            day += days;
            java.util.Arrays.fill(spentToday, false);
            return day;
        }

        private int lapse() {
            int sum = 0;
            for (int v = 0; v < issued; v++) {
                if (!gone[v] && ends(v) && lastDay(v) < day) {
                    sum += left[v];
                    left[v] = 0;
                }
            }
            sums[5] += sum;
            return sum;
        }

        private int merge(int a, int b) {
            if (!isThere(a) || !isThere(b)) {
                return -1;
            }
            if (a == b) {
                return -2;
            }
            if (kind[a] != kind[b]) {
                return -3;
            }
            if (amount[a] + amount[b] > 100000) {
                return -4;
            }
            amount[a] += amount[b];
            left[a] += left[b];
            points[a] += points[b];
            spentToday[a] |= spentToday[b];
            gone[b] = true;
            return amount[a];
        }

        private int total(int t) {
            int sum = 0;
            for (int v = 0; v < issued; v++) {
                sum += gone[v] ? 0 : value(v, t);
            }
            return sum;
        }

        private int count(int what) {
            int all = 0;
            for (int v = 0; v < issued; v++) {
                all += gone[v] ? 0 : left[v];
            }
            return what == 0 ? day : what == 1 ? issued : what == 6 ? all : sums[what];
        }

        private boolean ends(int v) {
            return kind[v] == 2 || kind[v] == 3;
        }

        private int lastDay(int v) {
            return from[v] + (kind[v] == 2 ? 90 : 30);
        }

        private static boolean in(int n, int low, int high) {
            return low <= n && n <= high;
        }
    }
}
