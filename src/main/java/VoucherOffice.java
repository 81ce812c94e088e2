/**
 * An office for vouchers of eight kinds. The kinds are classes of which each says only what it does
 * otherwise than the one that the document names for it.
 */
public final class VoucherOffice {
    private static final int NO_VOUCHER = -1;
    private static final int BAD_NUMBER = -2;
    private static final int OTHER_KIND = -3;
    private static final int NO_ROOM = -4;
    private static final int NOT_COVERED = -5;
    private static final int SPENT_TODAY = -6;

    private static final int MOST_VOUCHERS = 40;
    private static final int MOST_AMOUNT = 100000;
    private static final int LAST_OF_DAYS = 20000;
    private static final int MOST_DAYS_AT_ONCE = 1000;
    private static final int HIGHEST_KIND = 7;
    private static final int HIGHEST_MARK = 999;

    private final Plain[] vouchers;
    private int issued;
    private int today;
    private int issuedAmounts;
    private int spentTogether;
    private int feesTogether;
    private int lapsedTogether;

    public VoucherOffice() {
        vouchers = new Plain[MOST_VOUCHERS];
        issued = 0;
        today = 0;
        issuedAmounts = 0;
        spentTogether = 0;
        feesTogether = 0;
        lapsedTogether = 0;
    }

    public int issue(int kind, int amount) {
        if (isOutside(kind, 0, HIGHEST_KIND) || isOutside(amount, 1, MOST_AMOUNT)) {
            return BAD_NUMBER;
        }
        if (issued >= MOST_VOUCHERS) {
            return NO_ROOM;
        }
        int number = issued;
        vouchers[number] = newVoucher(kind, amount, today);
        issued = number + 1;
        issuedAmounts += amount;
        return number;
    }

    public int pass(int days) {
        if (isOutside(days, 1, MOST_DAYS_AT_ONCE)) {
            return BAD_NUMBER;
        }
        if (today + days > LAST_OF_DAYS) {
            return NO_ROOM;
        }
        today += days;
        return today;
    }

    public int value(int voucher, int day) {
        Plain found = find(voucher);
        if (found == null) {
            return NO_VOUCHER;
        }
        if (isOutside(day, 0, LAST_OF_DAYS)) {
            return BAD_NUMBER;
        }
        return found.valueOn(day);
    }

    public int fee(int voucher, int g) {
        Plain found = find(voucher);
        if (found == null) {
            return NO_VOUCHER;
        }
        if (isOutside(g, 1, MOST_AMOUNT)) {
            return BAD_NUMBER;
        }
        return found.feeOf(g);
    }

    public int spend(int voucher, int g) {
        Plain found = find(voucher);
        if (found == null) {
            return NO_VOUCHER;
        }
        if (isOutside(g, 1, MOST_AMOUNT)) {
            return BAD_NUMBER;
        }
        // Asked before spending, for the POINTS that come with it may lower the FEE.
        int paid = found.feeOf(g);
        int answer = found.spendOn(today, g);
        if (answer >= 0) {
            spentTogether += g;
            feesTogether += paid;
        }
        return answer;
    }

    public int seal(int voucher) {
        Plain found = find(voucher);
        if (found == null) {
            return NO_VOUCHER;
        }
        return found.sealNow();
    }

    public int mark(int voucher, int n) {
        Plain found = find(voucher);
        if (found == null) {
            return NO_VOUCHER;
        }
        if (isOutside(n, 0, HIGHEST_MARK)) {
            return BAD_NUMBER;
        }
        return found.markOf(n);
    }

    public int daysLeft(int voucher, int day) {
        Plain found = find(voucher);
        if (found == null) {
            return NO_VOUCHER;
        }
        if (isOutside(day, 0, LAST_OF_DAYS)) {
            return BAD_NUMBER;
        }
        return found.daysLeftOn(day);
    }

    public int lapse() {
        int sum = 0;
        for (int i = 0; i < MOST_VOUCHERS; i++) {
            Plain one = find(i);
            if (one != null) {
                sum += one.lapseOn(today);
            }
        }
        lapsedTogether += sum;
        return sum;
    }

    public int merge(int first, int second) {
        Plain taker = find(first);
        Plain giver = find(second);
        if (taker == null || giver == null) {
            return NO_VOUCHER;
        }
        if (first == second) {
            return BAD_NUMBER;
        }
        if (taker.kind != giver.kind) {
            return OTHER_KIND;
        }
        if (taker.amount + giver.amount > MOST_AMOUNT) {
            return NO_ROOM;
        }
        taker.takeIn(giver);
        vouchers[second] = null;
        return taker.amount;
    }

    public int total(int day) {
        if (isOutside(day, 0, LAST_OF_DAYS)) {
            return BAD_NUMBER;
        }
        int sum = 0;
        for (int i = 0; i < MOST_VOUCHERS; i++) {
            Plain one = find(i);
            if (one != null) {
                sum += one.valueOn(day);
            }
        }
        return sum;
    }

    public int paper(int voucher, int what) {
        Plain found = find(voucher);
        if (found == null) {
            return NO_VOUCHER;
        }
        switch (what) {
            case 0:
                return found.kind;
            case 1:
                return found.amount;
            case 2:
                return found.left;
            case 3:
                return found.from;
            case 4:
                return found.pointsNow();
            case 5:
                return found.lastDay();
            default:
                return BAD_NUMBER;
        }
    }

    public int count(int what) {
        switch (what) {
            case 0:
                return today;
            case 1:
                return issued;
            case 2:
                return issuedAmounts;
            case 3:
                return spentTogether;
            case 4:
                return feesTogether;
            case 5:
                return lapsedTogether;
            case 6:
                return leftOfAll();
            default:
                return BAD_NUMBER;
        }
    }

    private int leftOfAll() {
        int sum = 0;
        for (int i = 0; i < MOST_VOUCHERS; i++) {
            Plain one = find(i);
            if (one != null) {
                sum += one.left;
            }
        }
        return sum;
    }

    /** The VOUCHER of this number, or null: none was issued so far, or it is GONE. */
    private Plain find(int voucher) {
        if (isOutside(voucher, 0, MOST_VOUCHERS - 1)) {
            return null;
        }
        return vouchers[voucher];
    }

    private static boolean isOutside(int number, int lowest, int highest) {
        return number < lowest || number > highest;
    }

    /** The kind has been tested before: what is no other one is a CREST. */
    private static Plain newVoucher(int kind, int amount, int from) {
        switch (kind) {
            case 0:
                return new Plain(kind, amount, from);
            case 1:
                return new Gift(kind, amount, from);
            case 2:
                return new Season(kind, amount, from);
            case 3:
                return new Staff(kind, amount, from);
            case 4:
                return new Round(kind, amount, from);
            case 5:
                return new Club(kind, amount, from);
            case 6:
                return new House(kind, amount, from);
            default:
                return new Crest(kind, amount, from);
        }
    }

    private static class Plain {
        // Before every DAY, so that it is never today.
        static final int NEVER = -1;

        final int kind;
        final int from;
        int amount;
        int left;

        Plain(int kind, int amount, int from) {
            this.kind = kind;
            this.from = from;
            this.amount = amount;
            this.left = amount;
        }

        int valueOn(int day) {
            return left;
        }

        int feeOf(int g) {
            return g / 50 + 1;
        }

        /** LEFT after it, or the refusal. */
        int spendOn(int day, int g) {
            int both = g + feeOf(g);
            if (g > valueOn(day) || both > left) {
                return NOT_COVERED;
            }
            left -= both;
            return left;
        }

        int sealNow() {
            return (left * 31 + from) * 31 + amount;
        }

        int markOf(int n) {
            return OTHER_KIND;
        }

        int daysLeftOn(int day) {
            return OTHER_KIND;
        }

        int lastDay() {
            return OTHER_KIND;
        }

        /** What of LEFT has lapsed by this call. */
        int lapseOn(int day) {
            return 0;
        }

        int pointsNow() {
            return 0;
        }

        int lastSpent() {
            return NEVER;
        }

        void takeIn(Plain other) {
            amount += other.amount;
            left += other.left;
        }
    }

    /** As PLAIN in all; SEASON is said by it. */
    private static class Gift extends Plain {
        Gift(int kind, int amount, int from) {
            super(kind, amount, from);
        }
    }

    private static class Season extends Gift {
        Season(int kind, int amount, int from) {
            super(kind, amount, from);
        }

        @Override
        int lastDay() {
            return from + 90;
        }

        @Override
        int valueOn(int day) {
            return day > lastDay() ? 0 : super.valueOn(day);
        }

        @Override
        int sealNow() {
            return super.sealNow() + lastDay();
        }

        @Override
        int daysLeftOn(int day) {
            return Math.max(0, lastDay() - day);
        }

        @Override
        int lapseOn(int day) {
            if (lastDay() >= day) {
                return 0;
            }
            int lapsed = left;
            left = 0;
            return lapsed;
        }
    }

    private static final class Staff extends Season {
        private int lastSpent;

        Staff(int kind, int amount, int from) {
            super(kind, amount, from);
            lastSpent = NEVER;
        }

        @Override
        int lastDay() {
            return from + 30;
        }

        @Override
        int valueOn(int day) {
            int whole = super.valueOn(day);
            return whole - whole / 10;
        }

        @Override
        int feeOf(int g) {
            return super.feeOf(g) / 2;
        }

        @Override
        int spendOn(int day, int g) {
            if (lastSpent == day) {
                return SPENT_TODAY;
            }
            int answer = super.spendOn(day, g);
            if (answer >= 0) {
                lastSpent = day;
            }
            return answer;
        }

        @Override
        int lastSpent() {
            return lastSpent;
        }

        /** The later day is kept: if one of the two was spent from today, that is today. */
        @Override
        void takeIn(Plain other) {
            super.takeIn(other);
            lastSpent = Math.max(lastSpent, other.lastSpent());
        }
    }

    private static class Round extends Plain {
        Round(int kind, int amount, int from) {
            super(kind, amount, from);
        }

        @Override
        int valueOn(int day) {
            int whole = super.valueOn(day);
            return whole - whole % 10;
        }
    }

    private static class Club extends Round {
        Club(int kind, int amount, int from) {
            super(kind, amount, from);
        }

        @Override
        int markOf(int n) {
            return sealNow() * 7 + n;
        }
    }

    private static class House extends Club {
        int points;

        House(int kind, int amount, int from) {
            super(kind, amount, from);
            points = 0;
        }

        @Override
        int valueOn(int day) {
            return super.valueOn(day) + points;
        }

        @Override
        int spendOn(int day, int g) {
            int answer = super.spendOn(day, g);
            if (answer >= 0) {
                points += g / 100;
            }
            return answer;
        }

        @Override
        int pointsNow() {
            return points;
        }

        @Override
        void takeIn(Plain other) {
            super.takeIn(other);
            points += other.pointsNow();
        }
    }

    private static final class Crest extends House {
        Crest(int kind, int amount, int from) {
            super(kind, amount, from);
        }

        @Override
        int valueOn(int day) {
            int once = super.valueOn(day);
            return day % 7 == 0 ? once * 2 : once;
        }

        @Override
        int feeOf(int g) {
            return Math.max(0, super.feeOf(g) - points);
        }

        @Override
        int sealNow() {
            return super.sealNow() + 3 * points;
        }
    }
}
