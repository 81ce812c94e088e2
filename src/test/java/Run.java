/**
 * An office and the calls on it, each told by its name and numbers. No answer is promised after the
 * 512th call, so that a test which asks for more is wrong itself.
 */
final class Run {
    private static final int PROMISED_CALLS = 512;

    private final Due due;
    private final VoucherOffice office = new VoucherOffice();
    private int calls = 0;

    Run(Due due) {
        this.due = due;
    }

    int calls() {
        return calls;
    }

    /** Makes a call for its answer, or for what it does: then the test looks at that later. */
    int call(String name, int... n) {
        calls++;
        if (calls > PROMISED_CALLS) {
            throw new IllegalStateException("a test asks more than the document promises");
        }
        switch (name) {
            case "issue": return office.issue(n[0], n[1]);
            case "pass": return office.pass(n[0]);
            case "value": return office.value(n[0], n[1]);
            case "fee": return office.fee(n[0], n[1]);
            case "spend": return office.spend(n[0], n[1]);
            case "seal": return office.seal(n[0]);
            case "mark": return office.mark(n[0], n[1]);
            case "daysLeft": return office.daysLeft(n[0], n[1]);
            case "lapse": return office.lapse();
            case "merge": return office.merge(n[0], n[1]);
            case "total": return office.total(n[0]);
            case "paper": return office.paper(n[0], n[1]);
            case "count": return office.count(n[0]);
            default: throw new IllegalArgumentException(name);
        }
    }

    Run is(int want, String name, int... n) {
        due.is(told(name, n), call(name, n), want);
        return this;
    }

    /** Vouchers of these kinds, all of one amount. */
    Run issued(int amount, int... kinds) {
        for (int kind : kinds) {
            call("issue", kind, amount);
        }
        return this;
    }

    /** One voucher of each kind, with the kind as its number in a new office. */
    Run oneOfEach(int amount) {
        return issued(amount, 0, 1, 2, 3, 4, 5, 6, 7);
    }

    Run passed(int days) {
        int rest = days;
        while (rest > 0) {
            int step = Math.min(rest, 1000);
            call("pass", step);
            rest -= step;
        }
        return this;
    }

    static String told(String name, int... n) {
        StringBuilder text = new StringBuilder(name).append('(');
        for (int i = 0; i < n.length; i++) {
            text.append(i == 0 ? "" : ", ").append(n[i]);
        }
        return text.append(')').toString();
    }
}
