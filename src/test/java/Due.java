/** Compares answers with those that are due and keeps the number of the wrong ones. */
final class Due {
    private int wrong = 0;
    private String about = "";

    void about(String promise) {
        about = promise;
    }

    void is(String call, long got, long want) {
        if (got != want) {
            wrong++;
            System.out.println(about + ": " + call + " answered " + got + ", due is " + want);
        }
    }

    void holds(String what, boolean truth) {
        if (!truth) {
            wrong++;
            System.out.println(about + ": does not hold: " + what);
        }
    }

    void end() {
        System.out.println(wrong == 0 ? "all answers are as due" : wrong + " answers are not as due");
        if (wrong != 0) {
            System.exit(1);
        }
    }
}
