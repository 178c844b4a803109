/** Compares answers with those that are due and counts the wrong ones. */
final class Due {
    private final String about;
    private int calls;
    private int wrong;

    Due(String about) {
        this.about = about;
    }

    void is(String what, long got, long want) {
        calls++;
        if (got != want) {
            wrong++;
            if (wrong <= 50) {
                System.out.println(about + ": " + what + " answered " + got + ", due is " + want);
            }
        }
    }

    void end() {
        System.out.println(about + ": " + calls + " answers, " + wrong + " wrong");
        if (wrong != 0 || calls == 0) {
            System.exit(1);
        }
    }
}
