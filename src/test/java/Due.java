/** Counts answers, and says those that are not as due. */
final class Due {
    private int answers;
    private int wrong;

    void is(String call, long got, long want) {
        answers++;
        if (got != want) {
            wrong++;
            System.out.println(call + " answered " + got + ", due is " + want);
        }
    }

    void holds(String what, boolean so) {
        answers++;
        if (!so) {
            wrong++;
            System.out.println("does not hold: " + what);
        }
    }

    int wrong() {
        return wrong;
    }

    void end(String name) {
        System.out.println(name + ": " + answers + " answers, " + wrong + " not as due");
        if (wrong != 0 || answers == 0) {
            System.exit(1);
        }
    }
}
