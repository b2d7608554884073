/** What tests by hand share: the constants, ways to bring texts into an office, fractions as two answers. */
abstract class OfficeTests {
    static final int NONE = RunoffOffice.NONE, UNKNOWN = RunoffOffice.UNKNOWN,
        OUTSIDE = RunoffOffice.OUTSIDE, STATE = RunoffOffice.STATE, FULL = RunoffOffice.FULL;
    static final int MIN = Integer.MIN_VALUE, MAX = Integer.MAX_VALUE;
    static final Due due = new Due();

    static void type(RunoffOffice x, String text) {
        for (int i = 0; i < text.length(); i++) {
            x.letter(text.charAt(i));
        }
    }

    static int take(RunoffOffice x, String text) {
        type(x, text);
        return x.take();
    }

    static RunoffOffice with(String... texts) {
        RunoffOffice x = new RunoffOffice();
        for (String text : texts) {
            due.holds("take of " + text, take(x, text) >= 0);
        }
        return x;
    }

    static void fraction(String what, long above, long below, long wantAbove, long wantBelow) {
        due.is(what + " above", above, wantAbove);
        due.is(what + " below", below, wantBelow);
    }

    static void best(RunoffOffice x, int some, int n, int k, long above, long below) {
        String what = "best(" + some + ", " + n + ", " + k + ")";
        fraction(what, x.best(some, n, k, 0), x.best(some, n, k, 1), above, below);
    }

    static void loss(RunoffOffice x, int some, int n, long above, long below) {
        fraction("loss(" + some + ", " + n + ")", x.loss(some, n, 0), x.loss(some, n, 1), above, below);
    }

    static void press(RunoffOffice x, int some, int n, int k, long above, long below) {
        String what = "press(" + some + ", " + n + ", " + k + ")";
        fraction(what, x.press(some, n, k, 0), x.press(some, n, k, 1), above, below);
    }

    static void other(RunoffOffice x, int unit, int m, int t, long above, long below) {
        String what = "other(" + unit + ", " + m + ", " + t + ")";
        fraction(what, x.other(unit, m, t, 0), x.other(unit, m, t, 1), above, below);
    }

    static void counts(RunoffOffice x, int... want) {
        for (int what = 0; what < want.length; what++) {
            due.is("count(" + what + ")", x.count(what), want[what]);
        }
    }

    /** A text's number so many times, with commas. */
    static String times(int many, String number) {
        StringBuilder row = new StringBuilder(number);
        for (int i = 1; i < many; i++) {
            row.append(',').append(number);
        }
        return row.toString();
    }
}
