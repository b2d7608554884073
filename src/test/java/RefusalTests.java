import java.util.ArrayList;
import java.util.List;

/**
 * Every refused call of the document: it answers the first refusal that is told of it, and changes nothing.
 * Each is made on an office of its own, beside a twin that is spared it: both must tell and do the same from there on.
 */
public final class RefusalTests extends OfficeTests {
    private static final int[] FAR = {MIN, -2, MAX - 1, MAX};
    private static final String[] STORMS = {"r2:3", "r1,1:2,0", "r1:9,9"};
    private static final String[] UNITS = {"u1:1", "u2:3,5", "u3:7", "u4:1,2,3,4,5,6,7,8"};

    private interface Call {
        long on(RunoffOffice x);
    }

    /** How many storms and units an office has, and what its page has. Its storm 0 is fitted by 3 by 2, storm 1 by 1. */
    private record Kind(int storms, int units, String page) {
        RunoffOffice office() {
            RunoffOffice x = new RunoffOffice();
            for (int k = 0; k < storms; k++) {
                due.is("storm", take(x, STORMS[k]), k);
            }
            for (int k = 0; k < units; k++) {
                due.is("unit", take(x, UNITS[k]), k);
            }
            type(x, page);
            return x;
        }
    }

    private static final String FULL_PAGE = "r1:1" + " ".repeat(36);
    private static final Kind[] KINDS = {
        new Kind(0, 0, ""), new Kind(1, 0, "r"), new Kind(0, 1, "u1:1"), new Kind(2, 3, "x"), new Kind(3, 4, "r1:1"),
        new Kind(3, 4, FULL_PAGE)};

    public static void main(String[] args) {
        for (Kind kind : KINDS) {
            letters(kind);
            drops(kind);
            stormsAndDivided(kind);
            unitsAndSums(kind);
            madeAndMissed(kind);
            others(kind);
            bests(kind);
            keeps(kind);
            counting(kind);
        }
        fullPages();
        takesOfNoText();
        takesOfTooMany();
        keepsOfFractions();
        keepsOfTooMany();
        due.end("RefusalTests");
    }

    // ---- a refused call beside a twin without it

    private static void refused(Kind kind, String told, long want, Call call) {
        String where = told + " on " + kind;
        RunoffOffice x = kind.office();
        due.is(where, call.on(x), want);
        due.is(where + ", again", call.on(x), want);
        RunoffOffice twin = kind.office();
        due.holds(where + " changes nothing that is told", whatIsTold(x).equals(whatIsTold(twin)));
        due.holds(where + " changes nothing that comes", whatComes(x).equals(whatComes(twin)));
    }

    /** All that can be seen of an office, in fewer than 300 calls. */
    private static List<Long> whatIsTold(RunoffOffice x) {
        List<Long> told = new ArrayList<>();
        told.add(x.digest());
        told.add((long) x.fault());
        for (int what = 0; what < 6; what++) {
            told.add((long) x.count(what));
        }
        for (int what = 0; what < 28; what++) {
            for (int storm = 0; storm < 3; storm++) {
                told.add((long) x.storm(storm, what));
            }
        }
        for (int what = 10; what < 18; what++) {
            for (int k = 0; k < 4; k++) {
                told.add((long) x.divided(k, what));
                told.add((long) x.unit(k, what));
            }
        }
        for (int some = 1; some < 8; some++) {
            told.add(x.best(some, 2, 0, 0));
            told.add(x.loss(some, 3, 1));
            told.add((long) x.nothing(some, 4));
        }
        return told;
    }

    /** Answers of a run that goes on from there: the page's text, what goes, what comes anew, what is kept. */
    private static List<Long> whatComes(RunoffOffice x) {
        List<Long> told = new ArrayList<>();
        told.add((long) x.letter('1'));
        told.add((long) x.take());
        told.add((long) x.blank());
        told.add((long) x.drop(false, 0));
        told.add((long) x.drop(true, 0));
        told.add((long) take(x, "r1:6,7,8"));
        told.add((long) x.keep(1, 1, 2));
        told.add((long) x.keep(2, 3, 3));
        told.add((long) take(x, "u2:4,5"));
        told.add((long) x.letter('r'));
        told.add(x.digest());
        return told;
    }

    private static int[] and(int[] some, int... more) {
        int[] all = new int[some.length + more.length];
        System.arraycopy(some, 0, all, 0, some.length);
        System.arraycopy(more, 0, all, some.length, more.length);
        return all;
    }

    /** Numbers that name nothing, where so many are there. */
    private static int[] unknown(int many) {
        return and(FAR, -1, many, many + 1);
    }

    // ---- texts

    /** OUTSIDE: code (32 to 126): also where the page is full, as it is told first. */
    private static void letters(Kind kind) {
        for (int code : and(FAR, -1, 0, 10, 31, 127, 128, 255, 256 + 'r', 65536 + 'r')) {
            refused(kind, "letter(" + code + ")", OUTSIDE, x -> x.letter(code));
        }
    }

    /** FULL: there are 40. */
    private static void fullPages() {
        Kind full = KINDS[5];
        for (int code : new int[] {32, 'r', '1', 126}) {
            refused(full, "letter(" + code + ")", FULL, x -> x.letter(code));
        }
    }

    /** STATE: it is neither: also where there are as many as can be, as it is told first. */
    private static void takesOfNoText() {
        String[] pages = {"", " ", "r", "r1", "r1,", "r1:", "r1:1,", "r0:1", "r1,1,1,1:1", "r1:100", "r1:1 ", "u", "u1", "u1:",
            "u1:1,", "u5:1", "u1:100", "u1:01", "ur1:1", "r1:1r1:1", "u1:1u1:1", "u1:1,2,3,4,5,6,7,8,9", FULL_PAGE};
        for (String page : pages) {
            refused(new Kind(0, 0, page), "take()", STATE, x -> x.take());
            refused(new Kind(2, 3, page), "take()", STATE, x -> x.take());
            refused(new Kind(3, 4, page), "take()", STATE, x -> x.take());
        }
    }

    /** FULL: there are as many as can be, of the kind that would come. */
    private static void takesOfTooMany() {
        for (int units = 0; units <= 4; units++) {
            refused(new Kind(3, units, "r1:1"), "take()", FULL, x -> x.take());
            refused(new Kind(3, units, "r5,5,5:99,99,99,99,99,99,99,99"), "take()", FULL, x -> x.take());
        }
        for (int storms = 0; storms <= 3; storms++) {
            refused(new Kind(storms, 4, "u1:1"), "take()", FULL, x -> x.take());
            refused(new Kind(storms, 4, "u4:99,99,99,99,99,99,99,99"), "take()", FULL, x -> x.take());
        }
    }

    /** UNKNOWN: k, of the kind that is meant: the other kind's numbers don't help. */
    private static void drops(Kind kind) {
        for (int k : unknown(kind.storms)) {
            refused(kind, "drop(false, " + k + ")", UNKNOWN, x -> x.drop(false, k));
        }
        for (int k : unknown(kind.units)) {
            refused(kind, "drop(true, " + k + ")", UNKNOWN, x -> x.drop(true, k));
        }
    }

    // ---- storms, units

    private static void stormsAndDivided(Kind kind) {
        for (int k : unknown(kind.storms)) {
            for (int what : new int[] {0, 10, -1, 9, 18, 28}) {
                refused(kind, "storm(" + k + ", " + what + ")", UNKNOWN, x -> x.storm(k, what));
                refused(kind, "divided(" + k + ", " + what + ")", UNKNOWN, x -> x.divided(k, what));
            }
        }
        for (int k = 0; k < kind.storms; k++) {
            int storm = k;
            for (int what : and(FAR, -1, 4, 5, 9, 13, 14, 19, 28, 29)) {
                refused(kind, "storm(" + storm + ", " + what + ")", OUTSIDE, x -> x.storm(storm, what));
            }
            for (int what : and(FAR, -1, 1, 2, 9, 18, 19, 20)) {
                refused(kind, "divided(" + storm + ", " + what + ")", OUTSIDE, x -> x.divided(storm, what));
            }
        }
    }

    private static void unitsAndSums(Kind kind) {
        for (int k : unknown(kind.units)) {
            for (int what : new int[] {0, 10, 20, -1, 3, 18, 21}) {
                refused(kind, "unit(" + k + ", " + what + ")", UNKNOWN, x -> x.unit(k, what));
                refused(kind, "sum(" + k + ", " + what + ")", UNKNOWN, x -> x.sum(k, what));
            }
        }
        for (int k = 0; k < kind.units; k++) {
            int unit = k;
            for (int what : and(FAR, -1, 3, 4, 9, 18, 19, 20)) {
                refused(kind, "unit(" + unit + ", " + what + ")", OUTSIDE, x -> x.unit(unit, what));
            }
            for (int t : and(FAR, -1, 21, 22)) {
                refused(kind, "sum(" + unit + ", " + t + ")", OUTSIDE, x -> x.sum(unit, t));
            }
        }
    }

    /** UNKNOWN: unit, storm; then OUTSIDE: t. */
    private static void madeAndMissed(Kind kind) {
        for (int unit : unknown(kind.units)) {
            for (int storm : new int[] {0, kind.storms - 1, kind.storms, -1}) {
                refusedMade(kind, unit, storm);
            }
        }
        for (int storm : unknown(kind.storms)) {
            for (int unit : new int[] {0, kind.units - 1, kind.units, -1}) {
                refusedMade(kind, unit, storm);
            }
        }
        for (int t : and(FAR, -1, 21, 22)) {
            if (kind.storms > 0 && kind.units > 0) {
                refused(kind, "made(0, 0, " + t + ")", OUTSIDE, x -> x.made(0, 0, t));
                refused(kind, "made of the last at " + t, OUTSIDE, x -> x.made(kind.units - 1, kind.storms - 1, t));
            }
        }
    }

    private static void refusedMade(Kind kind, int unit, int storm) {
        refused(kind, "missed(" + unit + ", " + storm + ")", UNKNOWN, x -> x.missed(unit, storm));
        for (int t : new int[] {0, 20, -1, 21}) {
            refused(kind, "made(" + unit + ", " + storm + ", " + t + ")", UNKNOWN, x -> x.made(unit, storm, t));
        }
    }

    private static void refusedOther(Kind kind, long want, int unit, int m, int t, int part) {
        String told = "other(" + unit + ", " + m + ", " + t + ", " + part + ")";
        refused(kind, told, want, x -> x.other(unit, m, t, part));
    }

    private static void others(Kind kind) {
        for (int unit : unknown(kind.units)) {
            refusedOther(kind, UNKNOWN, unit, 1, 0, 0);
            refusedOther(kind, UNKNOWN, unit, 0, 0, 0);
            refusedOther(kind, UNKNOWN, unit, 1, 21, 0);
            refusedOther(kind, UNKNOWN, unit, 1, 0, 2);
            refusedOther(kind, UNKNOWN, unit, 5, -1, -1);
        }
        for (int unit = 0; unit < kind.units; unit++) {
            for (int m : and(FAR, -1, 0, 5, 6)) {
                refusedOther(kind, OUTSIDE, unit, m, 20, 1);
            }
            for (int t : and(FAR, -1, 21, 22)) {
                refusedOther(kind, OUTSIDE, unit, 4, t, 0);
            }
            for (int part : and(FAR, -1, 2, 3)) {
                refusedOther(kind, OUTSIDE, unit, 1, 0, part);
            }
            refusedOther(kind, OUTSIDE, unit, 0, 21, 2);
        }
    }

    // ---- the best

    /** some: 1 at least, no bits of storms that there are not, alone or beside those that there are. */
    private static int[] wrongSome(int storms) {
        int next = 1 << storms;
        return and(FAR, -1, 0, next, next + 1, 2 * next - 1, 8, 16, 1 << 30);
    }

    private static void bests(Kind kind) {
        for (int some : wrongSome(kind.storms)) {
            refusedFits(kind, some, 1, 0, 0);
            refusedFits(kind, some, 4, 3, 1);
            refusedFits(kind, some, 5, 5, 2);
        }
        for (int some = 1; some < 1 << kind.storms; some++) {
            for (int n : and(FAR, -1, 0, 5, 6)) {
                refusedFits(kind, some, n, 0, 0);
            }
            for (int n = 1; n <= 4; n++) {
                wrongParts(kind, some, n);
            }
        }
    }

    private static void wrongParts(Kind kind, int some, int n) {
        for (int k : and(FAR, -1, n, n + 1, 4)) {
            refused(kind, "best of part " + k + " of " + n, OUTSIDE, x -> x.best(some, n, k, 0));
            refused(kind, "press of part " + k + " of " + n, OUTSIDE, x -> x.press(some, n, k, 1));
        }
        for (int part : and(FAR, -1, 2, 3)) {
            refused(kind, "best, part " + part, OUTSIDE, x -> x.best(some, n, 0, part));
            refused(kind, "press, part " + part, OUTSIDE, x -> x.press(some, n, n - 1, part));
            refused(kind, "loss, part " + part, OUTSIDE, x -> x.loss(some, n, part));
        }
    }

    private static void refusedFits(Kind kind, int some, int n, int k, int part) {
        String told = "(" + some + ", " + n + ", " + k + ", " + part + ")";
        refused(kind, "best" + told, OUTSIDE, x -> x.best(some, n, k, part));
        refused(kind, "press" + told, OUTSIDE, x -> x.press(some, n, k, part));
        refused(kind, "loss" + told, OUTSIDE, x -> x.loss(some, n, part));
        refused(kind, "nothing" + told, OUTSIDE, x -> x.nothing(some, n));
    }

    private static void refusedKeep(Kind kind, long want, int some, int n, int length) {
        refused(kind, "keep(" + some + ", " + n + ", " + length + ")", want, x -> x.keep(some, n, length));
    }

    /** OUTSIDE: some, n, length: also where it is no whole number (storm 0), and where there are 4 UNITS. */
    private static void keeps(Kind kind) {
        for (int some : wrongSome(kind.storms)) {
            refusedKeep(kind, OUTSIDE, some, 1, 1);
            refusedKeep(kind, OUTSIDE, some, 0, 5);
        }
        for (int some = 1; some < 1 << kind.storms; some++) {
            for (int n : and(FAR, -1, 0, 5, 6)) {
                refusedKeep(kind, OUTSIDE, some, n, 1);
            }
            for (int length : and(FAR, -1, 0, 5, 6)) {
                refusedKeep(kind, OUTSIDE, some, 1, length);
            }
        }
    }

    /** STATE: also where there are 4 UNITS, as it is told first. */
    private static void keepsOfFractions() {
        for (int units = 0; units <= 4; units++) {
            for (int n = 1; n <= 4; n++) {
                refusedKeep(new Kind(1, units, "u1:1"), STATE, 1, n, 1);
                refusedKeep(new Kind(3, units, "r1:1"), STATE, 1, n, 4);
            }
        }
    }

    /** FULL: there are 4 UNITS. */
    private static void keepsOfTooMany() {
        for (int length = 1; length <= 4; length++) {
            refusedKeep(new Kind(2, 4, ""), FULL, 2, 1, length);
            refusedKeep(new Kind(3, 4, "u1:1"), FULL, 4, 2, length);
        }
    }

    // ---- count

    private static void counting(Kind kind) {
        for (int what : and(FAR, -1, 6, 7)) {
            refused(kind, "count(" + what + ")", OUTSIDE, x -> x.count(what));
        }
    }
}
