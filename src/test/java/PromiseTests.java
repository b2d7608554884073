/** One test a promise of the document, by answers worked out by hand. */
public final class PromiseTests extends OfficeTests {
    public static void main(String[] args) {
        constants();
        promise1NewObject();
        promise2Letter();
        promise3Blank();
        promise4Fault();
        promise5Take();
        promise6Drop();
        promise7Storm();
        promise8Divided();
        promise9Unit();
        promise10Made();
        promise11Missed();
        promise12Sum();
        promise13Other();
        promise14Best();
        promise15Loss();
        promise16Press();
        promise17Nothing();
        promise18Keep();
        promise19Count();
        promise20Digest();
        refusalsChangeNothing();
        due.end("PromiseTests");
    }

    // ---- the promises

    private static void constants() {
        due.is("NONE", NONE, -1000001);
        due.is("UNKNOWN", UNKNOWN, -1000002);
        due.is("OUTSIDE", OUTSIDE, -1000003);
        due.is("STATE", STATE, -1000004);
        due.is("FULL", FULL, -1000005);
    }

    private static void promise1NewObject() {
        RunoffOffice x = new RunoffOffice();
        counts(x, 0, 0, 0, 0, 0, 0);
        due.is("storm of none", x.storm(0, 0), UNKNOWN);
        due.is("unit of none", x.unit(0, 0), UNKNOWN);
        due.is("drop of no storm", x.drop(false, 0), UNKNOWN);
        due.is("drop of no unit", x.drop(true, 0), UNKNOWN);
        long h = 1619;
        for (int i = 0; i < 6; i++) {
            h = 31 * h;
        }
        due.is("digest of a new object", x.digest(), h);
        with("r1:1", "u1:1");
        counts(x, 0, 0, 0, 0, 0, 0);
    }

    private static void promise2Letter() {
        RunoffOffice x = new RunoffOffice();
        due.is("letter(32)", x.letter(32), 1);
        due.is("letter(126)", x.letter(126), 2);
        for (int code : new int[] {31, 127, 0, -1, 255, MIN, MAX}) {
            due.is("letter(" + code + ")", x.letter(code), OUTSIDE);
        }
        for (int i = 3; i <= 40; i++) {
            due.is("letter the " + i + "th", x.letter('r'), i);
        }
        due.is("letter the 41st", x.letter('r'), FULL);
        due.is("letter outside, page full", x.letter(31), OUTSIDE);
        due.is("letters", x.count(2), 40);
    }

    private static void promise3Blank() {
        RunoffOffice x = new RunoffOffice();
        due.is("blank of none", x.blank(), 0);
        type(x, "r1:1x");
        due.is("blank of 5", x.blank(), 5);
        due.is("blank again", x.blank(), 0);
        due.is("letter after blank", x.letter('r'), 1);
        due.is("fault after blank", x.fault(), 1);
    }

    private static void faultOf(String text, int want) {
        RunoffOffice x = new RunoffOffice();
        type(x, text);
        due.is("fault of " + text, x.fault(), want);
        due.is("letters after fault of " + text, x.count(2), text.length());
    }

    private static void promise4Fault() {
        String[] unfaulty = {"", "r", "u", "r1", "r5,", "r1,0", "r1,0,0", "r1,5,5:", "r1:0", "r1:99", "r1:9,",
            "r1:1,2,3,4,5,6,7,8", "r5,5,5:99,99,99,99,99,99,99,99", "u1", "u4:", "u2:0", "u2:10,0",
            "u4:99,99,99,99,99,99,99,99"};
        for (String text : unfaulty) {
            faultOf(text, text.length());
        }
        for (String text : new String[] {"x", "R1:1", "U1:1", " r1:1", "1", ":", ",", "s", "q", "v", "t"}) {
            faultOf(text, 0);
        }
        for (String text : new String[] {"r0", "r6", "r9", "r,", "r:", "rr", "u0", "u5", "u9", "u:", "u,", "uu"}) {
            faultOf(text, 1);
        }
        faultOf("r10", 2);
        faultOf("r55", 2);
        faultOf("r1 ", 2);
        faultOf("r1;1", 2);
        faultOf("u12", 2);
        faultOf("u1,", 2);
        faultOf("u1;", 2);
        faultOf("r1,:", 3);
        faultOf("r1,,", 3);
        faultOf("r1,6", 3);
        faultOf("r1::", 3);
        faultOf("r1:,", 3);
        faultOf("r1:/", 3);
        faultOf("u1:,", 3);
        faultOf("u1::", 3);
        faultOf("r1,00", 4);
        faultOf("r1,05", 4);
        faultOf("r1,10", 4);
        faultOf("r1:00", 4);
        faultOf("r1:07", 4);
        faultOf("r1:1:", 4);
        faultOf("u1:1:", 4);
        faultOf("u1:01", 4);
        faultOf("r1:100", 5);
        faultOf("r1:990", 5);
        faultOf("u1:100", 5);
        faultOf("r1:1,,", 5);
        faultOf("r1,1,1,", 6);
        faultOf("r1,1,1,1:5", 6);
        faultOf("r1:1,2,3,4,5,6,7,8,", 18);
        faultOf("u1:1,2,3,4,5,6,7,8,9", 18);
        faultOf("u1:1,2,3,4,5,6,7,8x", 18);
        faultOf("xr1:1", 0);
    }

    private static void promise5Take() {
        RunoffOffice x = new RunoffOffice();
        for (String text : new String[] {"", "r", "r1", "r1:", "r1:1,", "r1,", "u", "u1", "u1:", "u1:1,", "r1:1x", "x"}) {
            type(x, text);
            due.is("take of " + text, x.take(), STATE);
            due.is("letters after take of " + text, x.blank(), text.length());
        }
        due.is("take of a storm", take(x, "r1:1"), 0);
        due.is("letters after take", x.count(2), 0);
        due.is("take of nothing", x.take(), STATE);
        due.is("take of a unit", take(x, "u1:1"), 0);
        due.is("take of the longest storm", take(x, "r5,5,5:99,99,99,99,99,99,99,99"), 1);
        due.is("take of the longest unit", take(x, "u4:99,99,99,99,99,99,99,99"), 1);
        due.is("take of the last storm", take(x, "r1,0,0:0"), 2);
        due.is("take of a storm too many", take(x, "r1:1"), FULL);
        due.is("letters after full", x.blank(), 4);
        due.is("a half storm while full", take(x, "r1:"), STATE);
        x.blank();
        due.is("a unit while storms are full", take(x, "u3:5"), 2);
        due.is("the last unit", take(x, "u2:6"), 3);
        due.is("take of a unit too many", take(x, "u2:7"), FULL);
        due.is("a half unit while full", take(x, "x"), STATE);
        due.is("letters after both", x.blank(), 5);
        due.is("its last part", x.unit(3, 10), 6);
        due.is("a storm's numbers", x.storm(1, 27), 99);
    }

    private static void promise6Drop() {
        RunoffOffice x = with("r1:1", "r2:2", "r3:3", "u1:1", "u2:2", "u3:3", "u4:4");
        for (int k : new int[] {-1, 3, MIN, MAX}) {
            due.is("drop(false, " + k + ")", x.drop(false, k), UNKNOWN);
        }
        for (int k : new int[] {-1, 4, MIN, MAX}) {
            due.is("drop(true, " + k + ")", x.drop(true, k), UNKNOWN);
        }
        due.is("drop of the first storm", x.drop(false, 0), 2);
        due.is("storm 0 then", x.storm(0, 10), 2);
        due.is("storm 1 then", x.storm(1, 10), 3);
        due.is("storm 2 then", x.storm(2, 10), UNKNOWN);
        due.is("drop of the last storm", x.drop(false, 1), 1);
        due.is("storm 0 still", x.storm(0, 20), 2);
        due.is("drop of unit 1", x.drop(true, 1), 3);
        due.is("unit 0 then", x.unit(0, 0), 1);
        due.is("unit 1 then", x.unit(1, 0), 3);
        due.is("unit 2 then", x.unit(2, 10), 4);
        due.is("unit 3 then", x.unit(3, 0), UNKNOWN);
        due.is("a storm anew", take(x, "r5,4:6,7,8"), 1);
        due.is("its rain", x.storm(1, 2), 9);
        due.is("the one ahead of it", x.storm(0, 3), 2);
        due.is("a unit anew", take(x, "u2:6,7"), 3);
        due.is("its parts", x.unit(3, 2), 13);
        due.is("the one ahead of that", x.unit(2, 2), 4);
        due.is("storms", x.drop(false, 0), 1);
        due.is("storms", x.drop(false, 0), 0);
        due.is("no storms", x.drop(false, 0), UNKNOWN);
        counts(x, 0, 4, 0, 9, 5, 0);
        rowsStayApart();
    }

    /** Those that come behind one that went write over none that is left. */
    private static void rowsStayApart() {
        RunoffOffice x = with("r1:1", "r2:2", "r3:3", "u1:1", "u2:2", "u3:3", "u4:4");
        x.drop(false, 0);
        x.drop(true, 0);
        take(x, "r4:4");
        take(x, "u1:5");
        for (int k = 0; k < 3; k++) {
            due.is("storm " + k + " stays", x.storm(k, 20), k + 2);
        }
        for (int k = 0; k < 4; k++) {
            due.is("unit " + k + " stays", x.unit(k, 10), k + 2);
        }
    }

    private static void row(RunoffOffice x, String what, int storm, int first, int... want) {
        for (int i = 0; i < want.length; i++) {
            due.is(what + " at " + i, x.storm(storm, first + i), want[i]);
        }
    }

    private static void promise7Storm() {
        RunoffOffice x = with("r2,0,5:10,0,99,7", "r3:1,2,3,4,5,6,7,88");
        row(x, "storm", 0, 0, 3, 4, 7, 116);
        row(x, "rain", 0, 10, 2, 0, 5);
        row(x, "runoff", 0, 20, 10, 0, 99, 7, 0, 0, 0, 0);
        row(x, "storm", 1, 0, 1, 8, 3, 116);
        row(x, "rain", 1, 10, 3, 0, 0);
        row(x, "runoff", 1, 20, 1, 2, 3, 4, 5, 6, 7, 88);
        for (int what : new int[] {-1, 4, 9, 13, 19, 28, MIN, MAX}) {
            due.is("storm(0, " + what + ")", x.storm(0, what), OUTSIDE);
        }
        for (int storm : new int[] {-1, 2, 3, MIN, MAX}) {
            due.is("storm(" + storm + ", 0)", x.storm(storm, 0), UNKNOWN);
            due.is("storm(" + storm + ", 99)", x.storm(storm, 99), UNKNOWN);
        }
    }

    private static void dividedIs(String text, int... want) {
        RunoffOffice x = with(text);
        due.is("divided of " + text, x.divided(0, 0), want.length == 0 ? NONE : want.length);
        for (int i = 0; i < 8; i++) {
            due.is("divided of " + text + " at " + i, x.divided(0, 10 + i), i < want.length ? want[i] : NONE);
        }
        for (int what : new int[] {-1, 1, 9, 18, MIN, MAX}) {
            due.is("divided(0, " + what + ") of " + text, x.divided(0, what), OUTSIDE);
        }
    }

    private static void promise8Divided() {
        dividedIs("r2,1:2,5,8,3", 1, 2, 3);
        dividedIs("r1,1:1,0,0,1", 1, -1, 1);
        dividedIs("r1:1,2,3,4,5,6,7,8", 1, 2, 3, 4, 5, 6, 7, 8);
        dividedIs("r1:0", 0);
        dividedIs("r5:0,0,0", 0, 0, 0);
        dividedIs("r2:3");
        dividedIs("r2:4,3");
        dividedIs("r1,1:5");
        dividedIs("r1,0:5");
        dividedIs("r1,0,0:5,0");
        dividedIs("r1,0:5,0", 5);
        dividedIs("r1,0:5,3");
        dividedIs("r1,0,0:5,0,0", 5);
        dividedIs("r1,0,0:5,0,1");
        dividedIs("r1,0,0:5,1,0");
        dividedIs("r1,2,3:4,8,12,0,0", 4, 0, 0);
        dividedIs("r1,2,3:4,8,13,2,4");
        dividedIs("r1,2,3:4,8,13,2,3", 4, 0, 1);
        dividedIs("r3,3,3:9,0,0,9,0,0,0,0");
        dividedIs("r3,3,3:9,0,0,0,0,0,0,0");
        dividedIs("r2,3:8,8,0,9", 4, -2, 3);
        dividedIs("r1,5,5:99,99,99,99,99,99,99,99");
        RunoffOffice x = with("r1:1", "r2:3");
        for (int storm : new int[] {-1, 2, MIN, MAX}) {
            due.is("divided(" + storm + ", 0)", x.divided(storm, 0), UNKNOWN);
            due.is("divided(" + storm + ", 9)", x.divided(storm, 9), UNKNOWN);
        }
        x.drop(false, 0);
        due.is("divided after drop", x.divided(0, 0), NONE);
        take(x, "r1:6,7");
        due.is("divided of the newest", x.divided(1, 11), 7);
    }

    private static void promise9Unit() {
        RunoffOffice x = with("u3:5,0,99", "u1:1,2,3,4,5,6,7,80");
        int[] first = {3, 3, 104};
        int[] second = {1, 8, 108};
        int[] parts = {5, 0, 99, 0, 0, 0, 0, 0};
        for (int what = 0; what < 3; what++) {
            due.is("unit(0, " + what + ")", x.unit(0, what), first[what]);
            due.is("unit(1, " + what + ")", x.unit(1, what), second[what]);
        }
        for (int tick = 0; tick < 8; tick++) {
            due.is("part at " + tick, x.unit(0, 10 + tick), parts[tick]);
            due.is("part at " + tick, x.unit(1, 10 + tick), tick < 7 ? tick + 1 : 80);
        }
        for (int what : new int[] {-1, 3, 9, 18, 20, MIN, MAX}) {
            due.is("unit(0, " + what + ")", x.unit(0, what), OUTSIDE);
        }
        for (int unit : new int[] {-1, 2, MIN, MAX}) {
            due.is("unit(" + unit + ", 0)", x.unit(unit, 0), UNKNOWN);
            due.is("unit(" + unit + ", 3)", x.unit(unit, 3), UNKNOWN);
        }
    }

    private static void promise10Made() {
        RunoffOffice x = with("r2,1,3:1", "r5,5,5:0", "u1:1,2", "u4:99,99,99,99,99,99,99,99");
        int[] small = {2, 5, 5, 6, 0};
        for (int t = 0; t < small.length; t++) {
            due.is("made(0, 0, " + t + ")", x.made(0, 0, t), small[t]);
        }
        due.is("made(1, 1, 0)", x.made(1, 1, 0), 495);
        due.is("made(1, 1, 1)", x.made(1, 1, 1), 990);
        due.is("made(1, 1, 7)", x.made(1, 1, 7), 1485);
        due.is("made(1, 1, 8)", x.made(1, 1, 8), 990);
        due.is("made(1, 1, 9)", x.made(1, 1, 9), 495);
        due.is("made(1, 1, 10)", x.made(1, 1, 10), 0);
        due.is("made(1, 1, 20)", x.made(1, 1, 20), 0);
        for (int t : new int[] {-1, 21, MIN, MAX}) {
            due.is("made(0, 0, " + t + ")", x.made(0, 0, t), OUTSIDE);
        }
        for (int k : new int[] {-1, 2, MIN, MAX}) {
            due.is("made(" + k + ", 0, 0)", x.made(k, 0, 0), UNKNOWN);
            due.is("made(0, " + k + ", 0)", x.made(0, k, 0), UNKNOWN);
            due.is("made(0, " + k + ", 21)", x.made(0, k, 21), UNKNOWN);
        }
    }

    private static void promise11Missed() {
        RunoffOffice x = with("r2,1:2,5,8,3", "r1:9", "r5,5,5:0", "u1:1,2,3", "u2:0", "u1:99,99,99,99,99,99,99,99");
        due.is("missed(0, 0)", x.missed(0, 0), 0);
        due.is("missed(0, 1)", x.missed(0, 1), 64 + 4 + 9);
        due.is("missed(1, 0)", x.missed(1, 0), 4 + 25 + 64 + 9);
        due.is("missed(1, 1)", x.missed(1, 1), 81);
        due.is("missed(2, 2)", x.missed(2, 2), 6 * 1485 * 1485 + 2 * 990 * 990 + 2 * 495 * 495);
        for (int k : new int[] {-1, 3, MIN, MAX}) {
            due.is("missed(" + k + ", 0)", x.missed(k, 0), UNKNOWN);
            due.is("missed(0, " + k + ")", x.missed(0, k), UNKNOWN);
        }
    }

    private static void promise12Sum() {
        RunoffOffice x = with("u1:1,2,3", "u2:3,5,4,0,9", "u4:1,2,3,4,5,6,7,8", "u3:7");
        int[] ones = {1, 3, 6, 6, 6};
        int[] twos = {3, 5, 7, 5, 16, 5, 16};
        int[] fours = {1, 2, 3, 4, 6, 8, 10, 12, 6};
        for (int t = 0; t < ones.length; t++) {
            due.is("sum(0, " + t + ")", x.sum(0, t), ones[t]);
        }
        for (int t = 0; t < twos.length; t++) {
            due.is("sum(1, " + t + ")", x.sum(1, t), twos[t]);
        }
        for (int t = 0; t < fours.length; t++) {
            due.is("sum(2, " + t + ")", x.sum(2, t), fours[t]);
        }
        due.is("sum(0, 20)", x.sum(0, 20), 6);
        due.is("sum(3, 18)", x.sum(3, 18), 7);
        due.is("sum(3, 20)", x.sum(3, 20), 0);
        for (int t : new int[] {-1, 21, MIN, MAX}) {
            due.is("sum(0, " + t + ")", x.sum(0, t), OUTSIDE);
        }
        for (int unit : new int[] {-1, 4, MIN, MAX}) {
            due.is("sum(" + unit + ", 0)", x.sum(unit, 0), UNKNOWN);
            due.is("sum(" + unit + ", 21)", x.sum(unit, 21), UNKNOWN);
        }
    }

    private static void promise13Other() {
        RunoffOffice x = with("u2:3,5,4,0,9", "u1:0,0,9");
        other(x, 0, 1, 0, 6, 1);
        other(x, 0, 3, 1, 10, 3);
        other(x, 0, 4, 1, 5, 2);
        other(x, 0, 2, 2, 4, 1);
        other(x, 0, 1, 3, -4, 1);
        other(x, 0, 3, 3, 4, 3);
        other(x, 0, 4, 4, 13, 2);
        other(x, 0, 4, 9, 0, 1);
        other(x, 0, 3, 20, 22, 3);
        other(x, 0, 3, 19, -22, 3);
        other(x, 1, 2, 2, 9, 2);
        other(x, 1, 2, 1, 0, 1);
        for (int m : new int[] {0, 5, -1, MIN, MAX}) {
            due.is("other(0, " + m + ", 0, 0)", x.other(0, m, 0, 0), OUTSIDE);
        }
        for (int t : new int[] {-1, 21, MIN, MAX}) {
            due.is("other(0, 1, " + t + ", 0)", x.other(0, 1, t, 0), OUTSIDE);
        }
        for (int part : new int[] {-1, 2, MIN, MAX}) {
            due.is("other(0, 1, 0, " + part + ")", x.other(0, 1, 0, part), OUTSIDE);
        }
        for (int unit : new int[] {-1, 2, MIN, MAX}) {
            due.is("other(" + unit + ", 1, 0, 0)", x.other(unit, 1, 0, 0), UNKNOWN);
            due.is("other(" + unit + ", 0, 21, 2)", x.other(unit, 0, 21, 2), UNKNOWN);
        }
    }

    /** Storms 0: half of 3; 1: pulls its second part below 0; 2: told by a row of three without a rest. */
    private static RunoffOffice fitted() {
        return with("r2:3", "r1,1:2,0", "r2,1:2,5,8,3");
    }

    private static void promise14Best() {
        RunoffOffice x = fitted();
        best(x, 1, 1, 0, 3, 2);
        best(x, 1, 2, 0, 3, 2);
        best(x, 1, 2, 1, 0, 1);
        best(x, 2, 1, 0, 1, 1);
        best(x, 2, 2, 0, 1, 1);
        best(x, 2, 2, 1, 0, 1);
        best(x, 4, 3, 0, 1, 1);
        best(x, 4, 3, 1, 2, 1);
        best(x, 4, 3, 2, 3, 1);
        best(x, 4, 4, 3, 0, 1);
        best(x, 4, 2, 0, 3, 7);
        best(x, 4, 2, 1, 24, 7);
        best(x, 3, 1, 0, 4, 3);
        best(x, 7, 1, 0, 17, 11);
        for (int part : new int[] {-1, 2, MIN, MAX}) {
            due.is("best part " + part, x.best(1, 1, 0, part), OUTSIDE);
        }
        for (int k : new int[] {-1, 2, MIN, MAX}) {
            due.is("best k " + k, x.best(1, 2, k, 0), OUTSIDE);
        }
        for (int n : new int[] {-1, 0, 5, MIN, MAX}) {
            due.is("best n " + n, x.best(1, n, 0, 0), OUTSIDE);
        }
        for (int some : new int[] {-1, 0, 8, 9, MIN, MAX}) {
            due.is("best some " + some, x.best(some, 1, 0, 0), OUTSIDE);
        }
        x.drop(false, 2);
        due.is("best of a storm that went", x.best(4, 1, 0, 0), OUTSIDE);
        due.is("best with no storms", new RunoffOffice().best(1, 1, 0, 0), OUTSIDE);
    }

    private static void promise15Loss() {
        RunoffOffice x = fitted();
        loss(x, 1, 1, 0, 1);
        loss(x, 2, 1, 2, 1);
        loss(x, 2, 2, 2, 1);
        loss(x, 4, 3, 0, 1);
        loss(x, 4, 2, 255, 7);
        loss(x, 3, 1, 7, 3);
        RunoffOffice y = with("r1:1", "r1:2", "r1:0,99,99,99,99,99,99,99");
        loss(y, 3, 1, 1, 2);
        loss(y, 4, 1, 7 * 9801, 1);
        for (int part : new int[] {-1, 2, MIN, MAX}) {
            due.is("loss part " + part, x.loss(1, 1, part), OUTSIDE);
        }
        for (int n : new int[] {-1, 0, 5, MIN, MAX}) {
            due.is("loss n " + n, x.loss(1, n, 0), OUTSIDE);
        }
        for (int some : new int[] {-1, 0, 8, MIN, MAX}) {
            due.is("loss some " + some, x.loss(some, 1, 0), OUTSIDE);
        }
    }

    private static void promise16Press() {
        RunoffOffice x = fitted();
        press(x, 1, 1, 0, 0, 1);
        press(x, 2, 2, 0, 0, 1);
        press(x, 2, 2, 1, 1, 1);
        press(x, 2, 3, 2, 0, 1);
        press(x, 4, 2, 1, 0, 1);
        press(with("r1,5:0,9,0,7"), 1, 3, 1, 83, 13);
        for (int part : new int[] {-1, 2, MIN, MAX}) {
            due.is("press part " + part, x.press(1, 1, 0, part), OUTSIDE);
        }
        for (int k : new int[] {-1, 2, MIN, MAX}) {
            due.is("press k " + k, x.press(1, 2, k, 0), OUTSIDE);
        }
        for (int n : new int[] {-1, 0, 5, MIN, MAX}) {
            due.is("press n " + n, x.press(1, n, 0, 0), OUTSIDE);
        }
        for (int some : new int[] {-1, 0, 8, MIN, MAX}) {
            due.is("press some " + some, x.press(some, 1, 0, 0), OUTSIDE);
        }
    }

    private static void promise17Nothing() {
        RunoffOffice x = fitted();
        due.is("nothing(1, 1)", x.nothing(1, 1), 0);
        due.is("nothing(1, 4)", x.nothing(1, 4), 14);
        due.is("nothing(2, 2)", x.nothing(2, 2), 2);
        due.is("nothing(4, 3)", x.nothing(4, 3), 0);
        due.is("nothing(4, 4)", x.nothing(4, 4), 8);
        due.is("nothing of no runoff", with("r1:0").nothing(1, 4), 15);
        due.is("nothing at first", with("r1:0,5").nothing(1, 2), 1);
        for (int n : new int[] {-1, 0, 5, MIN, MAX}) {
            due.is("nothing n " + n, x.nothing(1, n), OUTSIDE);
        }
        for (int some : new int[] {-1, 0, 8, MIN, MAX}) {
            due.is("nothing some " + some, x.nothing(some, 1), OUTSIDE);
        }
    }

    private static void promise18Keep() {
        RunoffOffice x = fitted();
        due.is("keep of a half", x.keep(1, 1, 1), STATE);
        due.is("keep of sevenths", x.keep(4, 2, 1), STATE);
        due.is("keep", x.keep(4, 4, 3), 0);
        int[] whats = {0, 1, 2, 10, 11, 12, 13, 14};
        int[] told = {3, 4, 6, 1, 2, 3, 0, 0};
        for (int i = 0; i < whats.length; i++) {
            due.is("unit(0, " + whats[i] + ") kept", x.unit(0, whats[i]), told[i]);
        }
        due.is("keep with a part held", x.keep(2, 2, 4), 1);
        due.is("its parts", x.unit(1, 1), 2);
        for (int length : new int[] {-1, 0, 5, MIN, MAX}) {
            due.is("keep length " + length, x.keep(1, 1, length), OUTSIDE);
        }
        for (int n : new int[] {-1, 0, 5, MIN, MAX}) {
            due.is("keep n " + n, x.keep(2, n, 1), OUTSIDE);
        }
        for (int some : new int[] {-1, 0, 8, MIN, MAX}) {
            due.is("keep some " + some, x.keep(some, 1, 1), OUTSIDE);
        }
        counts(x, 3, 2, 0, 3, 0, 2);
        due.is("keep the third", x.keep(2, 1, 1), 2);
        due.is("keep the fourth", x.keep(4, 3, 2), 3);
        due.is("keep the fifth", x.keep(4, 3, 2), FULL);
        due.is("keep of a half while full", x.keep(1, 1, 1), STATE);
        due.is("keep outside while full", x.keep(1, 1, 0), OUTSIDE);
        due.is("units after that", x.count(1), 4);
        x.drop(true, 0);
        due.is("keep over one that went", x.keep(2, 1, 1), 3);
        due.is("only its own parts", x.unit(3, 2), 1);
        RunoffOffice y = with("r1:99,8");
        due.is("keep of 99", y.keep(1, 2, 1), 0);
        due.is("99 kept", y.unit(0, 10), 99);
        due.is("8 kept", y.unit(0, 11), 8);
    }

    private static void promise19Count() {
        RunoffOffice x = with("r1:4", "r1:5", "u1:1");
        type(x, "abc");
        counts(x, 2, 1, 3, 3, 0, 0);
        x.keep(1, 1, 1);
        x.keep(2, 1, 1);
        counts(x, 2, 3, 3, 3, 0, 2);
        x.drop(true, 2);
        x.drop(false, 0);
        counts(x, 1, 2, 3, 3, 2, 2);
        x.drop(true, 9);
        x.take();
        x.keep(9, 1, 1);
        counts(x, 1, 2, 3, 3, 2, 2);
        x.blank();
        take(x, "r1:1");
        counts(x, 2, 2, 0, 4, 2, 2);
        for (int what : new int[] {-1, 6, MIN, MAX}) {
            due.is("count(" + what + ")", x.count(what), OUTSIDE);
        }
    }

    private static long digestOf(long... numbers) {
        long h = 1619;
        for (long number : numbers) {
            h = 31 * h + number;
        }
        return h;
    }

    private static void promise20Digest() {
        RunoffOffice letters = new RunoffOffice();
        type(letters, "x~ ");
        due.is("digest of letters", letters.digest(), digestOf('x', '~', ' ', 0, 0, 3, 0, 0, 0));
        RunoffOffice units = with("u2:3,5", "u1:9");
        due.is("digest of units", units.digest(), digestOf(
            2, 2, 8, 3, 5, 0, 0, 0, 0, 0, 0,
            1, 1, 9, 9, 0, 0, 0, 0, 0, 0, 0,
            0, 2, 0, 2, 0, 0));
        RunoffOffice storm = with("r2:4");
        due.is("digest of a storm", storm.digest(), digestOf(
            1, 1, 2, 4, 2, 0, 0, 4, 0, 0, 0, 0, 0, 0, 0,
            1, 2, NONE, NONE, NONE, NONE, NONE, NONE, NONE,
            2, 1, 0, 1,
            2, 1, 0, 1, 0, 1,
            2, 1, 0, 1, 0, 1, 0, 1,
            2, 1, 0, 1, 0, 1, 0, 1, 0, 1,
            1, 0, 0, 1, 0, 0));
        RunoffOffice both = with("r2:3", "u1:1", "r1:4,1", "u2:0,2");
        both.letter('r');
        due.is("digest of both", both.digest(), digestOf(
            1, 1, 2, 3, 2, 0, 0, 3, 0, 0, 0, 0, 0, 0, 0,
            NONE, NONE, NONE, NONE, NONE, NONE, NONE, NONE, NONE,
            1, 2, 1, 5, 1, 0, 0, 4, 1, 0, 0, 0, 0, 0, 0,
            2, 4, 1, NONE, NONE, NONE, NONE, NONE, NONE,
            1, 1, 1, 1, 0, 0, 0, 0, 0, 0, 0,
            2, 2, 2, 0, 2, 0, 0, 0, 0, 0, 0,
            1, 10, 25, 17,
            2, 1, 6, 1,
            2, 1, 1, 5, 29, 5,
            2, 1, 1, 5, 0, 1, 29, 5,
            2, 1, 1, 5, 0, 1, 0, 1, 29, 5,
            'r', 2, 2, 1, 4, 0, 0));
    }

    private static void refusalsChangeNothing() {
        RunoffOffice x = with("r2:3", "r1,1:2,0", "r1:9,9", "u1:1", "u2:2", "u3:3", "u4:4");
        type(x, "r1:1");
        long before = x.digest();
        x.take();
        x.letter(31);
        x.drop(true, 4);
        x.drop(false, 3);
        x.keep(4, 1, 1);
        x.keep(1, 1, 1);
        x.keep(0, 1, 1);
        x.best(9, 1, 0, 0);
        x.fault();
        x.storm(0, 99);
        due.is("digest after refusals", x.digest(), before);
        due.is("digest again", x.digest(), before);
    }
}
