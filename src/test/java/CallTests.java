import java.math.BigInteger;
import java.util.ArrayList;
import java.util.List;

/** The boundary sentences of promises 1 to 20 that tell no refusal, a test each; RefusalTests has the refused calls. */
public final class CallTests extends OfficeTests {
    private static final String FIGURES = "0123456789";

    public static void main(String[] args) {
        promise1();
        promise2();
        promise3();
        promise4();
        promise5();
        promise6();
        promise7();
        promise8();
        promise9();
        promise10();
        promise11();
        promise12();
        promise13();
        promises14To17();
        promise18();
        promise19();
        promise20();
        due.end("CallTests");
    }

    // ---- 1 a new object

    private static void promise1() {
        RunoffOffice x = new RunoffOffice();
        counts(x, 0, 0, 0, 0, 0, 0);
        due.is("fault", x.fault(), 0);
        due.is("blank", x.blank(), 0);
        due.is("the first storm", take(x, "r1:1"), 0);
        due.is("the first unit", take(x, "u1:1"), 0);
        RunoffOffice y = new RunoffOffice();
        counts(y, 0, 0, 0, 0, 0, 0);
    }

    // ---- 2 letter

    private static void promise2() {
        for (int code = 32; code <= 126; code++) {
            RunoffOffice x = new RunoffOffice();
            due.is("letter(" + code + ")", x.letter(code), 1);
            due.is("letters", x.count(2), 1);
            due.is("digest of letter " + code, x.digest(), byWords(x, String.valueOf((char) code)).longValue());
        }
        RunoffOffice x = new RunoffOffice();
        for (int many = 1; many <= 40; many++) {
            due.is("letter the " + many + "th", x.letter(126), many);
        }
        due.is("letters", x.count(2), 40);
    }

    // ---- 3 blank

    private static void promise3() {
        RunoffOffice x = with("r1:1", "u1:1");
        due.is("blank of an empty page", x.blank(), 0);
        x.letter(' ');
        due.is("blank of one letter", x.blank(), 1);
        for (int many = 1; many <= 40; many++) {
            x.letter('1');
        }
        due.is("blank of a full page", x.blank(), 40);
        counts(x, 1, 1, 0, 2, 0, 0);
        due.is("letter on it then", x.letter('r'), 1);
        due.is("no letter of before", x.fault(), 1);
    }

    // ---- 4 fault

    /** Behind the letters ahead, which begin a text, just these go on: each other code is the first at fault. */
    private static void goesOnWith(String ahead, String letters) {
        for (int code = 32; code <= 126; code++) {
            RunoffOffice x = new RunoffOffice();
            type(x, ahead);
            due.is("fault of " + ahead, x.fault(), ahead.length());
            x.letter(code);
            int want = letters.indexOf(code) >= 0 ? ahead.length() + 1 : ahead.length();
            due.is("fault of " + ahead + (char) code, x.fault(), want);
        }
    }

    private static void promise4() {
        anEmptyPageHasNoFault();
        textsBegin();
        rainGoesOn();
        rowsGoOn("r1:");
        rowsGoOn("r5,5,5:");
        rowsGoOn("u3:");
        aNumberIsWrongAtTheFigureThatMakesItTooGreat();
        onlyTheFirstFaultIsTold();
        faultChangesNothing();
    }

    private static void anEmptyPageHasNoFault() {
        RunoffOffice x = new RunoffOffice();
        due.is("fault of nothing", x.fault(), 0);
        type(x, "xyz");
        x.blank();
        due.is("fault of nothing again", x.fault(), 0);
    }

    private static void textsBegin() {
        goesOnWith("", "ru");
        goesOnWith("u", "1234");
        for (String length : new String[] {"u1", "u2", "u3", "u4"}) {
            goesOnWith(length, ":");
        }
        goesOnWith("r", "12345");
    }

    private static void rainGoesOn() {
        goesOnWith("r1", ",:");
        goesOnWith("r5", ",:");
        goesOnWith("r1,", "012345");
        goesOnWith("r1,0", ",:");
        goesOnWith("r1,5", ",:");
        goesOnWith("r1,0,", "012345");
        goesOnWith("r1,0,0", ":");
        goesOnWith("r1,1,1", ":");
        goesOnWith("r5,5,5", ":");
    }

    private static void rowsGoOn(String head) {
        for (int ahead = 0; ahead < 8; ahead++) {
            String row = head + (ahead == 0 ? "" : times(ahead, "10") + ",");
            String behind = ahead < 7 ? "," : "";
            goesOnWith(row, FIGURES);
            goesOnWith(row + "0", behind);
            goesOnWith(row + "1", FIGURES + behind);
            goesOnWith(row + "9", FIGURES + behind);
            goesOnWith(row + "10", behind);
            goesOnWith(row + "99", behind);
        }
    }

    private static void faultOf(String text, int want) {
        RunoffOffice x = new RunoffOffice();
        type(x, text);
        due.is("fault of " + text, x.fault(), want);
    }

    private static void aNumberIsWrongAtTheFigureThatMakesItTooGreat() {
        faultOf("r6", 1);
        faultOf("r50", 2);
        faultOf("r1,9", 3);
        faultOf("r1,1,51", 6);
        faultOf("r1:100", 5);
        faultOf("r1:999", 5);
        faultOf("r1:1,100,5", 7);
        faultOf("u1:100", 5);
        faultOf("u4:0,0,0,0,0,0,0,1000", 19);
        faultOf("u5:1", 1);
    }

    private static void onlyTheFirstFaultIsTold() {
        faultOf("xr1:1", 0);
        faultOf("r0:1x", 1);
        faultOf("r1,,x:", 3);
        faultOf("r1:1 ,2 x", 4);
        faultOf("u1:1;u1:1", 4);
        faultOf("r5,5,5:99,99,99,99,99,99,99,990123456789", 30);
        faultOf("~~~~~~~~~~~~~~~~~~~~~~~~~~~~~~~~~~~~~~~~", 0);
    }

    private static void faultChangesNothing() {
        RunoffOffice x = new RunoffOffice();
        type(x, "r1:1");
        due.is("fault", x.fault(), 4);
        due.is("fault again", x.fault(), 4);
        counts(x, 0, 0, 4, 0, 0, 0);
        type(x, "x");
        due.is("fault of one more", x.fault(), 4);
        counts(x, 0, 0, 5, 0, 0, 0);
        x.blank();
        due.is("take behind", take(x, "u1:1"), 0);
    }

    // ---- 5 take

    private static void promise5() {
        thePageIsEmptyThen();
        eachBeginningIsNeither();
        whatIsFullIsTakenOnceThereIsRoom();
        stormsAndUnitsAreFullApart();
        theFullestTextsAreReadWhole();
    }

    private static void thePageIsEmptyThen() {
        RunoffOffice x = new RunoffOffice();
        due.is("storm", take(x, "r1:1"), 0);
        due.is("letters", x.count(2), 0);
        due.is("the same again", x.take(), STATE);
        due.is("letter", x.letter('u'), 1);
        due.is("blank", x.blank(), 1);
        due.is("unit", take(x, "u1:1"), 0);
        due.is("letters", x.count(2), 0);
        due.is("the same again", x.take(), STATE);
    }

    /** At each length of a text: taken only where a number has ended it. */
    private static void eachBeginningIsNeither() {
        for (String text : new String[] {"r1,0,5:10,0,9", "u4:10,0,9"}) {
            for (int length = 0; length <= text.length(); length++) {
                RunoffOffice x = new RunoffOffice();
                String front = text.substring(0, length);
                boolean whole = front.indexOf(':') > 0 && Character.isDigit(front.charAt(length - 1));
                due.is("take of " + front, take(x, front), whole ? 0 : STATE);
                due.is("letters behind take of " + front, x.count(2), whole ? 0 : length);
            }
        }
    }

    private static void whatIsFullIsTakenOnceThereIsRoom() {
        RunoffOffice x = with("r1:1", "r1:2", "r1:3", "u1:1", "u1:2", "u1:3", "u1:4");
        due.is("a storm too many", take(x, "r1:9"), FULL);
        due.is("still", x.take(), FULL);
        x.drop(true, 0);
        due.is("a unit less helps no storm", x.take(), FULL);
        x.drop(false, 0);
        due.is("a storm less does", x.take(), 2);
        due.is("its runoff", x.storm(2, 20), 9);
        due.is("letters", x.count(2), 0);
    }

    private static void stormsAndUnitsAreFullApart() {
        RunoffOffice x = with("r1:1", "r1:2", "r1:3");
        due.is("a unit, storms full", take(x, "u1:1"), 0);
        RunoffOffice y = with("u1:1", "u1:2", "u1:3", "u1:4");
        due.is("a storm, units full", take(y, "r1:1"), 0);
        counts(y, 1, 4, 0, 5, 0, 0);
    }

    private static void theFullestTextsAreReadWhole() {
        RunoffOffice x = with("r5,5,5:99,98,97,96,95,94,93,92", "u4:92,93,94,95,96,97,98,99");
        for (int tick = 0; tick < 8; tick++) {
            due.is("runoff at " + tick, x.storm(0, 20 + tick), 99 - tick);
            due.is("part at " + tick, x.unit(0, 10 + tick), 92 + tick);
        }
        RunoffOffice y = with("r1:0", "u1:0");
        due.is("the smallest storm", y.storm(0, 1), 1);
        due.is("the smallest unit", y.unit(0, 1), 1);
    }

    // ---- 6 drop

    private static void promise6() {
        for (int k = 0; k < 3; k++) {
            RunoffOffice x = with("r1:10", "r1:11", "r1:12", "u1:1");
            due.is("drop of storm " + k, x.drop(false, k), 2);
            due.is("storm 0 then", x.storm(0, 20), k == 0 ? 11 : 10);
            due.is("storm 1 then", x.storm(1, 20), k == 2 ? 11 : 12);
            due.is("storm 2 then", x.storm(2, 20), UNKNOWN);
            counts(x, 2, 1, 0, 4, 1, 0);
        }
        for (int k = 0; k < 4; k++) {
            RunoffOffice x = with("u1:10", "u2:11", "u3:12", "u4:13", "r1:1");
            due.is("drop of unit " + k, x.drop(true, k), 3);
            for (int left = 0; left < 3; left++) {
                int was = left < k ? left : left + 1;
                due.is("part of unit " + left + " then", x.unit(left, 10), 10 + was);
                due.is("length of unit " + left + " then", x.unit(left, 0), 1 + was);
            }
            due.is("unit 3 then", x.unit(3, 10), UNKNOWN);
            counts(x, 1, 3, 0, 5, 1, 0);
        }
        theLastOneGoes();
    }

    private static void theLastOneGoes() {
        RunoffOffice x = with("r1:1", "u1:1");
        type(x, "u2:");
        due.is("drop of the only storm", x.drop(false, 0), 0);
        due.is("drop of the only unit", x.drop(true, 0), 0);
        due.is("drop of no storm", x.drop(false, 0), UNKNOWN);
        due.is("drop of no unit", x.drop(true, 0), UNKNOWN);
        counts(x, 0, 0, 3, 2, 2, 0);
        due.is("the page stays", take(x, "7"), 0);
        due.is("as number 0", x.unit(0, 10), 7);
    }

    // ---- 7 storm

    private static void promise7() {
        RunoffOffice x = with("r1:0", "r5,5,5:99,99,99,99,99,99,99,99", "r5,0,4:0,1");
        int[] whats = {0, 1, 2, 3, 10, 11, 12, 20, 21, 26, 27};
        int[][] told = {
            {1, 1, 1, 0, 1, 0, 0, 0, 0, 0, 0},
            {3, 8, 15, 792, 5, 5, 5, 99, 99, 99, 99},
            {3, 2, 9, 1, 5, 0, 4, 0, 1, 0, 0}};
        for (int k = 0; k < 3; k++) {
            for (int i = 0; i < whats.length; i++) {
                due.is("storm(" + k + ", " + whats[i] + ")", x.storm(k, whats[i]), told[k][i]);
            }
        }
    }

    // ---- 8 divided

    private static void promise8() {
        RunoffOffice x = with("r1:1,2,3,4,5,6,7,8", "r1,1,1:1,1,1", "r1,1:1,2");
        due.is("eight numbers", x.divided(0, 0), 8);
        due.is("the first", x.divided(0, 10), 1);
        due.is("the eighth", x.divided(0, 17), 8);
        due.is("one number", x.divided(1, 0), 1);
        due.is("the first", x.divided(1, 10), 1);
        for (int what = 11; what <= 17; what++) {
            due.is("it has no " + (what - 10) + "th", x.divided(1, what), NONE);
        }
        due.is("no such row", x.divided(2, 0), NONE);
        for (int what = 10; what <= 17; what++) {
            due.is("no such row at " + (what - 10), x.divided(2, what), NONE);
        }
        x.drop(false, 0);
        due.is("the second is first now", x.divided(0, 0), 1);
        due.is("the third is second now", x.divided(1, 0), NONE);
        due.is("the third is no more", x.divided(2, 0), UNKNOWN);
    }

    // ---- 9 unit

    private static void promise9() {
        RunoffOffice x = with("u1:0", "u4:99,99,99,99,99,99,99,99", "u2:7,0,5");
        int[] whats = {0, 1, 2, 10, 11, 12, 16, 17};
        int[][] told = {
            {1, 1, 0, 0, 0, 0, 0, 0},
            {4, 8, 792, 99, 99, 99, 99, 99},
            {2, 3, 12, 7, 0, 5, 0, 0}};
        for (int k = 0; k < 3; k++) {
            for (int i = 0; i < whats.length; i++) {
                due.is("unit(" + k + ", " + whats[i] + ")", x.unit(k, whats[i]), told[k][i]);
            }
        }
    }

    // ---- 10 to 13

    private static void promise10() {
        RunoffOffice x = with("r5,5,5:0", "u1:99,99,99,99,99,99,99,99");
        int[] told = {495, 990, 1485, 1485, 1485, 1485, 1485, 1485, 990, 495};
        for (int t = 0; t <= 20; t++) {
            due.is("made at " + t, x.made(0, 0, t), t < told.length ? told[t] : 0);
        }
    }

    private static void promise11() {
        RunoffOffice x = with("r5,5,5:0", "r1:99,99,99,99,99,99,99,99", "u1:99,99,99,99,99,99,99,99", "u4:0");
        due.is("the most", x.missed(0, 0), 15_681_600);
        due.is("the least", x.missed(0, 1), 0);
        due.is("all runoff", x.missed(1, 1), 8 * 9801);
        due.is("nothing of nothing", x.missed(1, 0), 0);
    }

    private static void promise12() {
        RunoffOffice x = with("u1:99,99,99,99,99,99,99,99", "u4:1,0,0,0,2");
        due.is("at 0", x.sum(0, 0), 99);
        due.is("at 7", x.sum(0, 7), 792);
        due.is("at 8", x.sum(0, 8), 792);
        due.is("at 20", x.sum(0, 20), 792);
        due.is("of length 4 at 0", x.sum(1, 0), 1);
        due.is("of length 4 at 19", x.sum(1, 19), 0);
        due.is("of length 4 at 20", x.sum(1, 20), 3);
    }

    private static void promise13() {
        RunoffOffice x = with("u4:99,0,0,0,99", "u1:1");
        other(x, 0, 1, 0, 396, 1);
        other(x, 0, 1, 1, -396, 1);
        other(x, 0, 4, 0, 99, 1);
        other(x, 0, 4, 20, 0, 1);
        other(x, 0, 1, 20, 792, 1);
        other(x, 0, 3, 20, 264, 1);
        other(x, 1, 4, 0, 1, 4);
        other(x, 1, 4, 3, 1, 4);
        other(x, 1, 4, 4, 0, 1);
        other(x, 1, 1, 20, 0, 1);
    }

    // ---- 14 to 17 the best

    /** The edges of what is allowed are answered: each set of storms, 1 and 4 parts, the first and the last part. */
    private static void promises14To17() {
        String[] texts = {"r1:2", "r1:4", "r1:9"};
        int[] runoff = {2, 4, 9};
        for (int storms = 1; storms <= 3; storms++) {
            RunoffOffice x = new RunoffOffice();
            for (int k = 0; k < storms; k++) {
                take(x, texts[k]);
            }
            for (int some = 1; some < 1 << storms; some++) {
                ofSomeStorms(x, some, runoff);
            }
        }
        theLargestNumbers();
        fourPartsOfThreeStorms();
    }

    private static void ofSomeStorms(RunoffOffice x, int some, int[] runoff) {
        int together = 0;
        int squares = 0;
        for (int k = 0; k < 3; k++) {
            together += (some >> k & 1) * runoff[k];
            squares += (some >> k & 1) * runoff[k] * runoff[k];
        }
        int many = Integer.bitCount(some);
        for (int n = 1; n <= 4; n += 3) {
            due.is("best of " + some, x.best(some, n, 0, 0) * many, together * x.best(some, n, 0, 1));
            due.is("loss of " + some, x.loss(some, n, 0) * many, (squares * many - together * together) * x.loss(some, n, 1));
            press(x, some, n, 0, 0, 1);
            due.is("nothing of " + some, x.nothing(some, n), (1 << n) - 2);
        }
        best(x, some, 4, 3, 0, 1);
        press(x, some, 4, 3, 0, 1);
    }

    /** All rain and all runoff as great as can be: 99 by 5 at the first part and the fourth, as the shared run says. */
    private static void theLargestNumbers() {
        String most = "r5,5,5:99,99,99,99,99,99,99,99";
        RunoffOffice x = with(most, most, most);
        best(x, 7, 4, 0, 99, 5);
        best(x, 7, 4, 1, 0, 1);
        best(x, 7, 4, 2, 0, 1);
        best(x, 7, 4, 3, 99, 5);
        loss(x, 7, 4, 3 * 19602, 1);
        best(x, 7, 1, 0, 99, 5);
        loss(x, 7, 1, 3 * 5 * 9801, 1);
        due.is("nothing", x.nothing(7, 4), 6);
    }

    /** By hand no more: these are the shared runs' 2 and 5, where three of four parts are free. */
    private static void fourPartsOfThreeStorms() {
        RunoffOffice x = with("r1,5:0,9,0,7", "r3:9,0,4", "r1,1,1:5,5,5,5,5");
        best(x, 7, 4, 0, 29782, 13243);
        best(x, 7, 4, 1, 0, 1);
        best(x, 7, 4, 3, 2162, 13243);
        loss(x, 7, 4, 767398, 13243);
        press(x, 7, 4, 3, 0, 1);
        due.is("nothing", x.nothing(7, 4), 2);
        RunoffOffice y = with("r4,1,3:99,0,0,99,0,0,99,0");
        best(y, 1, 4, 3, 31482, 2093);
        press(y, 1, 4, 2, 56991, 299);
    }

    // ---- 18 keep

    private static void promise18() {
        lengths1To4AreKept();
        zerosAreKeptAsParts();
        parts0And99AreKept();
        noBestIsAbove99();
        aPartThatIsNoWholeNumberIsNotKept();
        aKeptUnitIsAUnit();
    }

    private static void lengths1To4AreKept() {
        RunoffOffice x = with("r1:7");
        for (int length = 1; length <= 4; length++) {
            due.is("keep of length " + length, x.keep(1, 1, length), length - 1);
            due.is("its length", x.unit(length - 1, 0), length);
        }
        due.is("a fifth", x.keep(1, 1, 1), FULL);
        x.drop(true, 0);
        due.is("a fifth, one gone", x.keep(1, 1, 1), 3);
        counts(x, 1, 4, 0, 1, 1, 5);
    }

    private static void zerosAreKeptAsParts() {
        for (int n = 1; n <= 4; n++) {
            RunoffOffice x = with("r1:7");
            due.is("keep", x.keep(1, n, 1), 0);
            due.is("parts", x.unit(0, 1), n);
            due.is("all parts", x.unit(0, 2), 7);
        }
    }

    private static void parts0And99AreKept() {
        RunoffOffice x = with("r1:0", "r5:99", "r1:99,0,99,98");
        due.is("keep of 0", x.keep(1, 1, 1), 0);
        due.is("0", x.unit(0, 10), 0);
        due.is("one part", x.unit(0, 1), 1);
        due.is("keep of 99", x.keep(4, 4, 1), 1);
        int[] parts = {99, 0, 99, 98};
        for (int k = 0; k < 4; k++) {
            due.is("part " + k, x.unit(1, 10 + k), parts[k]);
        }
        due.is("99 by 5", x.keep(2, 1, 1), STATE);
    }

    /** So the refusal of a part above 99 never comes about: at a part that is above 99, all is made above the runoff. */
    private static void noBestIsAbove99() {
        for (String rain : new String[] {"1", "1,0,1", "1,1", "1,0,0", "1,5", "1,5,5", "5,1"}) {
            for (int bits = 0; bits < 128; bits++) {
                StringBuilder text = new StringBuilder("r" + rain + ":");
                for (int t = 0; t < 7; t++) {
                    text.append(t == 0 ? "" : ",").append((bits >> t & 1) * 99);
                }
                RunoffOffice x = with(text.toString());
                for (int k = 0; k < 4; k++) {
                    due.holds("part " + k + " of " + text + " at most 99", x.best(1, 4, k, 0) <= 99 * x.best(1, 4, k, 1));
                }
            }
        }
    }

    /** The first, the last, or one between is a fraction; the others are whole. */
    private static void aPartThatIsNoWholeNumberIsNotKept() {
        for (String runoff : new String[] {"3,2,2,2", "2,3,2,2", "2,2,2,3", "1,1,1,1"}) {
            RunoffOffice x = with("r2:" + runoff);
            due.is("keep of half of " + runoff, x.keep(1, 4, 1), STATE);
            due.is("units", x.count(1), 0);
        }
        RunoffOffice x = with("r2:2,2,2,3");
        due.is("keep without the fourth", x.keep(1, 3, 1), 0);
    }

    private static void aKeptUnitIsAUnit() {
        RunoffOffice x = with("r2,1:2,5,8,3");
        type(x, "u1");
        due.is("keep", x.keep(1, 3, 2), 0);
        due.is("made", x.made(0, 0, 2), 8);
        due.is("missed", x.missed(0, 0), 0);
        due.is("sum", x.sum(0, 2), 4);
        other(x, 0, 4, 2, 2, 1);
        counts(x, 1, 1, 2, 1, 0, 1);
        due.is("the page stays", take(x, ":5"), 1);
        due.is("drop", x.drop(true, 0), 1);
        due.is("the text's unit is first now", x.unit(0, 10), 5);
        counts(x, 1, 1, 0, 2, 1, 1);
    }

    // ---- 19 count

    /** Those that came, went, were kept ever are still counted when they are gone. */
    private static void promise19() {
        RunoffOffice x = new RunoffOffice();
        for (int round = 1; round <= 20; round++) {
            take(x, "r1:5");
            x.keep(1, 1, 1);
            x.drop(true, 0);
            x.drop(false, 0);
            counts(x, 0, 0, 0, round, 2 * round, round);
        }
        take(x, "u1:5");
        x.letter('x');
        counts(x, 0, 1, 1, 21, 40, 20);
    }

    // ---- 20 digest

    private static void promise20() {
        nothingAndLetters();
        theFirstThatWraps();
        withoutStormsNoBest();
        allThatCanBe();
        digestChangesNothing();
    }

    private static void nothingAndLetters() {
        RunoffOffice x = new RunoffOffice();
        due.is("digest of nothing", x.digest(), 1619L * 31 * 31 * 31 * 31 * 31 * 31);
        type(x, "~");
        due.is("digest of a letter", x.digest(), byWords(x, "~").longValue());
        x.blank();
        due.is("digest of nothing again", x.digest(), 1619L * 31 * 31 * 31 * 31 * 31 * 31);
        String full = "r1:1 ~ u4:99 ABCDEFGHIJKLMNOPQRSTUVWXYZ!";
        due.is("a full page", full.length(), 40);
        type(x, full);
        due.is("digest of a full page", x.digest(), byWords(x, full).longValue());
    }

    /** Ten numbers stay within a long; at eleven it wraps. */
    private static void theFirstThatWraps() {
        RunoffOffice x = new RunoffOffice();
        type(x, "~~~~");
        due.holds("four letters don't wrap", byWords(x, "~~~~").bitLength() < 64);
        due.is("digest of four letters", x.digest(), byWords(x, "~~~~").longValueExact());
        type(x, "~");
        due.holds("five letters wrap", byWords(x, "~~~~~").bitLength() > 64);
        due.is("digest of five letters", x.digest(), byWords(x, "~~~~~").longValue());
    }

    private static void withoutStormsNoBest() {
        RunoffOffice x = with("u1:5", "r1:3");
        due.is("digest with a storm", x.digest(), byWords(x, "").longValue());
        x.drop(false, 0);
        due.is("digest without", x.digest(), byWords(x, "").longValue());
        due.is("its numbers", toldBy(x, "").size(), 11 + 6);
        x.drop(true, 0);
        due.is("digest of none", x.digest(), byWords(x, "").longValue());
        due.is("its numbers", toldBy(x, "").size(), 6);
    }

    /** Three storms, four units, the last of them kept. */
    private static RunoffOffice fullest() {
        RunoffOffice x = with("r1,5:0,9,0,7", "u1:1,2,3", "r4,1,3:99,0,0,99,0,0,99,0", "u4:99,99,99,99,99,99,99,99",
            "r2:2,4", "u2:0");
        due.is("keep", x.keep(4, 2, 3), 3);
        return x;
    }

    private static void allThatCanBe() {
        RunoffOffice x = fullest();
        type(x, "u2:17,");
        due.is("digest of all", x.digest(), byWords(x, "u2:17,").longValue());
        due.is("numbers of all", toldBy(fullest(), "u2:17,").size(), 3 * 24 + 4 * 11 + 12 + 28 + 6 + 6);
        RunoffOffice y = fullest();
        y.drop(false, 1);
        y.drop(true, 3);
        due.is("digest of less", y.digest(), byWords(y, "").longValue());
    }

    private static void digestChangesNothing() {
        RunoffOffice x = with("r2:3", "u1:1");
        type(x, "u1:");
        long told = x.digest();
        due.is("digest again", x.digest(), told);
        best(x, 1, 1, 0, 3, 2);
        due.is("the page stays", take(x, "4"), 1);
        due.holds("another digest", x.digest() != told);
    }

    /** The digest without wrapping, of what the other calls tell. */
    private static BigInteger byWords(RunoffOffice x, String page) {
        BigInteger h = BigInteger.valueOf(1619);
        for (long number : toldBy(x, page)) {
            h = h.multiply(BigInteger.valueOf(31)).add(BigInteger.valueOf(number));
        }
        return h;
    }

    private static List<Long> toldBy(RunoffOffice x, String page) {
        List<Long> told = new ArrayList<>();
        for (int s = 0; s < x.count(0); s++) {
            for (int what : new int[] {0, 1, 2, 3, 10, 11, 12, 20, 21, 22, 23, 24, 25, 26, 27}) {
                told.add((long) x.storm(s, what));
            }
            for (int what : new int[] {0, 10, 11, 12, 13, 14, 15, 16, 17}) {
                told.add((long) x.divided(s, what));
            }
        }
        for (int u = 0; u < x.count(1); u++) {
            for (int what : new int[] {0, 1, 2, 10, 11, 12, 13, 14, 15, 16, 17}) {
                told.add((long) x.unit(u, what));
            }
        }
        for (int u = 0; u < x.count(1); u++) {
            for (int s = 0; s < x.count(0); s++) {
                told.add((long) x.missed(u, s));
            }
        }
        addBests(told, x);
        for (int i = 0; i < page.length(); i++) {
            told.add((long) page.charAt(i));
        }
        for (int what = 0; what <= 5; what++) {
            told.add((long) x.count(what));
        }
        return told;
    }

    private static void addBests(List<Long> told, RunoffOffice x) {
        int all = (1 << x.count(0)) - 1;
        for (int n = 1; n <= 4 && all > 0; n++) {
            for (int k = 0; k < n; k++) {
                told.add(x.best(all, n, k, 0));
                told.add(x.best(all, n, k, 1));
            }
            told.add(x.loss(all, n, 0));
            told.add(x.loss(all, n, 1));
        }
    }
}
