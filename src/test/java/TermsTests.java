/** The boundary sentences of the document's 'What it is' and 'Terms', a test each, by answers worked out by hand. */
public final class TermsTests extends OfficeTests {
    public static void main(String[] args) {
        anObjectIsUsedFor512Calls();
        storms();
        units();
        numbersHaveNo0Ahead();
        made();
        missed();
        divided();
        bests();
        presses();
        sums();
        others();
        fractions();
        due.end("TermsTests");
    }

    /** Fills 511 calls, with all that can be held, and looks at the 512th. */
    private static void anObjectIsUsedFor512Calls() {
        RunoffOffice x = new RunoffOffice();
        int calls = 0;
        for (; calls < 511 - 14; calls++) {
            due.is("letter or blank", calls % 2 == 0 ? x.letter('r') : x.blank(), 1);
        }
        due.is("blank", x.blank(), 1);
        due.is("storm", take(x, "r2,1:2,5,8,3"), 0);
        due.is("the 512th call", x.best(1, 2, 1, 0), 24);
    }

    // ---- what comes as a text and what does not

    private static void comes(String text) {
        RunoffOffice x = new RunoffOffice();
        boolean unit = text.charAt(0) == 'u';
        due.is("take of " + text, take(x, text), 0);
        counts(x, unit ? 0 : 1, unit ? 1 : 0, 0, 1, 0, 0);
    }

    private static void comesNot(String text) {
        RunoffOffice x = new RunoffOffice();
        due.is("take of " + text, take(x, text), STATE);
        counts(x, 0, 0, text.length(), 0, 0, 0);
    }

    private static void storms() {
        rainHasOneToThreeNumbers();
        rainIs0To5();
        theFirstRainIsAbove0();
        rainIs0AtOtherTicks();
        aRowHasOneToEightNumbers("r1:");
        aRowHasNumbers0To99("r1:");
        runoffIs0AtOtherTicks();
        stormsAreThreeAtMost();
        stormsAreNumberedAsTheyCome();
    }

    private static void rainHasOneToThreeNumbers() {
        comesNot("r:1");
        comesNot("r,:1");
        for (int many = 1; many <= 3; many++) {
            RunoffOffice x = with("r" + times(many, "2") + ":1");
            due.is("numbers of rain", x.storm(0, 0), many);
            due.is("all rain", x.storm(0, 2), 2 * many);
        }
        comesNot("r1,1,1,1:1");
        comesNot("r1,1,1,:1");
    }

    private static void rainIs0To5() {
        for (String text : new String[] {"r1:1", "r5:1", "r1,0:1", "r1,5:1", "r1,0,0:1", "r1,1,5:1", "r5,5,5:1"}) {
            comes(text);
        }
        for (String text : new String[] {"r6:1", "r9:1", "r10:1", "r50:1", "r1,6:1", "r1,10:1", "r1,1,6:1", "r1,1,55:1",
            "r-1:1", "r1,-1:1", "r1.5:1"}) {
            comesNot(text);
        }
    }

    private static void theFirstRainIsAbove0() {
        comesNot("r0:1");
        comesNot("r0,1:1");
        comesNot("r0,0,5:1");
        comes("r1,0,0:1");
    }

    /** Also where a longer rain stood in the same place ahead of it. */
    private static void rainIs0AtOtherTicks() {
        RunoffOffice x = with("r5,5,5:9", "u1:1");
        x.drop(false, 0);
        take(x, "r4:9");
        int[] rain = {4, 0, 0};
        for (int t = 0; t <= 20; t++) {
            due.is("rain that is made at " + t, x.made(0, 0, t), t < 3 ? rain[t] : 0);
        }
        due.is("rain at 1", x.storm(0, 11), 0);
        due.is("rain at 2", x.storm(0, 12), 0);
        due.is("all rain", x.storm(0, 2), 4);
    }

    private static void aRowHasOneToEightNumbers(String head) {
        comesNot(head);
        comesNot(head + ",");
        for (int many = 1; many <= 8; many++) {
            comes(head + times(many, "9"));
            comesNot(head + times(many, "9") + ",");
        }
        comesNot(head + times(9, "9"));
        comesNot(head + times(8, "0") + ",0");
    }

    private static void aRowHasNumbers0To99(String head) {
        for (int ahead = 0; ahead < 8; ahead++) {
            String row = head + (ahead == 0 ? "" : times(ahead, "7") + ",");
            for (String number : new String[] {"0", "1", "9", "10", "98", "99"}) {
                comes(row + number);
            }
            for (String number : new String[] {"100", "101", "990", "999", "1000", "-1", "+1", "1.0", "a"}) {
                comesNot(row + number);
            }
        }
    }

    private static void runoffIs0AtOtherTicks() {
        RunoffOffice x = with("r1:99,99,99,99,99,99,99,99", "u1:0");
        x.drop(false, 0);
        take(x, "r1:7,6");
        for (int tick = 2; tick < 8; tick++) {
            due.is("runoff at " + tick, x.storm(0, 20 + tick), 0);
        }
        due.is("all runoff", x.storm(0, 3), 13);
        due.is("missed by nothing", x.missed(0, 0), 49 + 36);
    }

    private static void stormsAreThreeAtMost() {
        RunoffOffice x = with("r1:1", "r1:2", "r1:3");
        due.is("the fourth", take(x, "r1:4"), FULL);
        due.is("storms", x.count(0), 3);
        x.drop(false, 1);
        due.is("the fourth, one gone", x.take(), 2);
    }

    private static void stormsAreNumberedAsTheyCome() {
        RunoffOffice x = new RunoffOffice();
        for (int k = 0; k < 3; k++) {
            due.is("storm " + k, take(x, "r1:" + (k + 5)), k);
        }
        for (int k = 0; k < 3; k++) {
            due.is("runoff of " + k, x.storm(k, 20), k + 5);
        }
    }

    private static void units() {
        aLengthIs1To4();
        aRowHasOneToEightNumbers("u1:");
        aRowHasNumbers0To99("u4:");
        partsAre0AtOtherTicks();
        unitsAreFourAtMost();
        unitsAreNumberedAsTheyCome();
    }

    private static void aLengthIs1To4() {
        for (int length = 1; length <= 4; length++) {
            comes("u" + length + ":1");
            due.is("length", with("u" + length + ":1").unit(0, 0), length);
        }
        for (String text : new String[] {"u0:1", "u5:1", "u9:1", "u:1", "u11:1", "u01:1", "u10:1", "u-1:1", "u1,1:1"}) {
            comesNot(text);
        }
    }

    private static void partsAre0AtOtherTicks() {
        RunoffOffice x = with("u1:99,99,99,99,99,99,99,99", "r1:0");
        x.drop(true, 0);
        take(x, "u1:7,6");
        for (int tick = 2; tick < 8; tick++) {
            due.is("part at " + tick, x.unit(0, 10 + tick), 0);
        }
        due.is("all parts", x.unit(0, 2), 13);
        due.is("missed by two parts", x.missed(0, 0), 49 + 36);
        due.is("sum behind them", x.sum(0, 20), 13);
    }

    private static void unitsAreFourAtMost() {
        RunoffOffice x = with("u1:1", "u1:2", "u1:3", "u1:4");
        due.is("the fifth", take(x, "u1:5"), FULL);
        due.is("units", x.count(1), 4);
        x.drop(true, 3);
        due.is("the fifth, one gone", x.take(), 3);
        due.is("its part", x.unit(3, 10), 5);
    }

    private static void unitsAreNumberedAsTheyCome() {
        RunoffOffice x = new RunoffOffice();
        for (int k = 0; k < 4; k++) {
            due.is("unit " + k, take(x, "u1:" + (k + 5)), k);
        }
        for (int k = 0; k < 4; k++) {
            due.is("part of " + k, x.unit(k, 10), k + 5);
        }
    }

    private static void numbersHaveNo0Ahead() {
        for (String text : new String[] {"r01:1", "r1,00:1", "r1,01:1", "r1,0,05:1", "r1:00", "r1:01", "r1:09", "r1:1,00",
            "r1:000", "u1:00", "u1:01", "u1:1,09", "u01:1", "u1:0,00"}) {
            comesNot(text);
        }
        for (String text : new String[] {"r1,0:0", "r1:0,0", "r1:10", "r1:90", "u1:0", "u1:0,0", "u1:10,20"}) {
            comes(text);
        }
    }

    // ---- made, missed

    private static void made() {
        RunoffOffice x = with("r1,2,3:0", "u1:10,20", "u1:0,0,0,0,0,0,0,7");
        int[] first = {10, 40, 70, 60};
        int[] last = {0, 0, 0, 0, 0, 0, 0, 7, 14, 21};
        for (int t = 0; t <= 20; t++) {
            due.is("made by two parts at " + t, x.made(0, 0, t), t < first.length ? first[t] : 0);
            due.is("made by the last part at " + t, x.made(1, 0, t), t < last.length ? last[t] : 0);
        }
    }

    /** All ticks: those ahead of what is made, and those behind the last of the runoff. */
    private static void missed() {
        RunoffOffice x = with("r1,2,3:0", "r1:0,0,0,0,0,0,0,9", "r1:99,99,99,99,99,99,99,99",
            "u1:0,0,0,0,0,0,0,7", "u1:0", "u1:1");
        due.is("made alone, at 7 to 9", x.missed(0, 0), 49 + 196 + 441);
        due.is("runoff alone, at 7", x.missed(1, 1), 81);
        due.is("both, apart", x.missed(2, 1), 1 + 81);
        due.is("both at 7", x.missed(0, 1), 4);
        due.is("neither", x.missed(1, 0), 0);
        due.is("made less than runoff", x.missed(2, 2), 98 * 98 + 7 * 99 * 99);
    }

    // ---- divided

    private static void dividedIs(String text, int... want) {
        RunoffOffice x = with(text);
        due.is("divided of " + text, x.divided(0, 0), want.length == 0 ? NONE : want.length);
        for (int i = 0; i < 8; i++) {
            due.is("divided of " + text + " at " + i, x.divided(0, 10 + i), i < want.length ? want[i] : NONE);
        }
    }

    private static void divided() {
        itHasAsManyAsRunoffLessRainAndOne();
        itIsRunoffAtEachTick();
        itsNumbersAreWhole();
        itsNumbersMayBeBelow0();
    }

    /** A runoff of nothing goes by any rain, so only how many there are decides; none, if rain has more. */
    private static void itHasAsManyAsRunoffLessRainAndOne() {
        for (int rain = 1; rain <= 3; rain++) {
            for (int runoff = 1; runoff <= 8; runoff++) {
                dividedIs("r" + times(rain, "3") + ":" + times(runoff, "0"), new int[Math.max(0, runoff - rain + 1)]);
            }
        }
        dividedIs("r5,5,5:0,0");
        dividedIs("r1,0,0:1,0");
        dividedIs("r1,0,0:1");
        dividedIs("r1,0:1");
        dividedIs("r1,0,0:1,0,0", 1);
    }

    private static void itIsRunoffAtEachTick() {
        dividedIs("r1,1:6,6", 6);
        dividedIs("r1,1:6,7");
        dividedIs("r1,1:6,5");
        dividedIs("r1,2,3:1,2,3", 1);
        dividedIs("r1,2,3:1,2,4");
        dividedIs("r1,2,3:1,3,3");
        dividedIs("r1,2,3:2,2,3");
        dividedIs("r1,1,1:1,2,3,4,5,6,4,2", 1, 1, 1, 2, 2, 2);
        dividedIs("r1,1,1:1,2,3,4,5,6,5,2");
        dividedIs("r1,1,1:1,2,3,3,3,3,2,1", 1, 1, 1, 1, 1, 1);
        dividedIs("r1,1,1:1,2,3,3,3,3,2,2");
        dividedIs("r1,1,1:1,2,3,3,3,3,3,1");
    }

    private static void itsNumbersAreWhole() {
        dividedIs("r5:99");
        dividedIs("r5:95,90", 19, 18);
        dividedIs("r5:95,91");
        dividedIs("r2,1:2,0,0");
        dividedIs("r2,2:1,1");
        dividedIs("r2,2:2,2", 1);
        dividedIs("r4,4:4,6,2");
    }

    private static void itsNumbersMayBeBelow0() {
        dividedIs("r1,1:1,0,0,1", 1, -1, 1);
        dividedIs("r2,1:4,0,1,1", 2, -1, 1);
        dividedIs("r2,1:2,0,1,1");
        dividedIs("r1,1:99,0,0,99", 99, -99, 99);
        dividedIs("r1,1:9,8,0,1", 9, -1, 1);
        dividedIs("r1,5:0,0,0,0,0,0,0,0", 0, 0, 0, 0, 0, 0, 0);
        dividedIs("r1,5,5:1,0,0,0,0,0,0,0");
    }

    // ---- the best

    private static void bests() {
        theBestOfOneStormAndOfThree();
        oneToFourPartsAreFitted();
        noPartIsBelow0();
        theBestMissesLeast();
    }

    private static void theBestOfOneStormAndOfThree() {
        RunoffOffice x = with("r1:6", "r1:9", "r2:3");
        best(x, 1, 1, 0, 6, 1);
        best(x, 2, 1, 0, 9, 1);
        best(x, 4, 1, 0, 3, 2);
        best(x, 3, 1, 0, 15, 2);
        best(x, 5, 1, 0, 12, 5);
        best(x, 6, 1, 0, 3, 1);
        best(x, 7, 1, 0, 7, 2);
        loss(x, 7, 1, 105, 2);
    }

    /** The runoff is made of 4, 3, 2, 1: fewer parts can't make it, four make it without a rest. */
    private static void oneToFourPartsAreFitted() {
        RunoffOffice x = with("r1,2,3:4,11,20,14,8,3");
        best(x, 1, 1, 0, 43, 7);
        loss(x, 1, 1, 806 * 7 - 86 * 43, 7);
        int[] parts = {4, 3, 2, 1};
        for (int k = 0; k < 4; k++) {
            best(x, 1, 4, k, parts[k], 1);
            press(x, 1, 4, k, 0, 1);
        }
        loss(x, 1, 4, 0, 1);
        due.is("kept", x.keep(1, 4, 1), 0);
        due.is("missed by it", x.missed(0, 0), 0);
    }

    /** Without that bound the second parts would be -1 by 3 and -99 by 3: one just below, one far. */
    private static void noPartIsBelow0() {
        RunoffOffice x = with("r1,1:1", "r1,1:99", "r1,1:0,0,1");
        best(x, 1, 2, 0, 1, 2);
        best(x, 1, 2, 1, 0, 1);
        press(x, 1, 2, 1, 1, 2);
        loss(x, 1, 2, 1, 2);
        best(x, 2, 2, 0, 99, 2);
        best(x, 2, 2, 1, 0, 1);
        best(x, 4, 2, 0, 0, 1);
        best(x, 4, 2, 1, 1, 2);
        press(x, 4, 2, 0, 1, 2);
        due.is("nothing behind", x.nothing(1, 2), 2);
        due.is("nothing ahead", x.nothing(4, 2), 1);
    }

    /** No unit of two small whole parts misses less than the best of two. */
    private static void theBestMissesLeast() {
        for (String storm : new String[] {"r1,1:1", "r2,1:2,5,8,3", "r1,3:0,4,0,1", "r3,0,1:9,1,0,0,5", "r1,5,2:0,0,9"}) {
            for (int first = 0; first <= 6; first++) {
                RunoffOffice x = with(storm);
                long above = x.loss(1, 2, 0);
                long below = x.loss(1, 2, 1);
                for (int second = 0; second <= 6; second++) {
                    take(x, "u1:" + first + "," + second);
                    due.holds("best of " + storm + " against " + first + ", " + second, above <= x.missed(0, 0) * below);
                    x.drop(true, 0);
                }
            }
        }
    }

    private static void presses() {
        pressIs0WhereThePartIsAbove0AndNeverBelow0();
        pressMayBe0WhereThePartIs0();
        RunoffOffice x = with("r1,5:0,9,0,7");
        press(x, 1, 3, 0, 0, 1);
        press(x, 1, 3, 1, 83, 13);
        press(x, 1, 3, 2, 0, 1);
        press(with("r1,1:0,0,3"), 1, 2, 0, 3, 2);
    }

    private static void pressIs0WhereThePartIsAbove0AndNeverBelow0() {
        for (String rain : new String[] {"1", "1,1", "1,5", "5,1", "1,0,5", "2,3,4", "1,5,5"}) {
            for (int bits = 0; bits < 64; bits++) {
                StringBuilder runoff = new StringBuilder();
                for (int t = 0; t < 6; t++) {
                    runoff.append(t == 0 ? "" : ",").append((bits >> t & 1) * (t + 3) * (t + 3));
                }
                signsOfPress(with("r" + rain + ":" + runoff), "r" + rain + ":" + runoff);
            }
        }
    }

    private static void signsOfPress(RunoffOffice x, String text) {
        for (int n = 1; n <= 4; n++) {
            for (int k = 0; k < n; k++) {
                long part = x.best(1, n, k, 0);
                long press = x.press(1, n, k, 0);
                String told = " of " + text + " at " + k + " of " + n;
                due.holds("part not below 0" + told, part >= 0 && x.best(1, n, k, 1) > 0);
                due.holds("press not below 0" + told, press >= 0 && x.press(1, n, k, 1) > 0);
                due.holds("part or press 0" + told, part == 0 || press == 0);
                due.is("told as nothing" + told, x.nothing(1, n) >> k & 1, part == 0 ? 1 : 0);
            }
        }
    }

    private static void pressMayBe0WhereThePartIs0() {
        RunoffOffice x = with("r1:0", "r1:4,0,2");
        for (int k = 0; k < 4; k++) {
            best(x, 1, 4, k, 0, 1);
            press(x, 1, 4, k, 0, 1);
        }
        best(x, 2, 3, 1, 0, 1);
        press(x, 2, 3, 1, 0, 1);
    }

    // ---- sums, other lengths

    private static void sums() {
        int[] parts = {1, 2, 3, 4, 5, 6, 7, 8};
        for (int length = 1; length <= 4; length++) {
            RunoffOffice x = with("u" + length + ":1,2,3,4,5,6,7,8");
            for (int t = 0; t <= 20; t++) {
                int together = 0;
                for (int tick = t; tick >= 0; tick -= length) {
                    together += tick < 8 ? parts[tick] : 0;
                }
                due.is("sum of length " + length + " at " + t, x.sum(0, t), together);
            }
        }
        RunoffOffice x = with("u4:9", "u1:9", "u3:0,0,9");
        due.is("sum at 3", x.sum(0, 3), 0);
        due.is("sum at 4", x.sum(0, 4), 9);
        due.is("sum at 20", x.sum(0, 20), 9);
        due.is("sum of ones at 20", x.sum(1, 20), 9);
        due.is("sum at 20 by threes", x.sum(2, 20), 9);
    }

    private static void others() {
        byItsOwnLengthItIsTheUnit();
        sumBelowTick0Is0();
    }

    private static void byItsOwnLengthItIsTheUnit() {
        int[] parts = {8, 0, 99, 1, 2, 3, 4, 50};
        for (int length = 1; length <= 4; length++) {
            RunoffOffice x = with("u" + length + ":8,0,99,1,2,3,4,50");
            for (int t = 0; t <= 20; t++) {
                other(x, 0, length, t, t < 8 ? parts[t] : 0, 1);
            }
        }
    }

    /** A sum of 9 at each tick: less the one m ahead of it nothing is left, where there is one. */
    private static void sumBelowTick0Is0() {
        RunoffOffice x = with("u1:9");
        for (int m = 1; m <= 4; m++) {
            for (int t = 0; t <= 20; t++) {
                long below = t >= m ? 1 : m == 3 ? 1 : m;
                other(x, 0, m, t, t >= m ? 0 : m == 3 ? 3 : 9, below);
            }
        }
    }

    private static void fractions() {
        RunoffOffice x = with("u2:3,1", "u4:2,1", "r2:4", "r4:2", "r3:2");
        other(x, 0, 4, 0, 3, 2);
        other(x, 0, 3, 0, 2, 1);
        other(x, 0, 1, 1, -4, 1);
        other(x, 0, 3, 3, -4, 3);
        other(x, 0, 4, 4, 0, 1);
        other(x, 1, 3, 1, 4, 3);
        other(x, 1, 3, 3, -8, 3);
        other(x, 1, 2, 3, -2, 1);
        other(x, 1, 4, 2, 0, 1);
        best(x, 1, 1, 0, 2, 1);
        best(x, 2, 1, 0, 1, 2);
        best(x, 4, 1, 0, 2, 3);
        best(x, 4, 2, 1, 0, 1);
        loss(x, 7, 1, 212, 29);
        loss(x, 1, 1, 0, 1);
        press(x, 4, 2, 1, 0, 1);
    }
}
