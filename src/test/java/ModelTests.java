/** Long runs of calls, drawn from a fixed row of numbers, each answer held against the model's. */
public final class ModelTests {
    private static final int RUNS = 300;
    private static final int CALLS = 512;
    private static final int[] ODD = {-1, -2, 99, 1000, 31, 32, Integer.MIN_VALUE, Integer.MAX_VALUE, 1 << 30, -8};

    private final Due due;
    private final int run;
    private final RunoffOffice office = new RunoffOffice();
    private final Model model = new Model();
    private long seed;
    private int calls;

    private ModelTests(Due due, int run) {
        this.due = due;
        this.run = run;
        this.seed = 77_777L + run;
    }

    public static void main(String[] args) {
        Due due = new Due();
        for (int run = 0; run < RUNS && due.wrong() < 20; run++) {
            new ModelTests(due, run).play();
        }
        due.end("ModelTests");
    }

    private int draw(int bound) {
        seed = seed * 6364136223846793005L + 1442695040888963407L;
        return (int) ((seed >>> 33) % bound);
    }

    /** Mostly from 0 to most, sometimes one beside it, sometimes far off. */
    private int near(int most) {
        int kind = draw(40);
        if (kind == 0) return ODD[draw(ODD.length)];
        return kind == 1 ? draw(2) * (most + 2) - 1 : draw(most + 1);
    }

    private void is(String call, long got, long want) {
        calls++;
        due.is("run " + run + ": " + call, got, want);
    }

    private void play() {
        while (calls < CALLS - 45) {
            step();
        }
        is("digest()", office.digest(), model.digest());
    }

    private void step() {
        int kind = draw(20);
        if (kind < 3) {
            text();
        } else if (kind < 5) {
            changes();
        } else if (kind < 12) {
            fits();
        } else {
            rows();
        }
    }

    private void text() {
        String text = draw(2) == 0 ? storm() : unit();
        if (draw(4) == 0) {
            text = spoilt(text);
        }
        for (int i = 0; i < text.length(); i++) {
            letter(text.charAt(i));
        }
        is("fault()", office.fault(), model.fault());
        is("take()", office.take(), model.take());
        if (draw(8) != 0) {
            is("blank()", office.blank(), model.blank());
        }
    }

    private void letter(int code) {
        is("letter(" + code + ")", office.letter(code), model.letter(code));
    }

    private String storm() {
        StringBuilder text = new StringBuilder("r").append(1 + draw(5));
        int more = draw(3);
        for (int i = 0; i < more; i++) {
            text.append(',').append(draw(6));
        }
        return text.append(':').append(draw(3) == 0 ? multiple() : numbers(draw(3) == 0 ? 10 : 100)).toString();
    }

    /** Small numbers, so that fits and quotients are whole now and then. */
    private String multiple() {
        return numbers(3).replace("2", "20");
    }

    private String unit() {
        return "u" + (1 + draw(4)) + ":" + numbers(100);
    }

    private String numbers(int bound) {
        StringBuilder text = new StringBuilder().append(draw(bound));
        int more = draw(8);
        for (int i = 0; i < more; i++) {
            text.append(',').append(draw(bound));
        }
        return text.toString();
    }

    private String spoilt(String text) {
        String signs = "ru:,0123456789 x/;";
        StringBuilder spoilt = new StringBuilder(text);
        int place = draw(text.length());
        char sign = signs.charAt(draw(signs.length()));
        switch (draw(3)) {
            case 0: spoilt.setCharAt(place, sign); break;
            case 1: spoilt.insert(place, sign); break;
            default: spoilt.deleteCharAt(place); break;
        }
        return spoilt.toString();
    }

    private void changes() {
        int some = 1 + draw(7);
        int n = near(4);
        switch (draw(4)) {
            case 0: {
                boolean units = draw(2) == 0;
                int k = near(3);
                is("drop(" + units + ", " + k + ")", office.drop(units, k), model.drop(units, k));
                break;
            }
            case 1:
                letter(draw(4) == 0 ? near(200) : 32 + draw(95));
                break;
            default: {
                int length = near(4);
                is("keep(" + some + ", " + n + ", " + length + ")",
                    office.keep(some, n, length), model.keep(some, n, length));
                break;
            }
        }
    }

    private void fits() {
        int some = near(7);
        int n = near(4);
        int k = near(3);
        int part = near(1);
        String told = "(" + some + ", " + n + ", " + k + ", " + part + ")";
        switch (draw(5)) {
            case 0: is("best" + told, office.best(some, n, k, part), model.best(some, n, k, part)); break;
            case 1: is("press" + told, office.press(some, n, k, part), model.press(some, n, k, part)); break;
            case 2: is("loss" + told, office.loss(some, n, part), model.loss(some, n, part)); break;
            case 3: is("nothing" + told, office.nothing(some, n), model.nothing(some, n)); break;
            default: if (draw(4) == 0) is("digest()", office.digest(), model.digest()); break;
        }
    }

    private void rows() {
        int unit = near(3);
        int storm = near(2);
        int t = near(20);
        int m = near(4);
        int part = near(1);
        int what = near(29);
        String told = "(unit " + unit + ", storm " + storm + ", t " + t + ", m " + m + ", what " + what + ")";
        switch (draw(8)) {
            case 0: is("storm" + told, office.storm(storm, what), model.storm(storm, what)); break;
            case 1: is("divided" + told, office.divided(storm, what), model.divided(storm, what)); break;
            case 2: is("unit" + told, office.unit(unit, what), model.unit(unit, what)); break;
            case 3: is("made" + told, office.made(unit, storm, t), model.made(unit, storm, t)); break;
            case 4: is("missed" + told, office.missed(unit, storm), model.missed(unit, storm)); break;
            case 5: is("sum" + told, office.sum(unit, t), model.sum(unit, t)); break;
            case 6: is("other" + told, office.other(unit, m, t, part), model.other(unit, m, t, part)); break;
            default: is("count" + told, office.count(m + part), model.count(m + part)); break;
        }
    }
}
