import java.math.BigInteger;
import java.util.ArrayList;
import java.util.List;
import java.util.regex.Matcher;
import java.util.regex.Pattern;

/** The document's words once more, slowly: texts by patterns, fractions by big numbers, the best by its loss alone. */
final class Model {
    static final int NONE = -1000001, UNKNOWN = -1000002, OUTSIDE = -1000003, STATE = -1000004, FULL = -1000005;
    private static final String NUMBERS = "(0|[1-9][0-9]?)(,(0|[1-9][0-9]?)){0,7}";
    private static final Pattern STORM = Pattern.compile("r([1-5](,[0-5]){0,2}):(" + NUMBERS + ")");
    private static final Pattern UNIT = Pattern.compile("u([1-4]):(" + NUMBERS + ")");

    /** A fraction in lowest terms, below above 0. */
    record Fraction(BigInteger above, BigInteger below) {
        static final Fraction ZERO = of(0);

        static Fraction of(long whole) {
            return new Fraction(BigInteger.valueOf(whole), BigInteger.ONE);
        }

        static Fraction lowest(BigInteger above, BigInteger below) {
            BigInteger shared = above.gcd(below);
            BigInteger signed = below.signum() < 0 ? shared.negate() : shared;
            return new Fraction(above.divide(signed), below.divide(signed));
        }

        Fraction plus(Fraction o) {
            return lowest(above.multiply(o.below).add(o.above.multiply(below)), below.multiply(o.below));
        }

        Fraction minus(Fraction o) {
            return plus(new Fraction(o.above.negate(), o.below));
        }

        Fraction times(Fraction o) {
            return lowest(above.multiply(o.above), below.multiply(o.below));
        }

        Fraction by(Fraction o) {
            return lowest(above.multiply(o.below), below.multiply(o.above));
        }

        int sign() {
            return above.signum();
        }

        long told(int part) {
            return part == 0 ? above.longValueExact() : below.longValueExact();
        }
    }

    record Storm(int[] rain, int[] runoff) { }

    record Unit(int length, int[] parts) { }

    private final StringBuilder page = new StringBuilder();
    private final List<Storm> storms = new ArrayList<>();
    private final List<Unit> units = new ArrayList<>();
    private int came;
    private int went;
    private int kept;

    private static int at(int[] row, int tick) {
        return tick < 0 || tick >= row.length ? 0 : row[tick];
    }

    private static int total(int[] row) {
        int total = 0;
        for (int number : row) {
            total += number;
        }
        return total;
    }

    private static int[] numbers(String text) {
        String[] words = text.split(",");
        int[] row = new int[words.length];
        for (int i = 0; i < row.length; i++) {
            row[i] = Integer.parseInt(words[i]);
        }
        return row;
    }

    private static boolean begins(Pattern pattern, String text) {
        Matcher matcher = pattern.matcher(text);
        return matcher.matches() || matcher.hitEnd();
    }

    int letter(int code) {
        if (code < 32 || code > 126) return OUTSIDE;
        if (page.length() == 40) return FULL;
        page.append((char) code);
        return page.length();
    }

    int blank() {
        int had = page.length();
        page.setLength(0);
        return had;
    }

    int fault() {
        for (int i = 0; i < page.length(); i++) {
            String front = page.substring(0, i + 1);
            if (!begins(STORM, front) && !begins(UNIT, front)) return i;
        }
        return page.length();
    }

    int take() {
        Matcher storm = STORM.matcher(page);
        Matcher unit = UNIT.matcher(page);
        if (storm.matches()) {
            if (storms.size() == 3) return FULL;
            storms.add(new Storm(numbers(storm.group(1)), numbers(storm.group(3))));
        } else if (unit.matches()) {
            if (units.size() == 4) return FULL;
            units.add(new Unit(Integer.parseInt(unit.group(1)), numbers(unit.group(2))));
        } else {
            return STATE;
        }
        boolean ofUnit = page.charAt(0) == 'u';
        page.setLength(0);
        came++;
        return (ofUnit ? units.size() : storms.size()) - 1;
    }

    int drop(boolean ofUnits, int k) {
        List<?> list = ofUnits ? units : storms;
        if (k < 0 || k >= list.size()) return UNKNOWN;
        list.remove(k);
        went++;
        return list.size();
    }

    private boolean noStorm(int k) {
        return k < 0 || k >= storms.size();
    }

    private boolean noUnit(int k) {
        return k < 0 || k >= units.size();
    }

    int storm(int k, int what) {
        if (noStorm(k)) return UNKNOWN;
        Storm s = storms.get(k);
        if (what == 0) return s.rain.length;
        if (what == 1) return s.runoff.length;
        if (what == 2) return total(s.rain);
        if (what == 3) return total(s.runoff);
        if (what >= 10 && what <= 12) return at(s.rain, what - 10);
        if (what >= 20 && what <= 27) return at(s.runoff, what - 20);
        return OUTSIDE;
    }

    /** By fractions, and then multiplied again, rather than by rests. */
    private static Fraction[] quotient(Storm s) {
        int many = s.runoff.length - s.rain.length + 1;
        if (many < 1) return null;
        Fraction[] row = new Fraction[many];
        for (int t = 0; t < many; t++) {
            Fraction left = Fraction.of(s.runoff[t]);
            for (int i = 1; i <= t; i++) {
                left = left.minus(row[t - i].times(Fraction.of(at(s.rain, i))));
            }
            row[t] = left.by(Fraction.of(s.rain[0]));
            if (!row[t].below.equals(BigInteger.ONE)) return null;
        }
        for (int t = 0; t < 30; t++) {
            Fraction made = madeBy(s, row, t);
            if (made.minus(Fraction.of(at(s.runoff, t))).sign() != 0) return null;
        }
        return row;
    }

    private static Fraction madeBy(Storm s, Fraction[] parts, int t) {
        Fraction made = Fraction.ZERO;
        for (int i = 0; i < s.rain.length; i++) {
            if (t - i >= 0 && t - i < parts.length) {
                made = made.plus(Fraction.of(s.rain[i]).times(parts[t - i]));
            }
        }
        return made;
    }

    int divided(int k, int what) {
        if (noStorm(k)) return UNKNOWN;
        if (what != 0 && (what < 10 || what > 17)) return OUTSIDE;
        Fraction[] row = quotient(storms.get(k));
        if (row == null) return NONE;
        if (what == 0) return row.length;
        return what - 10 < row.length ? (int) row[what - 10].told(0) : NONE;
    }

    int unit(int k, int what) {
        if (noUnit(k)) return UNKNOWN;
        Unit u = units.get(k);
        if (what == 0) return u.length;
        if (what == 1) return u.parts.length;
        if (what == 2) return total(u.parts);
        if (what >= 10 && what <= 17) return at(u.parts, what - 10);
        return OUTSIDE;
    }

    private static int product(int[] rain, int[] parts, int t) {
        int made = 0;
        for (int i = 0; i <= t; i++) {
            made += at(rain, i) * at(parts, t - i);
        }
        return made;
    }

    int made(int u, int s, int t) {
        if (noUnit(u) || noStorm(s)) return UNKNOWN;
        if (t < 0 || t > 20) return OUTSIDE;
        return product(storms.get(s).rain, units.get(u).parts, t);
    }

    int missed(int u, int s) {
        if (noUnit(u) || noStorm(s)) return UNKNOWN;
        int missed = 0;
        for (int t = 0; t < 50; t++) {
            int off = product(storms.get(s).rain, units.get(u).parts, t) - at(storms.get(s).runoff, t);
            missed += off * off;
        }
        return missed;
    }

    private static int summed(Unit u, int t) {
        return t < 0 ? 0 : at(u.parts, t) + summed(u, t - u.length);
    }

    int sum(int u, int t) {
        if (noUnit(u)) return UNKNOWN;
        return t < 0 || t > 20 ? OUTSIDE : summed(units.get(u), t);
    }

    int other(int u, int m, int t, int part) {
        if (noUnit(u)) return UNKNOWN;
        if (m < 1 || m > 4 || t < 0 || t > 20 || part < 0 || part > 1) return OUTSIDE;
        Unit of = units.get(u);
        Fraction risen = Fraction.of(summed(of, t) - summed(of, t - m));
        return (int) risen.times(Fraction.of(of.length)).by(Fraction.of(m)).told(part);
    }

    private boolean noFit(int some, int n) {
        if (some < 1 || n < 1 || n > 4) return true;
        for (int bit = 0; bit < 31; bit++) {
            if ((some >> bit & 1) == 1 && noStorm(bit)) return true;
        }
        return false;
    }

    /** Of all rows that are least with some parts held at 0 and are nowhere below 0: the one of least loss. */
    private Fraction[] bestOf(int some, int n) {
        Fraction[] least = null;
        for (int free = 0; free < 1 << n; free++) {
            Fraction[] row = leastWith(some, n, free);
            boolean below = false;
            for (Fraction part : row) {
                below |= part.sign() < 0;
            }
            if (!below && (least == null || lossOf(some, row).minus(lossOf(some, least)).sign() < 0)) {
                least = row;
            }
        }
        return least;
    }

    private Fraction[] leastWith(int some, int n, int free) {
        Fraction[][] equations = new Fraction[n][n + 1];
        for (int row = 0; row < n; row++) {
            for (int column = 0; column <= n; column++) {
                boolean held = (free >> row & 1) == 0 || column < n && (free >> column & 1) == 0;
                equations[row][column] = held
                    ? Fraction.of(row == column ? 1 : 0)
                    : Fraction.of(crossed(some, row, column, n));
            }
        }
        return solved(equations, n);
    }

    /** Of some storms and all ticks: rain behind a part, times rain behind another (or the runoff, at column n). */
    private long crossed(int some, int row, int column, int n) {
        long total = 0;
        for (int s = 0; s < storms.size(); s++) {
            for (int t = 0; t < 20 && (some >> s & 1) == 1; t++) {
                Storm of = storms.get(s);
                long second = column == n ? at(of.runoff, t) : at(of.rain, t - column);
                total += at(of.rain, t - row) * second;
            }
        }
        return total;
    }

    private static Fraction[] solved(Fraction[][] m, int n) {
        for (int pivot = 0; pivot < n; pivot++) {
            for (int row = 0; row < n; row++) {
                if (row == pivot) continue;
                Fraction factor = m[row][pivot].by(m[pivot][pivot]);
                for (int column = pivot; column <= n; column++) {
                    m[row][column] = m[row][column].minus(factor.times(m[pivot][column]));
                }
            }
        }
        Fraction[] row = new Fraction[n];
        for (int k = 0; k < n; k++) {
            row[k] = m[k][n].by(m[k][k]);
        }
        return row;
    }

    private Fraction lossOf(int some, Fraction[] parts) {
        Fraction total = Fraction.ZERO;
        for (int s = 0; s < storms.size(); s++) {
            for (int t = 0; t < 20 && (some >> s & 1) == 1; t++) {
                Fraction off = madeBy(storms.get(s), parts, t).minus(Fraction.of(at(storms.get(s).runoff, t)));
                total = total.plus(off.times(off));
            }
        }
        return total;
    }

    private Fraction pressOf(int some, Fraction[] parts, int k) {
        Fraction total = Fraction.ZERO;
        for (int s = 0; s < storms.size(); s++) {
            for (int t = 0; t < 20 && (some >> s & 1) == 1; t++) {
                Fraction off = madeBy(storms.get(s), parts, t).minus(Fraction.of(at(storms.get(s).runoff, t)));
                total = total.plus(off.times(Fraction.of(at(storms.get(s).rain, t - k))));
            }
        }
        return total;
    }

    long best(int some, int n, int k, int part) {
        if (noFit(some, n) || k < 0 || k >= n || part < 0 || part > 1) return OUTSIDE;
        return bestOf(some, n)[k].told(part);
    }

    long loss(int some, int n, int part) {
        if (noFit(some, n) || part < 0 || part > 1) return OUTSIDE;
        return lossOf(some, bestOf(some, n)).told(part);
    }

    long press(int some, int n, int k, int part) {
        if (noFit(some, n) || k < 0 || k >= n || part < 0 || part > 1) return OUTSIDE;
        return pressOf(some, bestOf(some, n), k).told(part);
    }

    int nothing(int some, int n) {
        if (noFit(some, n)) return OUTSIDE;
        Fraction[] row = bestOf(some, n);
        int bits = 0;
        for (int k = 0; k < n; k++) {
            bits += row[k].sign() == 0 ? 1 << k : 0;
        }
        return bits;
    }

    int keep(int some, int n, int length) {
        if (noFit(some, n) || length < 1 || length > 4) return OUTSIDE;
        Fraction[] row = bestOf(some, n);
        int[] parts = new int[n];
        for (int k = 0; k < n; k++) {
            if (!row[k].below.equals(BigInteger.ONE) || row[k].told(0) > 99) return STATE;
            parts[k] = (int) row[k].told(0);
        }
        if (units.size() == 4) return FULL;
        units.add(new Unit(length, parts));
        kept++;
        return units.size() - 1;
    }

    int count(int what) {
        int[] counts = {storms.size(), units.size(), page.length(), came, went, kept};
        return what < 0 || what >= counts.length ? OUTSIDE : counts[what];
    }

    long digest() {
        List<Long> told = new ArrayList<>();
        for (int s = 0; s < storms.size(); s++) {
            for (int what : new int[] {0, 1, 2, 3, 10, 11, 12, 20, 21, 22, 23, 24, 25, 26, 27}) {
                told.add((long) storm(s, what));
            }
            for (int what : new int[] {0, 10, 11, 12, 13, 14, 15, 16, 17}) {
                told.add((long) divided(s, what));
            }
        }
        for (int u = 0; u < units.size(); u++) {
            for (int what : new int[] {0, 1, 2, 10, 11, 12, 13, 14, 15, 16, 17}) {
                told.add((long) unit(u, what));
            }
        }
        for (int u = 0; u < units.size(); u++) {
            for (int s = 0; s < storms.size(); s++) {
                told.add((long) missed(u, s));
            }
        }
        int all = (1 << storms.size()) - 1;
        for (int n = 1; n <= 4 && all > 0; n++) {
            Fraction[] row = bestOf(all, n);
            for (Fraction part : row) {
                told.add(part.told(0));
                told.add(part.told(1));
            }
            told.add(lossOf(all, row).told(0));
            told.add(lossOf(all, row).told(1));
        }
        for (int i = 0; i < page.length(); i++) {
            told.add((long) page.charAt(i));
        }
        for (int what = 0; what < 6; what++) {
            told.add((long) count(what));
        }
        long h = 1619;
        for (long number : told) {
            h = 31 * h + number;
        }
        return h;
    }
}
