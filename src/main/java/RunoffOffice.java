/** Storms, units and the units that fit storms best, as the document's promises 1 to 20 tell them. */
public final class RunoffOffice {
    public static final int NONE = -1000001, UNKNOWN = -1000002, OUTSIDE = -1000003, STATE = -1000004, FULL = -1000005;

    private static final int MOST_STORMS = 3;
    private static final int MOST_UNITS = 4;
    private static final int MOST_LETTERS = 40;
    private static final int FIRST_CODE = 32;
    private static final int LAST_CODE = 126;
    private static final int MOST_RAINS = 3;
    private static final int MOST_NUMBERS = 8;
    private static final int MOST_RAIN = 5;
    private static final int MOST_NUMBER = 99;
    private static final int MOST_LENGTH = 4;
    private static final int MOST_FITTED = 4;
    private static final int LAST_TICK = 20;
    private static final int COUNTS = 6;
    /** The euclidean walk on two longs needs fewer than 93 steps. */
    private static final int MOST_STEPS = 100;
    private static final long DIGEST_START = 1619;

    private final int[] page = new int[MOST_LETTERS];
    private final Storm[] heldStorms = new Storm[MOST_STORMS];
    private final Unit[] heldUnits = new Unit[MOST_UNITS];
    private final Reader reader = new Reader();
    private final Fit fit = new Fit();
    private int letterCount;
    private int stormCount;
    private int unitCount;
    private int cameAsTexts;
    private int went;
    private int kept;

    public RunoffOffice() {
        for (int i = 0; i < MOST_STORMS; i++) {
            heldStorms[i] = new Storm();
        }
        for (int i = 0; i < MOST_UNITS; i++) {
            heldUnits[i] = new Unit();
        }
    }

    // ---- texts

    public int letter(int code) {
        if (code < FIRST_CODE || code > LAST_CODE) {
            return OUTSIDE;
        }
        if (letterCount >= MOST_LETTERS) {
            return FULL;
        }
        page[letterCount] = code;
        letterCount++;
        return letterCount;
    }

    public int blank() {
        int had = letterCount;
        letterCount = 0;
        return had;
    }

    public int fault() {
        return reader.read(page, letterCount);
    }

    public int take() {
        if (reader.read(page, letterCount) < letterCount || !reader.isWhole()) {
            return STATE;
        }
        int number = reader.isOfUnit() ? takeUnit() : takeStorm();
        if (number == FULL) {
            return FULL;
        }
        letterCount = 0;
        cameAsTexts++;
        return number;
    }

    public int drop(boolean units, int k) {
        return units ? dropUnit(k) : dropStorm(k);
    }

    // ---- storms

    public int storm(int storm, int what) {
        if (!hasStorm(storm)) {
            return UNKNOWN;
        }
        Storm told = heldStorms[storm];
        if (what >= 10 && what < 10 + MOST_RAINS) {
            return told.rain.at(what - 10);
        }
        if (what >= 20 && what < 20 + MOST_NUMBERS) {
            return told.runoff.at(what - 20);
        }
        switch (what) {
            case 0:
                return told.rain.size();
            case 1:
                return told.runoff.size();
            case 2:
                return told.rain.total();
            case 3:
                return told.runoff.total();
            default:
                return OUTSIDE;
        }
    }

    public int divided(int storm, int what) {
        if (!hasStorm(storm)) {
            return UNKNOWN;
        }
        int place = what - 10;
        boolean ofPlace = what >= 10 && what < 10 + MOST_NUMBERS;
        if (what != 0 && !ofPlace) {
            return OUTSIDE;
        }
        Storm told = heldStorms[storm];
        if (!told.goesEvenly()) {
            return NONE;
        }
        if (what == 0) {
            return told.quotient.size();
        }
        return place < told.quotient.size() ? told.quotient.at(place) : NONE;
    }

    // ---- units

    public int unit(int unit, int what) {
        if (!hasUnit(unit)) {
            return UNKNOWN;
        }
        Unit told = heldUnits[unit];
        if (what >= 10 && what < 10 + MOST_NUMBERS) {
            return told.parts.at(what - 10);
        }
        switch (what) {
            case 0:
                return told.length;
            case 1:
                return told.parts.size();
            case 2:
                return told.parts.total();
            default:
                return OUTSIDE;
        }
    }

    public int made(int unit, int storm, int t) {
        if (!hasUnit(unit) || !hasStorm(storm)) {
            return UNKNOWN;
        }
        if (!isTick(t)) {
            return OUTSIDE;
        }
        return heldStorms[storm].rainTimes(heldUnits[unit].parts, t);
    }

    public int missed(int unit, int storm) {
        if (!hasUnit(unit) || !hasStorm(storm)) {
            return UNKNOWN;
        }
        return heldStorms[storm].squaresMissed(heldUnits[unit].parts);
    }

    public int sum(int unit, int t) {
        if (!hasUnit(unit)) {
            return UNKNOWN;
        }
        if (!isTick(t)) {
            return OUTSIDE;
        }
        return heldUnits[unit].summedAt(t);
    }

    public int other(int unit, int m, int t, int part) {
        if (!hasUnit(unit)) {
            return UNKNOWN;
        }
        if (!isLength(m) || !isTick(t) || !isPartOfFraction(part)) {
            return OUTSIDE;
        }
        Unit told = heldUnits[unit];
        int risen = told.summedAt(t) - told.summedAt(t - m);
        return (int) inLowestTerms(risen * told.length, m, part);
    }

    // ---- the best

    public long best(int some, int n, int k, int part) {
        if (!canFit(some, n) || !isFitted(k, n) || !isPartOfFraction(part)) {
            return OUTSIDE;
        }
        fitStorms(some, n);
        return inLowestTerms(fit.partAbove(k), fit.below(), part);
    }

    public long loss(int some, int n, int part) {
        if (!canFit(some, n) || !isPartOfFraction(part)) {
            return OUTSIDE;
        }
        fitStorms(some, n);
        return inLowestTerms(fit.lossAbove(), fit.below(), part);
    }

    public long press(int some, int n, int k, int part) {
        if (!canFit(some, n) || !isFitted(k, n) || !isPartOfFraction(part)) {
            return OUTSIDE;
        }
        fitStorms(some, n);
        return inLowestTerms(fit.pressAbove(k), fit.below(), part);
    }

    public int nothing(int some, int n) {
        if (!canFit(some, n)) {
            return OUTSIDE;
        }
        fitStorms(some, n);
        int bits = 0;
        for (int k = 0; k < n; k++) {
            if (fit.partAbove(k) == 0) {
                bits |= 1 << k;
            }
        }
        return bits;
    }

    public int keep(int some, int n, int length) {
        if (!canFit(some, n) || !isLength(length)) {
            return OUTSIDE;
        }
        fitStorms(some, n);
        if (!fit.isOfUnitNumbers()) {
            return STATE;
        }
        if (unitCount >= MOST_UNITS) {
            return FULL;
        }
        Unit comes = heldUnits[unitCount];
        comes.length = length;
        fit.writeInto(comes.parts);
        unitCount++;
        kept++;
        return unitCount - 1;
    }

    // ---- what is told of all

    public int count(int what) {
        switch (what) {
            case 0:
                return stormCount;
            case 1:
                return unitCount;
            case 2:
                return letterCount;
            case 3:
                return cameAsTexts;
            case 4:
                return went;
            case 5:
                return kept;
            default:
                return OUTSIDE;
        }
    }

    public long digest() {
        long h = DIGEST_START;
        for (int s = 0; s < stormCount; s++) {
            h = withStorm(h, s);
        }
        for (int u = 0; u < unitCount; u++) {
            h = withUnit(h, u);
        }
        for (int u = 0; u < unitCount; u++) {
            for (int s = 0; s < stormCount; s++) {
                h = with(h, missed(u, s));
            }
        }
        for (int n = 1; n <= MOST_FITTED && stormCount > 0; n++) {
            fitStorms((1 << stormCount) - 1, n);
            h = withFit(h, n);
        }
        for (int i = 0; i < letterCount; i++) {
            h = with(h, page[i]);
        }
        for (int what = 0; what < COUNTS; what++) {
            h = with(h, count(what));
        }
        return h;
    }

    // ---- the digest's pieces

    private static long with(long h, long number) {
        return 31 * h + number;
    }

    private long withStorm(long start, int s) {
        long h = start;
        for (int what = 0; what <= 3; what++) {
            h = with(h, storm(s, what));
        }
        for (int tick = 0; tick < MOST_RAINS; tick++) {
            h = with(h, storm(s, 10 + tick));
        }
        for (int tick = 0; tick < MOST_NUMBERS; tick++) {
            h = with(h, storm(s, 20 + tick));
        }
        h = with(h, divided(s, 0));
        for (int place = 0; place < MOST_NUMBERS; place++) {
            h = with(h, divided(s, 10 + place));
        }
        return h;
    }

    private long withUnit(long start, int u) {
        long h = start;
        for (int what = 0; what <= 2; what++) {
            h = with(h, unit(u, what));
        }
        for (int tick = 0; tick < MOST_NUMBERS; tick++) {
            h = with(h, unit(u, 10 + tick));
        }
        return h;
    }

    /** Tells the fit that stands, where best() and loss() would fit anew for each number. */
    private long withFit(long start, int n) {
        long h = start;
        for (int k = 0; k < n; k++) {
            h = withFraction(h, fit.partAbove(k), fit.below());
        }
        return withFraction(h, fit.lossAbove(), fit.below());
    }

    private static long withFraction(long h, long above, long below) {
        long first = with(h, inLowestTerms(above, below, 0));
        return with(first, inLowestTerms(above, below, 1));
    }

    // ---- what comes and goes

    private int takeStorm() {
        if (stormCount >= MOST_STORMS) {
            return FULL;
        }
        heldStorms[stormCount].become(reader.rain, reader.row);
        stormCount++;
        return stormCount - 1;
    }

    private int takeUnit() {
        if (unitCount >= MOST_UNITS) {
            return FULL;
        }
        Unit comes = heldUnits[unitCount];
        comes.length = reader.lengthOfUnit();
        comes.parts.become(reader.row);
        unitCount++;
        return unitCount - 1;
    }

    /** The storm that goes waits behind the others, to be written anew by the next that comes. */
    private int dropStorm(int k) {
        if (!hasStorm(k)) {
            return UNKNOWN;
        }
        Storm goes = heldStorms[k];
        for (int i = k; i < stormCount - 1; i++) {
            heldStorms[i] = heldStorms[i + 1];
        }
        stormCount--;
        heldStorms[stormCount] = goes;
        went++;
        return stormCount;
    }

    private int dropUnit(int k) {
        if (!hasUnit(k)) {
            return UNKNOWN;
        }
        Unit goes = heldUnits[k];
        for (int i = k; i < unitCount - 1; i++) {
            heldUnits[i] = heldUnits[i + 1];
        }
        unitCount--;
        heldUnits[unitCount] = goes;
        went++;
        return unitCount;
    }

    // ---- what arguments may be

    private boolean hasStorm(int k) {
        return k >= 0 && k < stormCount;
    }

    private boolean hasUnit(int k) {
        return k >= 0 && k < unitCount;
    }

    private static boolean isTick(int t) {
        return t >= 0 && t <= LAST_TICK;
    }

    private static boolean isLength(int m) {
        return m >= 1 && m <= MOST_LENGTH;
    }

    private static boolean isPartOfFraction(int part) {
        return part == 0 || part == 1;
    }

    private boolean canFit(int some, int n) {
        return some >= 1 && some < (1 << stormCount) && n >= 1 && n <= MOST_FITTED;
    }

    private static boolean isFitted(int k, int n) {
        return k >= 0 && k < n;
    }

    // ---- fractions

    private void fitStorms(int some, int n) {
        fit.begin(n);
        for (int s = 0; s < stormCount; s++) {
            if (((some >> s) & 1) == 1) {
                fit.add(heldStorms[s]);
            }
        }
        fit.settle();
    }

    /** The number above (part 0) or below (part 1), below being above 0 as it comes. */
    private static long inLowestTerms(long above, long below, int part) {
        long shared = sharedDivisor(above, below);
        if (shared == 0) {
            return part == 0 ? 0 : 1;
        }
        return part == 0 ? above / shared : below / shared;
    }

    private static long sharedDivisor(long a, long b) {
        long left = Math.abs(a);
        long right = Math.abs(b);
        for (int step = 0; step < MOST_STEPS && right != 0; step++) {
            long rest = left % right;
            left = right;
            right = rest;
        }
        return left;
    }

    /** Numbers at ticks from 0 on; 0 at all other ticks. */
    private static final class Row {
        private final int[] numbers = new int[MOST_NUMBERS];
        private int size;

        int size() {
            return size;
        }

        int at(int tick) {
            return tick >= 0 && tick < size && tick < MOST_NUMBERS ? numbers[tick] : 0;
        }

        int last() {
            return size > 0 && size <= MOST_NUMBERS ? numbers[size - 1] : 0;
        }

        int total() {
            int total = 0;
            for (int tick = 0; tick < MOST_NUMBERS; tick++) {
                total += at(tick);
            }
            return total;
        }

        void clear() {
            size = 0;
        }

        void add(int number) {
            if (size < MOST_NUMBERS) {
                numbers[size] = number;
                size++;
            }
        }

        void setLast(int number) {
            if (size > 0 && size <= MOST_NUMBERS) {
                numbers[size - 1] = number;
            }
        }

        void become(Row from) {
            size = from.size;
            for (int tick = 0; tick < MOST_NUMBERS; tick++) {
                numbers[tick] = from.at(tick);
            }
        }
    }

    private static final class Unit {
        final Row parts = new Row();
        int length = 1;

        /** Steps back by more lengths than there are ticks: those below 0 hold nothing. */
        int summedAt(int t) {
            int total = 0;
            for (int back = 0; back <= LAST_TICK; back++) {
                total += parts.at(t - back * length);
            }
            return total;
        }
    }

    private static final class Storm {
        final Row rain = new Row();
        final Row runoff = new Row();
        final Row quotient = new Row();
        private boolean evenly;

        boolean goesEvenly() {
            return evenly;
        }

        void become(Row newRain, Row newRunoff) {
            rain.become(newRain);
            runoff.become(newRunoff);
            divide();
        }

        int rainTimes(Row parts, int t) {
            int total = 0;
            for (int i = 0; i < MOST_RAINS; i++) {
                total += rain.at(i) * parts.at(t - i);
            }
            return total;
        }

        int squaresMissed(Row parts) {
            int total = 0;
            for (int t = 0; t <= LAST_TICK; t++) {
                int off = rainTimes(parts, t) - runoff.at(t);
                total += off * off;
            }
            return total;
        }

        /** The quotient grows tick by tick: at a tick it lacks, it counts as 0, so what is left is for its next number. */
        private void divide() {
            quotient.clear();
            int many = runoff.size() - rain.size() + 1;
            int first = rain.at(0);
            evenly = many > 0 && first > 0;
            for (int t = 0; t < MOST_NUMBERS && evenly; t++) {
                int left = runoff.at(t) - rainTimes(quotient, t);
                if (t >= many) {
                    evenly = left == 0;
                } else if (first > 0 && left % first == 0) {
                    quotient.add(left / first);
                } else {
                    evenly = false;
                }
            }
        }
    }

    /** Reads the page letter by letter, each letter as far as a storm or a unit may go on with it. */
    private static final class Reader {
        private static final int AT_START = 0;
        private static final int IN_RAIN = 1;
        private static final int AT_LENGTH = 2;
        private static final int AT_COLON = 3;
        private static final int IN_ROW = 4;

        final Row rain = new Row();
        final Row row = new Row();
        private int place;
        private int length;
        private boolean ofUnit;
        private boolean inNumber;

        /** How many letters, from the first on, a storm or a unit begins with. */
        int read(int[] codes, int size) {
            begin();
            for (int i = 0; i < size && i < codes.length; i++) {
                if (!goesOnWith(codes[i])) {
                    return i;
                }
            }
            return size;
        }

        boolean isWhole() {
            return place == IN_ROW && inNumber;
        }

        boolean isOfUnit() {
            return ofUnit;
        }

        int lengthOfUnit() {
            return length;
        }

        private void begin() {
            rain.clear();
            row.clear();
            place = AT_START;
            length = 1;
            ofUnit = false;
            inNumber = false;
        }

        private boolean goesOnWith(int code) {
            switch (place) {
                case AT_START:
                    return startsWith(code);
                case IN_RAIN:
                    return rainGoesOnWith(code);
                case AT_LENGTH:
                    return takesLength(code - '0');
                case AT_COLON:
                    return takesColon(code);
                default:
                    return numbersGoOnWith(row, code, MOST_NUMBERS, MOST_NUMBER);
            }
        }

        private boolean startsWith(int code) {
            ofUnit = code == 'u';
            place = ofUnit ? AT_LENGTH : IN_RAIN;
            return ofUnit || code == 'r';
        }

        private boolean rainGoesOnWith(int code) {
            if (code == ':') {
                return inNumber && takesColon(code);
            }
            if (code == '0' && rain.size() == 0) {
                return false;
            }
            return numbersGoOnWith(rain, code, MOST_RAINS, MOST_RAIN);
        }

        private boolean takesLength(int figure) {
            length = figure;
            place = AT_COLON;
            return isLength(figure);
        }

        private boolean takesColon(int code) {
            place = IN_ROW;
            inNumber = false;
            return code == ':';
        }

        private boolean numbersGoOnWith(Row numbers, int code, int mostNumbers, int mostNumber) {
            if (code == ',') {
                boolean another = inNumber && numbers.size() < mostNumbers;
                inNumber = false;
                return another;
            }
            if (code < '0' || code > '9') {
                return false;
            }
            return takesFigure(numbers, code - '0', mostNumber);
        }

        private boolean takesFigure(Row numbers, int figure, int mostNumber) {
            int ahead = inNumber ? numbers.last() : 0;
            int number = ahead * 10 + figure;
            boolean zeroAhead = inNumber && ahead == 0;
            if (zeroAhead || number > mostNumber) {
                return false;
            }
            if (inNumber) {
                numbers.setLast(number);
            } else {
                numbers.add(number);
            }
            inNumber = true;
            return true;
        }
    }

    /**
     * The parts that miss storms least, none below 0. Their equations have one matrix row a part, and the
     * number at row j and column k hangs on their distance alone: rain times rain that many ticks later.
     * All fractions stand over one number below. The longs hold: no determinant passes 10^13, no loss 10^18.
     */
    private static final class Fit {
        private final long[] rainByDistance = new long[MOST_FITTED];
        private final long[] rainByRunoff = new long[MOST_FITTED];
        private final long[] matrix = new long[MOST_FITTED * MOST_FITTED];
        private final long[] above = new long[MOST_FITTED];
        private final long[] pressing = new long[MOST_FITTED];
        private long below = 1;
        private long runoffSquares;
        private int size;

        void begin(int n) {
            size = Math.max(0, Math.min(n, MOST_FITTED));
            runoffSquares = 0;
            for (int k = 0; k < MOST_FITTED; k++) {
                rainByDistance[k] = 0;
                rainByRunoff[k] = 0;
            }
        }

        void add(Storm storm) {
            for (int t = 0; t < MOST_NUMBERS; t++) {
                runoffSquares += storm.runoff.at(t) * storm.runoff.at(t);
            }
            for (int k = 0; k < MOST_FITTED; k++) {
                for (int i = 0; i < MOST_RAINS; i++) {
                    rainByDistance[k] += storm.rain.at(i) * storm.rain.at(i + k);
                    rainByRunoff[k] += storm.rain.at(i) * storm.runoff.at(i + k);
                }
            }
        }

        /**
         * Tries which parts are free, the others held at 0. The loss is strictly convex, so the one row of
         * parts that neither goes below 0 nor is pressed below 0 is the best, whichever try finds it.
         */
        void settle() {
            boolean found = false;
            for (int free = (1 << size) - 1; free >= 0 && !found; free--) {
                found = fitsWith(free);
            }
        }

        long below() {
            return below;
        }

        long partAbove(int k) {
            return k >= 0 && k < MOST_FITTED ? above[k] : 0;
        }

        long pressAbove(int k) {
            return k >= 0 && k < MOST_FITTED ? pressing[k] : 0;
        }

        /** What is made times what is missed is 0 at the best: so of the squares only this much is left. */
        long lossAbove() {
            long left = runoffSquares * below;
            for (int k = 0; k < size; k++) {
                left -= rainByRunoff[k] * above[k];
            }
            return left;
        }

        boolean isOfUnitNumbers() {
            boolean fine = below > 0;
            for (int k = 0; k < size && fine; k++) {
                fine = below > 0 && above[k] % below == 0 && above[k] / below <= MOST_NUMBER;
            }
            return fine;
        }

        void writeInto(Row parts) {
            parts.clear();
            for (int k = 0; k < size && below > 0; k++) {
                parts.add((int) (above[k] / below));
            }
        }

        private boolean fitsWith(int free) {
            below = determinant(free, MOST_FITTED);
            boolean fits = below > 0;
            for (int k = 0; k < size && fits; k++) {
                above[k] = isFree(free, k) ? determinant(free, k) : 0;
                fits = above[k] >= 0;
            }
            for (int k = 0; k < size && fits; k++) {
                pressing[k] = pressOn(k);
                fits = pressing[k] >= 0;
            }
            return fits;
        }

        private static boolean isFree(int free, int k) {
            return ((free >> k) & 1) == 1;
        }

        private long pressOn(int k) {
            long total = -rainByRunoff[k] * below;
            for (int j = 0; j < size; j++) {
                total += rainByDistance[Math.abs(j - k)] * above[j];
            }
            return total;
        }

        /** By Cramer's rule: the equations of the free parts, the wanted numbers put in one column (or in none). */
        private long determinant(int free, int wantedColumn) {
            for (int row = 0; row < MOST_FITTED; row++) {
                for (int column = 0; column < MOST_FITTED; column++) {
                    matrix[row * MOST_FITTED + column] = entry(free, row, column, wantedColumn);
                }
            }
            long total = 0;
            total += minor(0, 0, 1) * minor(8, 2, 3);
            total -= minor(0, 0, 2) * minor(8, 1, 3);
            total += minor(0, 0, 3) * minor(8, 1, 2);
            total += minor(0, 1, 2) * minor(8, 0, 3);
            total -= minor(0, 1, 3) * minor(8, 0, 2);
            total += minor(0, 2, 3) * minor(8, 0, 1);
            return total;
        }

        /** A part that is not free has an equation of its own, which holds it at 0. */
        private long entry(int free, int row, int column, int wantedColumn) {
            boolean rowIsFree = isFree(free, row);
            if (column == wantedColumn) {
                return rowIsFree ? rainByRunoff[row] : 0;
            }
            if (rowIsFree && isFree(free, column)) {
                return rainByDistance[Math.abs(row - column)];
            }
            return row == column ? 1 : 0;
        }

        /** Of the row that begins at a place of the matrix, and of the next: two columns, crosswise. */
        private long minor(int start, int left, int right) {
            return matrix[start + left] * matrix[start + MOST_FITTED + right]
                - matrix[start + right] * matrix[start + MOST_FITTED + left];
        }
    }
}
