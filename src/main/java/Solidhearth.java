import java.util.NoSuchElementException;

/** A modeller of bodies by their history, as ../shared/DOC.md promises it. */
public final class Solidhearth {
    private static final int EDGE = 8;
    private static final int SIDES = 6;
    private static final int AXES = 3;
    private static final int NAMES = 8;
    private static final int NAMED = 100;
    private static final int LARGEST_GIVEN = 20;
    private static final int LARGEST_NUMBER = 99;
    private static final int SIZES = 6;
    private static final int MOST_FEATURES = 12;
    private static final int MOST_GIVEN = 40;
    private static final int MOST_PARTS = 6;
    private static final int MOST_MATES = 12;
    private static final int GROUND = -1;
    private static final int NOWHERE = -1;
    private static final char NO_FAULT = '-';
    private static final String KINDS = "bcimphe";

    private final History history;
    private final Parts parts;

    public Solidhearth() {
        history = new History();
        parts = new Parts();
    }

    public int setNumber(int name, int first, char operation, int second)
            throws IllegalArgumentException, UnsupportedOperationException {
        if (!Numbers.isName(name) || !Numbers.isOperation(operation)
                || !Numbers.isTerm(first) || !Numbers.isTerm(second)) {
            throw new IllegalArgumentException("no such name, term or operation");
        }
        Numbers numbers = history.features.numbers;
        if (numbers.wouldNeedItself(name, first, second)) {
            throw new UnsupportedOperationException("a named number would need itself");
        }
        int firstBefore = numbers.firsts[name];
        char operationBefore = numbers.operations[name];
        int secondBefore = numbers.seconds[name];
        numbers.putFormula(name, first, operation, second);
        if (!history.features.standBehindNeeded()) {
            numbers.putFormula(name, firstBefore, operationBefore, secondBefore);
            throw new UnsupportedOperationException("a feature would stand ahead of one that it needs");
        }
        history.carryOutChanged();
        return numbers.values[name];
    }

    public int number(int name) throws IllegalArgumentException {
        if (!Numbers.isName(name)) {
            throw new IllegalArgumentException("no such name");
        }
        return history.features.numbers.values[name];
    }

    public int addFeature(char kind, int first, int second, int third)
            throws IllegalArgumentException, IllegalStateException, UnsupportedOperationException {
        if (KINDS.indexOf(kind) < 0 || !areTerms(first, second, third)) {
            throw new IllegalArgumentException("no such kind or dimension");
        }
        Features features = history.features;
        if (features.count >= MOST_FEATURES || features.given >= MOST_GIVEN) {
            throw new IllegalStateException("no more features or numbers");
        }
        if (features.isNeededByOther(features.given)) {
            throw new UnsupportedOperationException("a feature would stand ahead of one that it needs");
        }
        int feature = features.append(kind, first, second, third);
        history.carryOutChanged();
        return feature;
    }

    public int setSize(int feature, int first, int second, int third)
            throws NoSuchElementException, IllegalArgumentException {
        Features features = history.features;
        if (features.findPlace(feature) < 0) {
            throw new NoSuchElementException("no such feature");
        }
        if (!areTerms(first, second, third)) {
            throw new IllegalArgumentException("no such dimension");
        }
        int others = features.putFurther(feature, 0, first);
        others += features.putFurther(feature, 1, second);
        others += features.putFurther(feature, 2, third);
        history.carryOutChanged();
        return others;
    }

    public int remove(int feature) throws NoSuchElementException, UnsupportedOperationException {
        Features features = history.features;
        int from = features.findPlace(feature);
        if (from < 0) {
            throw new NoSuchElementException("no such feature");
        }
        if (features.isNeededByOther(feature)) {
            throw new UnsupportedOperationException("another feature needs it");
        }
        features.takeOutAt(from);
        history.carryOutChanged();
        return features.count;
    }

    public int move(int feature, int place)
            throws NoSuchElementException, IndexOutOfBoundsException, UnsupportedOperationException {
        Features features = history.features;
        int from = features.findPlace(feature);
        if (from < 0) {
            throw new NoSuchElementException("no such feature");
        }
        if (place < 0 || place >= features.count) {
            throw new IndexOutOfBoundsException("no such place");
        }
        features.shift(from, place);
        if (!features.standBehindNeeded()) {
            features.shift(place, from);
            throw new UnsupportedOperationException("a feature would stand ahead of one that it needs");
        }
        history.carryOutChanged();
        return from;
    }

    public boolean putOff(int feature, boolean isOff) throws NoSuchElementException {
        Features features = history.features;
        if (features.findPlace(feature) < 0) {
            throw new NoSuchElementException("no such feature");
        }
        boolean isOther = features.areOff[feature] != isOff;
        features.areOff[feature] = isOff;
        history.carryOutChanged();
        return isOther;
    }

    public int setBar(int place) throws IndexOutOfBoundsException {
        Features features = history.features;
        if (place < 0 || place > features.count) {
            throw new IndexOutOfBoundsException("no such place");
        }
        int before = features.bar;
        features.bar = place;
        history.carryOutChanged();
        return before;
    }

    public int place(int feature) throws NoSuchElementException {
        int found = history.features.findPlace(feature);
        if (found < 0) {
            throw new NoSuchElementException("no such feature");
        }
        return found;
    }

    public char state(int feature) throws NoSuchElementException {
        Features features = history.features;
        int found = features.findPlace(feature);
        if (found < 0) {
            throw new NoSuchElementException("no such feature");
        }
        if (features.areOff[feature]) {
            return 'o';
        }
        return found >= features.bar ? 'b' : history.faults[feature];
    }

    public long worked() {
        return history.work;
    }

    public boolean has(int x, int y, int z) throws IndexOutOfBoundsException {
        if (!Cells.isInside(x, y, z)) {
            throw new IndexOutOfBoundsException("no such cell");
        }
        return history.body().cells.contains(x, y, z);
    }

    public boolean hasAnew(int x, int y, int z) throws IndexOutOfBoundsException {
        if (!Cells.isInside(x, y, z)) {
            throw new IndexOutOfBoundsException("no such cell");
        }
        return history.bodyFromNothing().cells.contains(x, y, z);
    }

    public int nameOf(int x, int y, int z, int side)
            throws IndexOutOfBoundsException, IllegalArgumentException, NoSuchElementException {
        if (!Cells.isInside(x, y, z)) {
            throw new IndexOutOfBoundsException("no such cell");
        }
        if (!isSide(side)) {
            throw new IllegalArgumentException("no such side");
        }
        int feature = history.body().makerOf(x, y, z, side);
        if (feature < 0) {
            throw new NoSuchElementException("no square of the body");
        }
        return feature;
    }

    public int squares(int feature, int side) throws IllegalArgumentException {
        if (feature < 0 || feature >= MOST_GIVEN || !isSide(side)) {
            throw new IllegalArgumentException("no such number or side");
        }
        return history.countNamed(feature, side);
    }

    public int volume() {
        return history.body().cells.count();
    }

    public int area() {
        int sum = 0;
        for (int side = 0; side < SIDES; side++) {
            sum += history.body().cells.countSquares(side);
        }
        return sum;
    }

    public int bodies() {
        return history.countPieces();
    }

    public int euler() {
        return Measures.eulerCount(history.body().cells);
    }

    public double centre(int axis) throws IllegalArgumentException, ArithmeticException {
        if (!isAxis(axis)) {
            throw new IllegalArgumentException("no such axis");
        }
        Cells cells = history.body().cells;
        int count = cells.count();
        if (count == 0) {
            throw new ArithmeticException("no cells");
        }
        return (double) Measures.sumAlong(cells, axis) / (double) count;
    }

    public float filled() {
        return (float) history.body().cells.count() / (float) (EDGE * EDGE * EDGE);
    }

    public int addPart(int x, int y, int z) throws IllegalArgumentException, IllegalStateException {
        if (!isGiven(x) || !isGiven(y) || !isGiven(z)) {
            throw new IllegalArgumentException("a move is out of range");
        }
        if (parts.count >= MOST_PARTS) {
            throw new IllegalStateException("no more parts");
        }
        return parts.append(x, y, z);
    }

    public boolean freeze(int part, boolean isFrozen) throws IndexOutOfBoundsException {
        if (!parts.isPart(part)) {
            throw new IndexOutOfBoundsException("no such part");
        }
        boolean before = parts.areFrozen[part];
        parts.areFrozen[part] = isFrozen;
        if (isFrozen) {
            parts.shapes[part].copyFrom(history.body().cells);
        }
        return before;
    }

    public int mate(int axis, int part, int other, int distance) throws IndexOutOfBoundsException,
            IllegalArgumentException, UnsupportedOperationException, IllegalStateException {
        if (!parts.isPart(part) || (!parts.isPart(other) && other != GROUND)) {
            throw new IndexOutOfBoundsException("no such part");
        }
        if (!isAxis(axis) || part == other || !isGiven(distance)) {
            throw new IllegalArgumentException("no such axis, the same part or no such distance");
        }
        if (parts.areTied(axis, part, other)) {
            throw new UnsupportedOperationException("tied along the axis already");
        }
        if (parts.mateCount >= MOST_MATES) {
            throw new IllegalStateException("no more mates");
        }
        return parts.tie(axis, part, other, distance);
    }

    public int drag(int part, int axis, int by)
            throws IndexOutOfBoundsException, IllegalArgumentException, UnsupportedOperationException {
        if (!parts.isPart(part)) {
            throw new IndexOutOfBoundsException("no such part");
        }
        if (!isAxis(axis) || !isGiven(by)) {
            throw new IllegalArgumentException("no such axis or number");
        }
        if (parts.areTied(axis, part, GROUND)) {
            throw new UnsupportedOperationException("tied to the ground along the axis");
        }
        return parts.slideGroup(axis, parts.groupOf(axis, part), by);
    }

    public int moved(int part, int axis) throws IndexOutOfBoundsException, IllegalArgumentException {
        if (!parts.isPart(part)) {
            throw new IndexOutOfBoundsException("no such part");
        }
        if (!isAxis(axis)) {
            throw new IllegalArgumentException("no such axis");
        }
        return parts.moveAlong(part, axis);
    }

    public int freedoms() {
        return AXES * parts.count - parts.mateCount;
    }

    public int clashes(int part, int other) throws IndexOutOfBoundsException, IllegalArgumentException {
        if (!parts.isPart(part) || !parts.isPart(other)) {
            throw new IndexOutOfBoundsException("no such part");
        }
        if (part == other) {
            throw new IllegalArgumentException("the same part");
        }
        return parts.countShared(part, other, history.body().cells);
    }

    public int depth(int axis, boolean isUp, int u, int v)
            throws IllegalArgumentException, IndexOutOfBoundsException {
        if (!isAxis(axis)) {
            throw new IllegalArgumentException("no such axis");
        }
        if (!Cells.isInside(u, v, 0)) {
            throw new IndexOutOfBoundsException("no such column");
        }
        return Views.depthOf(history.body().cells, axis, isUp, u, v);
    }

    public int lines(int axis, boolean isUp) throws IllegalArgumentException {
        if (!isAxis(axis)) {
            throw new IllegalArgumentException("no such axis");
        }
        return Views.countLines(history.body().cells, axis, isUp);
    }

    public boolean isSound() {
        Cells cells = history.body().cells;
        return cells.isSameAs(history.bodyFromNothing().cells) && Measures.isBalanced(cells)
                && history.features.standBehindNeeded() && parts.doMatesFit();
    }

    private static boolean isAxis(int axis) {
        return axis >= 0 && axis < AXES;
    }

    private static boolean isSide(int side) {
        return side >= 0 && side < SIDES;
    }

    private static boolean isGiven(int value) {
        return value >= -LARGEST_GIVEN && value <= LARGEST_GIVEN;
    }

    private static boolean areTerms(int first, int second, int third) {
        return Numbers.isTerm(first) && Numbers.isTerm(second) && Numbers.isTerm(third);
    }

    /** The named numbers and their formulas. */
    private static final class Numbers {
        final int[] firsts = new int[NAMES];
        final char[] operations = new char[NAMES];
        final int[] seconds = new int[NAMES];
        final int[] values = new int[NAMES];

        static boolean isName(int name) {
            return name >= 0 && name < NAMES;
        }

        static boolean isNamed(int term) {
            return term >= NAMED && term < NAMED + NAMES;
        }

        static boolean isTerm(int term) {
            return isGiven(term) || isNamed(term);
        }

        static boolean isOperation(char operation) {
            return operation == '+' || operation == '-' || operation == '*';
        }

        int valueOf(int term) {
            return isNamed(term) ? values[term - NAMED] : term;
        }

        boolean wouldNeedItself(int name, int first, int second) {
            int needed = needOf(first) | needOf(second);
            for (int round = 0; round < NAMES; round++) {
                for (int other = 0; other < NAMES; other++) {
                    if (((needed >> other) & 1) == 1) {
                        needed |= needOf(firsts[other]) | needOf(seconds[other]);
                    }
                }
            }
            return ((needed >> name) & 1) == 1;
        }

        private static int needOf(int term) {
            return isNamed(term) ? 1 << (term - NAMED) : 0;
        }

        /** No chain of needs is longer than there are names, so that as many rounds settle all values. */
        void putFormula(int name, int first, char operation, int second) {
            firsts[name] = first;
            operations[name] = operation;
            seconds[name] = second;
            for (int round = 0; round < NAMES; round++) {
                for (int other = 0; other < NAMES; other++) {
                    values[other] = cut(outcome(other));
                }
            }
        }

        private int outcome(int name) {
            int first = valueOf(firsts[name]);
            int second = valueOf(seconds[name]);
            if (operations[name] == '*') {
                return first * second;
            }
            return operations[name] == '-' ? first - second : first + second;
        }

        private static int cut(int value) {
            return Math.max(-LARGEST_NUMBER, Math.min(LARGEST_NUMBER, value));
        }
    }

    /** The features in their row, and the bar. What stands by feature has its number as the index. */
    private static final class Features {
        final Numbers numbers = new Numbers();
        final int[] row = new int[MOST_FEATURES];
        final char[] kinds = new char[MOST_GIVEN];
        final int[] terms = new int[MOST_GIVEN * SIZES];
        final boolean[] areOff = new boolean[MOST_GIVEN];
        int count;
        int given;
        int bar;

        int findPlace(int feature) {
            for (int place = 0; place < count; place++) {
                if (row[place] == feature) {
                    return place;
                }
            }
            return NOWHERE;
        }

        int sizeOf(int feature, int which) {
            return numbers.valueOf(terms[feature * SIZES + which]);
        }

        int append(char kind, int first, int second, int third) {
            int feature = given;
            int from = feature * SIZES;
            kinds[feature] = kind;
            terms[from] = first;
            terms[from + 1] = second;
            terms[from + 2] = third;
            for (int which = AXES; which < SIZES; which++) {
                terms[from + which] = 1;
            }
            row[count] = feature;
            given++;
            bar = bar == count ? count + 1 : bar;
            count++;
            return feature;
        }

        /** Returns 1 if this is another number than before, otherwise 0. */
        int putFurther(int feature, int which, int term) {
            int before = sizeOf(feature, AXES + which);
            terms[feature * SIZES + AXES + which] = term;
            return sizeOf(feature, AXES + which) == before ? 0 : 1;
        }

        void takeOutAt(int place) {
            shift(place, count - 1);
            count--;
            bar = Math.min(bar, count);
        }

        void shift(int from, int to) {
            int feature = row[from];
            for (int place = from; place < to; place++) {
                row[place] = row[place + 1];
            }
            for (int place = from; place > to; place--) {
                row[place] = row[place - 1];
            }
            row[to] = feature;
        }

        boolean isNeededByOther(int feature) {
            for (int place = 0; place < count; place++) {
                int other = row[place];
                if (other != feature && kinds[other] == 'e' && sizeOf(other, 0) == feature) {
                    return true;
                }
            }
            return false;
        }

        boolean standBehindNeeded() {
            for (int place = 0; place < count; place++) {
                int feature = row[place];
                if (kinds[feature] == 'e' && findPlace(sizeOf(feature, 0)) > place) {
                    return false;
                }
            }
            return true;
        }
    }

    /** The bodies behind each place, as they were carried out, and what they were carried out with. */
    private static final class History {
        final Features features = new Features();
        final char[] faults = new char[MOST_GIVEN];
        long work;
        private final Body[] stages = new Body[MOST_FEATURES + 1];
        private final Body fresh = new Body();
        private final Body behindFresh = new Body();
        private final Workshop workshop = new Workshop();
        private final int[] sizes = new int[SIZES];
        private final int[] rowCarried = new int[MOST_FEATURES];
        private final boolean[] offCarried = new boolean[MOST_FEATURES];
        private final int[] sizesCarried = new int[MOST_FEATURES * SIZES];
        private int barCarried;

        History() {
            for (int place = 0; place <= MOST_FEATURES; place++) {
                stages[place] = new Body();
            }
        }

        Body body() {
            return stages[features.bar];
        }

        void carryOutChanged() {
            for (int place = lowestChanged(); place < features.bar; place++) {
                int feature = features.row[place];
                readSizes(feature);
                remember(place, feature);
                if (features.areOff[feature]) {
                    stages[place + 1].copyFrom(stages[place]);
                } else {
                    faults[feature] = workshop.carryOut(features.kinds[feature], feature, sizes,
                            stages[place], stages[place + 1]);
                    work++;
                }
            }
            barCarried = features.bar;
        }

        private int lowestChanged() {
            int place = 0;
            while (place < features.bar && place < barCarried && isAsCarried(place, features.row[place])) {
                place++;
            }
            return place;
        }

        private boolean isAsCarried(int place, int feature) {
            for (int which = 0; which < SIZES; which++) {
                if (sizesCarried[place * SIZES + which] != features.sizeOf(feature, which)) {
                    return false;
                }
            }
            return rowCarried[place] == feature && offCarried[place] == features.areOff[feature];
        }

        private void remember(int place, int feature) {
            rowCarried[place] = feature;
            offCarried[place] = features.areOff[feature];
            System.arraycopy(sizes, 0, sizesCarried, place * SIZES, SIZES);
        }

        private void readSizes(int feature) {
            for (int which = 0; which < SIZES; which++) {
                sizes[which] = features.sizeOf(feature, which);
            }
        }

        Body bodyFromNothing() {
            fresh.clear();
            for (int place = 0; place < features.bar; place++) {
                int feature = features.row[place];
                if (!features.areOff[feature]) {
                    readSizes(feature);
                    workshop.carryOut(features.kinds[feature], feature, sizes, fresh, behindFresh);
                    fresh.copyFrom(behindFresh);
                }
            }
            return fresh;
        }

        int countNamed(int feature, int side) {
            return workshop.countNamed(body(), feature, side);
        }

        int countPieces() {
            return workshop.countPieces(body().cells);
        }
    }

    /** Carries a feature out on the body ahead of it. */
    private static final class Workshop {
        private final Cells box = new Cells();
        private final Cells chosen = new Cells();
        private final Cells rest = new Cells();
        private final Cells piece = new Cells();

        char carryOut(char kind, int feature, int[] sizes, Body ahead, Body behind) {
            behind.copyFrom(ahead);
            char fault = faultOf(kind, sizes, ahead);
            if (fault == NO_FAULT) {
                reshape(kind, sizes, ahead.cells, behind.cells);
                behind.nameSquares(ahead, feature);
            }
            return fault;
        }

        private char faultOf(char kind, int[] sizes, Body ahead) {
            if (isUnfit(kind, sizes)) {
                return 'x';
            }
            if (kind != 'e') {
                return NO_FAULT;
            }
            ahead.choose(sizes[0], sizes[1], chosen);
            int pieces = countPieces(chosen);
            if (pieces == 0) {
                return 'l';
            }
            return pieces == 1 ? NO_FAULT : 'd';
        }

        private static boolean isUnfit(char kind, int[] sizes) {
            if (kind == 'b' || kind == 'c' || kind == 'i') {
                return sizes[3] < 1 || sizes[4] < 1 || sizes[5] < 1;
            }
            if (kind == 'm') {
                return !isAxis(sizes[0]);
            }
            if (kind == 'p') {
                return sizes[3] < 0;
            }
            return kind == 'e' && (!isSide(sizes[1]) || sizes[2] < 0);
        }

        private void reshape(char kind, int[] sizes, Cells from, Cells to) {
            if (kind == 'b') {
                box.fillBox(sizes);
                to.addAll(box);
            } else if (kind == 'c') {
                box.fillBox(sizes);
                to.takeOutAll(box);
            } else if (kind == 'i') {
                box.fillBox(sizes);
                to.keepOnly(box);
            } else if (kind == 'm') {
                mirror(sizes[0], 2 * sizes[1] - 1, from, to);
            } else if (kind == 'p') {
                repeat(sizes, from, to);
            } else if (kind == 'h') {
                to.takeOutInner(from);
            } else {
                push(sizes[1], sizes[2], to);
            }
        }

        private static void mirror(int axis, int sum, Cells from, Cells to) {
            for (int z = 0; z < EDGE; z++) {
                for (int y = 0; y < EDGE; y++) {
                    for (int x = 0; x < EDGE; x++) {
                        if (from.contains(x, y, z)) {
                            to.put(axis == 0 ? sum - x : x, axis == 1 ? sum - y : y, axis == 2 ? sum - z : z);
                        }
                    }
                }
            }
        }

        /** A step of eight or more leads out of the space whatever the way, and no way at all adds nothing. */
        private static void repeat(int[] sizes, Cells from, Cells to) {
            for (int step = 1; step < EDGE && step <= sizes[3]; step++) {
                to.addSlid(from, sizes[0] * step, sizes[1] * step, sizes[2] * step);
            }
        }

        /** The squares in front of which cells come were chosen when the fault was looked for. */
        private void push(int side, int height, Cells to) {
            int axis = side / 2;
            int way = side % 2 == 0 ? -1 : 1;
            for (int step = 1; step < EDGE && step <= height; step++) {
                int by = way * step;
                to.addSlid(chosen, axis == 0 ? by : 0, axis == 1 ? by : 0, axis == 2 ? by : 0);
            }
        }

        int countNamed(Body body, int feature, int side) {
            body.choose(feature, side, chosen);
            return chosen.count();
        }

        int countPieces(Cells cells) {
            int pieces = 0;
            rest.copyFrom(cells);
            while (pieces < EDGE * EDGE * EDGE && piece.takeSeedOf(rest)) {
                boolean isGrowing = true;
                for (int round = 0; isGrowing && round < EDGE * EDGE * EDGE; round++) {
                    isGrowing = piece.growWithin(rest);
                }
                rest.takeOutAll(piece);
                pieces++;
            }
            return pieces;
        }
    }

    /** A body with the names of its squares. */
    private static final class Body {
        // The number of a feature, 0 to 39, takes so many bits; each bit of the makers of all squares of
        // a side is a set of cells, so that a whole layer is named or chosen at once.
        private static final int NAME_BITS = 6;

        final Cells cells = new Cells();
        private final long[] makers = new long[SIDES * NAME_BITS * EDGE];

        void clear() {
            cells.clear();
            for (int index = 0; index < SIDES * NAME_BITS * EDGE; index++) {
                makers[index] = 0L;
            }
        }

        void copyFrom(Body other) {
            cells.copyFrom(other.cells);
            System.arraycopy(other.makers, 0, makers, 0, SIDES * NAME_BITS * EDGE);
        }

        private static int indexOf(int side, int bit, int z) {
            return (side * NAME_BITS + bit) * EDGE + z;
        }

        void nameSquares(Body ahead, int feature) {
            for (int side = 0; side < SIDES; side++) {
                for (int z = 0; z < EDGE; z++) {
                    long before = ahead.cells.squaresAt(side, z);
                    long now = cells.squaresAt(side, z);
                    for (int bit = 0; bit < NAME_BITS; bit++) {
                        long made = ((feature >> bit) & 1) == 1 ? now & ~before : 0L;
                        int index = indexOf(side, bit, z);
                        makers[index] = (ahead.makers[index] & before & now) | made;
                    }
                }
            }
        }

        /** The cells at whose side a square has the name; a number that is never given is in none. */
        void choose(int feature, int side, Cells into) {
            into.clear();
            if (feature < 0 || feature >= MOST_GIVEN) {
                return;
            }
            for (int z = 0; z < EDGE; z++) {
                long named = cells.squaresAt(side, z);
                for (int bit = 0; bit < NAME_BITS; bit++) {
                    long maker = makers[indexOf(side, bit, z)];
                    named &= ((feature >> bit) & 1) == 1 ? maker : ~maker;
                }
                into.layers[z] = named;
            }
        }

        int makerOf(int x, int y, int z, int side) {
            int at = Cells.bitOf(x, y);
            if (((cells.squaresAt(side, z) >>> at) & 1L) == 0L) {
                return NOWHERE;
            }
            int feature = 0;
            for (int bit = 0; bit < NAME_BITS; bit++) {
                feature |= (int) ((makers[indexOf(side, bit, z)] >>> at) & 1L) << bit;
            }
            return feature;
        }
    }

    /** A set of cells: a layer for each z, with a bit for each x and y. */
    private static final class Cells {
        private static final long COLUMN = 0x0101010101010101L;
        private static final long ROW = 0xFFL;

        final long[] layers = new long[EDGE];

        static boolean isInside(int x, int y, int z) {
            return x >= 0 && x < EDGE && y >= 0 && y < EDGE && z >= 0 && z < EDGE;
        }

        static int bitOf(int x, int y) {
            return y * EDGE + x;
        }

        boolean contains(int x, int y, int z) {
            return isInside(x, y, z) && ((layers[z] >>> bitOf(x, y)) & 1L) == 1L;
        }

        void put(int x, int y, int z) {
            if (isInside(x, y, z)) {
                layers[z] |= 1L << bitOf(x, y);
            }
        }

        /** The cells along x at a y and a z, a bit for each; none outside of the space. */
        int rowAt(int y, int z) {
            return isInside(0, y, z) ? (int) ((layers[z] >>> bitOf(0, y)) & ROW) : 0;
        }

        void clear() {
            for (int z = 0; z < EDGE; z++) {
                layers[z] = 0L;
            }
        }

        void copyFrom(Cells other) {
            System.arraycopy(other.layers, 0, layers, 0, EDGE);
        }

        void addAll(Cells other) {
            for (int z = 0; z < EDGE; z++) {
                layers[z] |= other.layers[z];
            }
        }

        void takeOutAll(Cells other) {
            for (int z = 0; z < EDGE; z++) {
                layers[z] &= ~other.layers[z];
            }
        }

        void keepOnly(Cells other) {
            for (int z = 0; z < EDGE; z++) {
                layers[z] &= other.layers[z];
            }
        }

        void takeOutInner(Cells other) {
            for (int z = 0; z < EDGE; z++) {
                long inner = other.layers[z];
                for (int side = 0; side < SIDES; side++) {
                    inner &= other.besideAt(side, z);
                }
                layers[z] &= ~inner;
            }
        }

        boolean isSameAs(Cells other) {
            for (int z = 0; z < EDGE; z++) {
                if (layers[z] != other.layers[z]) {
                    return false;
                }
            }
            return true;
        }

        int count() {
            int sum = 0;
            for (int z = 0; z < EDGE; z++) {
                sum += Long.bitCount(layers[z]);
            }
            return sum;
        }

        void fillBox(int[] sizes) {
            clear();
            for (int z = Math.max(0, sizes[2]); z < EDGE && z < sizes[2] + sizes[5]; z++) {
                for (int y = Math.max(0, sizes[1]); y < EDGE && y < sizes[1] + sizes[4]; y++) {
                    for (int x = Math.max(0, sizes[0]); x < EDGE && x < sizes[0] + sizes[3]; x++) {
                        put(x, y, z);
                    }
                }
            }
        }

        void addSlid(Cells other, int byX, int byY, int byZ) {
            for (int z = 0; z < EDGE; z++) {
                int from = z - byZ;
                if (from >= 0 && from < EDGE) {
                    layers[z] |= slide(other.layers[from], byX, byY);
                }
            }
        }

        static long slide(long layer, int byX, int byY) {
            if (byX <= -EDGE || byX >= EDGE || byY <= -EDGE || byY >= EDGE) {
                return 0L;
            }
            long slid = byY < 0 ? layer >>> (-byY * EDGE) : layer << (byY * EDGE);
            if (byX < 0) {
                return (slid >>> -byX) & (COLUMN * (ROW >>> -byX));
            }
            return (slid << byX) & (COLUMN * ((ROW << byX) & ROW));
        }

        /** The cells of a layer whose neighbour at the side is in the set. */
        long besideAt(int side, int z) {
            if (side == 0) {
                return (layers[z] << 1) & ~COLUMN;
            }
            if (side == 1) {
                return (layers[z] >>> 1) & ~(COLUMN << (EDGE - 1));
            }
            if (side == 2) {
                return layers[z] << EDGE;
            }
            if (side == 3) {
                return layers[z] >>> EDGE;
            }
            int next = side == 4 ? z - 1 : z + 1;
            return next >= 0 && next < EDGE ? layers[next] : 0L;
        }

        long squaresAt(int side, int z) {
            return layers[z] & ~besideAt(side, z);
        }

        int countSquares(int side) {
            int sum = 0;
            for (int z = 0; z < EDGE; z++) {
                sum += Long.bitCount(squaresAt(side, z));
            }
            return sum;
        }

        /** Becomes one cell of the other set; returns whether it has any. */
        boolean takeSeedOf(Cells other) {
            clear();
            for (int z = 0; z < EDGE; z++) {
                if (other.layers[z] != 0L) {
                    layers[z] = Long.lowestOneBit(other.layers[z]);
                    return true;
                }
            }
            return false;
        }

        boolean growWithin(Cells bound) {
            boolean isOther = false;
            for (int z = 0; z < EDGE; z++) {
                long grown = layers[z];
                for (int side = 0; side < SIDES; side++) {
                    grown |= besideAt(side, z);
                }
                grown &= bound.layers[z];
                isOther = isOther || grown != layers[z];
                layers[z] = grown;
            }
            return isOther;
        }
    }

    /** What is counted on cells. */
    private static final class Measures {

        /**
         * A corner or an edge belongs to a square just if some, but not all of the cells round it are in
         * the body, since the cells round it hang together by their sides.
         */
        static int eulerCount(Cells cells) {
            int count = 0;
            for (int side = 0; side < SIDES; side++) {
                count += cells.countSquares(side);
            }
            for (int z = 0; z <= EDGE; z++) {
                for (int y = 0; y <= EDGE; y++) {
                    int here = cells.rowAt(y, z);
                    int behind = cells.rowAt(y - 1, z);
                    int below = cells.rowAt(y, z - 1);
                    int any = here | behind | below | cells.rowAt(y - 1, z - 1);
                    int all = here & behind & below & cells.rowAt(y - 1, z - 1);
                    count += mixedEnds(any, all);
                    count -= Integer.bitCount(any & ~all);
                    count -= mixedEnds(here | behind, here & behind);
                    count -= mixedEnds(here | below, here & below);
                }
            }
            return count;
        }

        /** The nine ends of the cells of a row round which not all cells are in the same state. */
        private static int mixedEnds(int any, int all) {
            return Integer.bitCount(any | (any << 1)) - Integer.bitCount(all & (all << 1));
        }

        static boolean isBalanced(Cells cells) {
            for (int axis = 0; axis < AXES; axis++) {
                if (cells.countSquares(2 * axis) != cells.countSquares(2 * axis + 1)) {
                    return false;
                }
            }
            return true;
        }

        static int sumAlong(Cells cells, int axis) {
            int sum = 0;
            for (int z = 0; z < EDGE; z++) {
                for (int y = 0; y < EDGE; y++) {
                    for (int x = 0; x < EDGE; x++) {
                        if (cells.contains(x, y, z)) {
                            sum += axis == 0 ? x : axis == 1 ? y : z;
                        }
                    }
                }
            }
            return sum;
        }
    }

    /** The parts, their moves and their mates. */
    private static final class Parts {
        final boolean[] areFrozen = new boolean[MOST_PARTS];
        final Cells[] shapes = new Cells[MOST_PARTS];
        int count;
        int mateCount;
        private final int[] moves = new int[MOST_PARTS * AXES];
        private final int[] mateAxes = new int[MOST_MATES];
        private final int[] mateParts = new int[MOST_MATES];
        private final int[] mateOthers = new int[MOST_MATES];
        private final int[] mateDistances = new int[MOST_MATES];

        Parts() {
            for (int part = 0; part < MOST_PARTS; part++) {
                shapes[part] = new Cells();
            }
        }

        boolean isPart(int part) {
            return part >= 0 && part < count;
        }

        int append(int x, int y, int z) {
            int part = count;
            moves[part * AXES] = x;
            moves[part * AXES + 1] = y;
            moves[part * AXES + 2] = z;
            count++;
            return part;
        }

        /** The ground does not move. */
        int moveAlong(int part, int axis) {
            return part == GROUND ? 0 : moves[part * AXES + axis];
        }

        private int apart(int axis, int part, int other) {
            return moveAlong(part, axis) - moveAlong(other, axis);
        }

        private static int bitOf(int part) {
            return 1 << (part - GROUND);
        }

        /** The bits of the part and of all that are tied to it, the ground too. */
        int groupOf(int axis, int part) {
            int group = bitOf(part);
            for (int round = 0; round < mateCount; round++) {
                for (int mate = 0; mate < mateCount; mate++) {
                    int both = bitOf(mateParts[mate]) | bitOf(mateOthers[mate]);
                    if (mateAxes[mate] == axis && (group & both) != 0) {
                        group |= both;
                    }
                }
            }
            return group;
        }

        boolean areTied(int axis, int part, int other) {
            return (groupOf(axis, part) & bitOf(other)) != 0;
        }

        /** Returns how many parts of the group move. */
        int slideGroup(int axis, int group, int by) {
            int sliding = 0;
            for (int part = 0; part < count && by != 0; part++) {
                if ((group & bitOf(part)) != 0) {
                    moves[part * AXES + axis] += by;
                    sliding++;
                }
            }
            return sliding;
        }

        int tie(int axis, int part, int other, int distance) {
            int missing = distance - apart(axis, part, other);
            boolean isHeld = areTied(axis, part, GROUND);
            int group = groupOf(axis, isHeld ? other : part);
            int sliding = slideGroup(axis, group, isHeld ? -missing : missing);
            mateAxes[mateCount] = axis;
            mateParts[mateCount] = part;
            mateOthers[mateCount] = other;
            mateDistances[mateCount] = distance;
            mateCount++;
            return sliding;
        }

        boolean doMatesFit() {
            for (int mate = 0; mate < mateCount; mate++) {
                int axis = mateAxes[mate];
                if (apart(axis, mateParts[mate], mateOthers[mate]) != mateDistances[mate]) {
                    return false;
                }
            }
            return true;
        }

        int countShared(int part, int other, Cells body) {
            Cells shape = areFrozen[part] ? shapes[part] : body;
            Cells otherShape = areFrozen[other] ? shapes[other] : body;
            int byX = apart(0, part, other);
            int byY = apart(1, part, other);
            int byZ = apart(2, part, other);
            int shared = 0;
            for (int z = 0; z < EDGE; z++) {
                int to = z + byZ;
                if (to >= 0 && to < EDGE) {
                    shared += Long.bitCount(Cells.slide(shape.layers[z], byX, byY) & otherShape.layers[to]);
                }
            }
            return shared;
        }
    }

    /** What is seen of cells along an axis. */
    private static final class Views {

        /** A column outside of the space has no cell, as the line round a rim wants it. */
        static int depthOf(Cells cells, int axis, boolean isUp, int u, int v) {
            for (int depth = 0; depth < EDGE; depth++) {
                int along = isUp ? depth : EDGE - 1 - depth;
                int x = axis == 0 ? along : u;
                int y = axis == 0 ? u : axis == 1 ? along : v;
                int z = axis == 2 ? along : v;
                if (cells.contains(x, y, z)) {
                    return depth;
                }
            }
            return EDGE;
        }

        static int countLines(Cells cells, int axis, boolean isUp) {
            int count = 0;
            for (int u = 0; u <= EDGE; u++) {
                for (int v = 0; v <= EDGE; v++) {
                    int here = depthOf(cells, axis, isUp, u, v);
                    count += here == depthOf(cells, axis, isUp, u - 1, v) ? 0 : 1;
                    count += here == depthOf(cells, axis, isUp, u, v - 1) ? 0 : 1;
                }
            }
            return count;
        }
    }
}
