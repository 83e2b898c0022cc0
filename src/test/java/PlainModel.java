import java.util.ArrayDeque;
import java.util.ArrayList;
import java.util.Arrays;
import java.util.HashMap;
import java.util.HashSet;
import java.util.List;
import java.util.Map;
import java.util.NoSuchElementException;
import java.util.Set;
import java.util.TreeMap;

/** The document's terms in the plainest form: all is worked out from nothing whenever it is asked. */
final class PlainModel {
    /** A cell, or a way from one to another. */
    record Cell(int x, int y, int z) {
        Cell by(Cell way, int times) {
            return new Cell(x + way.x * times, y + way.y * times, z + way.z * times);
        }

        Cell beside(int side) {
            return by(WAYS[side], 1);
        }

        int along(int axis) {
            return axis == 0 ? x : axis == 1 ? y : z;
        }

        boolean isInside() {
            return Math.min(x, Math.min(y, z)) >= 0 && Math.max(x, Math.max(y, z)) <= 7;
        }
    }

    /** A square: a cell and a side of it. */
    record Square(Cell cell, int side) {
    }

    /** A feature with its terms. */
    private static final class Feature {
        int number;
        char kind;
        int[] terms;
        boolean isOff;
    }

    /** A feature as it was carried out. */
    private record Carried(int number, boolean isOff, List<Integer> sizes) {
    }

    /** A mate. */
    private record Mate(int axis, int part, int other, int distance) {
    }

    private static final Cell[] WAYS = {new Cell(-1, 0, 0), new Cell(1, 0, 0), new Cell(0, -1, 0),
        new Cell(0, 1, 0), new Cell(0, 0, -1), new Cell(0, 0, 1)};

    private final int[][] formulas = new int[8][3];
    private final List<Feature> row = new ArrayList<>();
    private int given = 0;
    private int bar = 0;
    private long work = 0;
    private final List<int[]> moves = new ArrayList<>();
    private final Map<Integer, Set<Cell>> frozen = new TreeMap<>();
    private final List<Mate> mates = new ArrayList<>();
    private Map<Square, Integer> names = new HashMap<>();
    private Set<Cell> body = new HashSet<>();
    private final Map<Integer, Character> faults = new HashMap<>();

    int highestNumber() {
        return given - 1;
    }

    int count() {
        return row.size();
    }

    int featureAt(int place) {
        return row.get(place).number;
    }

    int partCount() {
        return moves.size();
    }

    // Numbers

    private static boolean isTerm(int term) {
        return Math.abs((long) term) <= 20 || term >= 100 && term <= 107;
    }

    private int value(int term) {
        return term < 100 ? term : named(term - 100);
    }

    private int named(int name) {
        int a = value(formulas[name][0]);
        int b = value(formulas[name][2]);
        int c = formulas[name][1] == '*' ? a * b : formulas[name][1] == '-' ? a - b : a + b;
        return c > 99 ? 99 : c < -99 ? -99 : c;
    }

    private boolean needs(int term, int name) {
        return term >= 100 && (term == 100 + name
                || needs(formulas[term - 100][0], name) || needs(formulas[term - 100][2], name));
    }

    int setNumber(int name, int first, char operation, int second) {
        if (name < 0 || name > 7 || !isTerm(first) || !isTerm(second) || "+-*".indexOf(operation) < 0) {
            throw new IllegalArgumentException();
        }
        if (needs(first, name) || needs(second, name)) {
            throw new UnsupportedOperationException();
        }
        List<Carried> before = carried();
        int[] old = formulas[name];
        formulas[name] = new int[] {first, operation, second};
        if (isOutOfOrder()) {
            formulas[name] = old;
            throw new UnsupportedOperationException();
        }
        carry(before);
        return named(name);
    }

    int number(int name) {
        if (name < 0 || name > 7) {
            throw new IllegalArgumentException();
        }
        return named(name);
    }

    // Features

    private Feature find(int number) {
        for (Feature feature : row) {
            if (feature.number == number) {
                return feature;
            }
        }
        throw new NoSuchElementException();
    }

    private boolean exists(int number) {
        return row.stream().anyMatch(feature -> feature.number == number);
    }

    private List<Integer> sizes(Feature feature) {
        List<Integer> sizes = new ArrayList<>();
        for (int term : feature.terms) {
            sizes.add(value(term));
        }
        return sizes;
    }

    private boolean isOutOfOrder() {
        for (Feature feature : row) {
            int needed = value(feature.terms[0]);
            if (feature.kind == 'e' && exists(needed) && row.indexOf(find(needed)) > row.indexOf(feature)) {
                return true;
            }
        }
        return false;
    }

    private List<Carried> carried() {
        List<Carried> carried = new ArrayList<>();
        for (Feature feature : row.subList(0, bar)) {
            carried.add(new Carried(feature.number, feature.isOff, sizes(feature)));
        }
        return carried;
    }

    private void carry(List<Carried> before) {
        List<Carried> now = carried();
        boolean isReached = false;
        for (int place = 0; place < now.size(); place++) {
            isReached = isReached || place >= before.size() || !before.get(place).equals(now.get(place));
            work += isReached && !now.get(place).isOff() ? 1 : 0;
        }
        body = new HashSet<>();
        names = new HashMap<>();
        for (Feature feature : row.subList(0, bar)) {
            if (!feature.isOff) {
                carryOut(feature);
            }
        }
    }

    private void carryOut(Feature feature) {
        List<Integer> s = sizes(feature);
        char fault = fault(feature.kind, s);
        faults.put(feature.number, fault);
        if (fault != '-') {
            return;
        }
        Set<Cell> after = new HashSet<>(body);
        switch (feature.kind) {
            case 'b' -> after.addAll(box(s));
            case 'c' -> after.removeAll(box(s));
            case 'i' -> after.retainAll(box(s));
            case 'h' -> after.removeIf(cell -> {
                int neighbours = 0;
                for (int side = 0; side < 6; side++) {
                    neighbours += body.contains(cell.beside(side)) ? 1 : 0;
                }
                return neighbours == 6;
            });
            case 'm' -> body.forEach(cell -> after.add(mirrored(cell, s.get(0), s.get(1))));
            case 'p' -> body.forEach(cell -> {
                for (int times = 1; times <= s.get(3); times++) {
                    after.add(cell.by(new Cell(s.get(0), s.get(1), s.get(2)), times));
                }
            });
            default -> named(s.get(0), s.get(1)).forEach(cell -> {
                for (int times = 1; times <= s.get(2); times++) {
                    after.add(cell.by(WAYS[s.get(1)], times));
                }
            });
        }
        after.removeIf(cell -> !cell.isInside());
        body = after;
        rename(feature.number);
    }

    private void rename(int number) {
        Map<Square, Integer> after = new HashMap<>();
        for (Cell cell : body) {
            for (int side = 0; side < 6; side++) {
                if (!body.contains(cell.beside(side))) {
                    Square square = new Square(cell, side);
                    after.put(square, names.getOrDefault(square, number));
                }
            }
        }
        names = after;
    }

    private static Set<Cell> box(List<Integer> s) {
        Set<Cell> box = new HashSet<>();
        for (int x = 0; x < 8; x++) {
            for (int y = 0; y < 8; y++) {
                for (int z = 0; z < 8; z++) {
                    if (x >= s.get(0) && x < s.get(0) + s.get(3) && y >= s.get(1) && y < s.get(1) + s.get(4)
                            && z >= s.get(2) && z < s.get(2) + s.get(5)) {
                        box.add(new Cell(x, y, z));
                    }
                }
            }
        }
        return box;
    }

    private static Cell mirrored(Cell cell, int axis, int plane) {
        int[] at = {cell.x, cell.y, cell.z};
        at[axis] = 2 * plane - 1 - at[axis];
        return new Cell(at[0], at[1], at[2]);
    }

    private Set<Cell> named(int number, int side) {
        Set<Cell> cells = new HashSet<>();
        names.forEach((square, maker) -> {
            if (maker == number && square.side == side) {
                cells.add(square.cell);
            }
        });
        return cells;
    }

    private char fault(char kind, List<Integer> s) {
        if ("bci".indexOf(kind) >= 0 && Math.min(s.get(3), Math.min(s.get(4), s.get(5))) < 1
                || kind == 'p' && s.get(3) < 0
                || kind == 'm' && (s.get(0) < 0 || s.get(0) > 2)
                || kind == 'e' && (s.get(1) < 0 || s.get(1) > 5 || s.get(2) < 0)) {
            return 'x';
        }
        if (kind != 'e') {
            return '-';
        }
        int pieces = pieces(named(s.get(0), s.get(1)));
        return pieces == 0 ? 'l' : pieces == 1 ? '-' : 'd';
    }

    private static int pieces(Set<Cell> cells) {
        Set<Cell> left = new HashSet<>(cells);
        int pieces = 0;
        while (!left.isEmpty()) {
            pieces++;
            ArrayDeque<Cell> open = new ArrayDeque<>();
            Cell seed = left.iterator().next();
            left.remove(seed);
            open.add(seed);
            while (!open.isEmpty()) {
                Cell cell = open.remove();
                for (int side = 0; side < 6; side++) {
                    if (left.remove(cell.beside(side))) {
                        open.add(cell.beside(side));
                    }
                }
            }
        }
        return pieces;
    }

    int addFeature(char kind, int first, int second, int third) {
        if ("bcimphe".indexOf(kind) < 0 || !isTerm(first) || !isTerm(second) || !isTerm(third)) {
            throw new IllegalArgumentException();
        }
        if (row.size() == 12 || given == 40) {
            throw new IllegalStateException();
        }
        List<Carried> before = carried();
        Feature feature = new Feature();
        feature.number = given;
        feature.kind = kind;
        feature.terms = new int[] {first, second, third, 1, 1, 1};
        row.add(feature);
        if (isOutOfOrder()) {
            row.remove(feature);
            throw new UnsupportedOperationException();
        }
        given++;
        bar += bar == row.size() - 1 ? 1 : 0;
        carry(before);
        return feature.number;
    }

    int setSize(int number, int first, int second, int third) {
        Feature feature = find(number);
        if (!isTerm(first) || !isTerm(second) || !isTerm(third)) {
            throw new IllegalArgumentException();
        }
        List<Carried> before = carried();
        List<Integer> old = sizes(feature);
        feature.terms[3] = first;
        feature.terms[4] = second;
        feature.terms[5] = third;
        int others = 0;
        for (int which = 3; which < 6; which++) {
            others += sizes(feature).get(which).equals(old.get(which)) ? 0 : 1;
        }
        carry(before);
        return others;
    }

    int remove(int number) {
        Feature feature = find(number);
        for (Feature other : row) {
            if (other != feature && other.kind == 'e' && value(other.terms[0]) == number) {
                throw new UnsupportedOperationException();
            }
        }
        List<Carried> before = carried();
        row.remove(feature);
        bar = Math.min(bar, row.size());
        carry(before);
        return row.size();
    }

    int move(int number, int place) {
        Feature feature = find(number);
        if (place < 0 || place >= row.size()) {
            throw new IndexOutOfBoundsException();
        }
        List<Carried> before = carried();
        int from = row.indexOf(feature);
        row.remove(feature);
        row.add(place, feature);
        if (isOutOfOrder()) {
            row.remove(feature);
            row.add(from, feature);
            throw new UnsupportedOperationException();
        }
        carry(before);
        return from;
    }

    boolean putOff(int number, boolean isOff) {
        Feature feature = find(number);
        List<Carried> before = carried();
        boolean isOther = feature.isOff != isOff;
        feature.isOff = isOff;
        carry(before);
        return isOther;
    }

    int setBar(int place) {
        if (place < 0 || place > row.size()) {
            throw new IndexOutOfBoundsException();
        }
        List<Carried> before = carried();
        int old = bar;
        bar = place;
        carry(before);
        return old;
    }

    int place(int number) {
        return row.indexOf(find(number));
    }

    char state(int number) {
        Feature feature = find(number);
        return feature.isOff ? 'o' : row.indexOf(feature) >= bar ? 'b' : faults.get(number);
    }

    long worked() {
        return work;
    }

    // Bodies

    boolean has(int x, int y, int z) {
        if (!new Cell(x, y, z).isInside()) {
            throw new IndexOutOfBoundsException();
        }
        return body.contains(new Cell(x, y, z));
    }

    int nameOf(int x, int y, int z, int side) {
        has(x, y, z);
        if (side < 0 || side > 5) {
            throw new IllegalArgumentException();
        }
        Integer maker = names.get(new Square(new Cell(x, y, z), side));
        if (maker == null) {
            throw new NoSuchElementException();
        }
        return maker;
    }

    int squares(int number, int side) {
        if (number < 0 || number > 39 || side < 0 || side > 5) {
            throw new IllegalArgumentException();
        }
        return named(number, side).size();
    }

    int volume() {
        return body.size();
    }

    int area() {
        return names.size();
    }

    int bodies() {
        return pieces(body);
    }

    /** Corners lie at twice the number of a cell minus or plus 1 along all axes, edges along two of them. */
    int euler() {
        Set<Cell> corners = new HashSet<>();
        Set<Cell> edges = new HashSet<>();
        for (Square square : names.keySet()) {
            Cell middle = new Cell(2 * square.cell.x, 2 * square.cell.y, 2 * square.cell.z).beside(square.side);
            int one = square.side / 2 == 0 ? 2 : 0;
            int two = square.side / 2 == 2 ? 2 : 4;
            for (int a = 0; a < 2; a++) {
                edges.add(middle.beside(one + a));
                edges.add(middle.beside(two + a));
                corners.add(middle.beside(one + a).beside(two));
                corners.add(middle.beside(one + a).beside(two + 1));
            }
        }
        return corners.size() - edges.size() + names.size();
    }

    double centre(int axis) {
        if (axis < 0 || axis > 2) {
            throw new IllegalArgumentException();
        }
        if (body.isEmpty()) {
            throw new ArithmeticException();
        }
        return (double) body.stream().mapToInt(cell -> cell.along(axis)).sum() / (double) body.size();
    }

    float filled() {
        return (float) body.size() / 512f;
    }

    // Parts

    private void checkPart(int part) {
        if (part < 0 || part >= moves.size()) {
            throw new IndexOutOfBoundsException();
        }
    }

    private static void checkAxis(int axis) {
        if (axis < 0 || axis > 2) {
            throw new IllegalArgumentException();
        }
    }

    private static void checkBy(int by) {
        if (by < -20 || by > 20) {
            throw new IllegalArgumentException();
        }
    }

    int addPart(int x, int y, int z) {
        checkBy(x);
        checkBy(y);
        checkBy(z);
        if (moves.size() == 6) {
            throw new IllegalStateException();
        }
        moves.add(new int[] {x, y, z});
        return moves.size() - 1;
    }

    boolean freeze(int part, boolean isFrozen) {
        checkPart(part);
        boolean before = frozen.containsKey(part);
        frozen.remove(part);
        if (isFrozen) {
            frozen.put(part, new HashSet<>(body));
        }
        return before;
    }

    private Set<Integer> tied(int axis, int part) {
        Set<Integer> tied = new HashSet<>();
        tied.add(part);
        boolean isGrowing = true;
        while (isGrowing) {
            isGrowing = false;
            for (Mate mate : mates) {
                if (mate.axis == axis && (tied.contains(mate.part) || tied.contains(mate.other))) {
                    isGrowing |= tied.addAll(Arrays.asList(mate.part, mate.other));
                }
            }
        }
        return tied;
    }

    private int at(int part, int axis) {
        return part < 0 ? 0 : moves.get(part)[axis];
    }

    private int slide(Set<Integer> tied, int axis, int by) {
        tied.forEach(part -> moves.get(part)[axis] += by);
        return by == 0 ? 0 : tied.size();
    }

    int mate(int axis, int part, int other, int distance) {
        checkPart(part);
        if (other != -1) {
            checkPart(other);
        }
        checkAxis(axis);
        checkBy(distance);
        if (part == other) {
            throw new IllegalArgumentException();
        }
        if (tied(axis, part).contains(other)) {
            throw new UnsupportedOperationException();
        }
        if (mates.size() == 12) {
            throw new IllegalStateException();
        }
        int by = distance - at(part, axis) + at(other, axis);
        int sliding = tied(axis, part).contains(-1)
                ? slide(tied(axis, other), axis, -by) : slide(tied(axis, part), axis, by);
        mates.add(new Mate(axis, part, other, distance));
        return sliding;
    }

    int drag(int part, int axis, int by) {
        checkPart(part);
        checkAxis(axis);
        checkBy(by);
        if (tied(axis, part).contains(-1)) {
            throw new UnsupportedOperationException();
        }
        return slide(tied(axis, part), axis, by);
    }

    int moved(int part, int axis) {
        checkPart(part);
        checkAxis(axis);
        return at(part, axis);
    }

    int freedoms() {
        return 3 * moves.size() - mates.size();
    }

    private Set<Cell> shape(int part) {
        Set<Cell> shape = new HashSet<>();
        int[] move = moves.get(part);
        frozen.getOrDefault(part, body).forEach(cell -> shape.add(cell.by(new Cell(move[0], move[1], move[2]), 1)));
        return shape;
    }

    int clashes(int part, int other) {
        checkPart(part);
        checkPart(other);
        if (part == other) {
            throw new IllegalArgumentException();
        }
        Set<Cell> shared = shape(part);
        shared.retainAll(shape(other));
        return shared.size();
    }

    // Views

    int depth(int axis, boolean isUp, int u, int v) {
        checkAxis(axis);
        if (!new Cell(u, v, 0).isInside()) {
            throw new IndexOutOfBoundsException();
        }
        int least = 8;
        for (Cell cell : body) {
            int ofU = axis == 0 ? cell.y : cell.x;
            int ofV = axis == 2 ? cell.y : cell.z;
            if (ofU == u && ofV == v) {
                least = Math.min(least, isUp ? cell.along(axis) : 7 - cell.along(axis));
            }
        }
        return least;
    }

    int lines(int axis, boolean isUp) {
        checkAxis(axis);
        int lines = 0;
        for (int u = 0; u < 8; u++) {
            for (int v = 0; v < 8; v++) {
                int here = depth(axis, isUp, u, v);
                lines += u < 7 && here != depth(axis, isUp, u + 1, v) ? 1 : 0;
                lines += v < 7 && here != depth(axis, isUp, u, v + 1) ? 1 : 0;
                int sidesAtRim = (u % 7 == 0 ? 1 : 0) + (v % 7 == 0 ? 1 : 0);
                lines += here < 8 ? sidesAtRim : 0;
            }
        }
        return lines;
    }
}
