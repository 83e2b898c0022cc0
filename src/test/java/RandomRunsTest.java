import java.util.Arrays;
import java.util.Random;

/** Long runs of calls, each answer of which must be that of the plain model. */
public final class RandomRunsTest {
    private static final int RUNS = 400;
    private static final int CALLS = 512;
    private static final String KINDS = "bbbbcimphheeee?";
    private final Random random;
    private final int run;
    private final Solidhearth made = new Solidhearth();
    private final PlainModel plain = new PlainModel();
    private final Check check;
    private int calls;

    private RandomRunsTest(int run, Check check) {
        this.run = run;
        this.check = check;
        random = new Random(run);
    }

    private int below(int bound) {
        return random.nextInt(bound);
    }

    /** Mostly from low to high, now and then one beyond or far away. */
    private int near(int low, int high) {
        int luck = below(60);
        if (luck == 0) {
            return low - 1;
        }
        if (luck == 1) {
            return high + 1;
        }
        return luck == 2 ? random.nextInt() : low + below(high - low + 1);
    }

    private int term() {
        int luck = below(20);
        if (luck < 5) {
            return near(100, 107);
        }
        return luck == 5 ? near(-20, 20) : near(0, 6);
    }

    private int size() {
        int luck = below(20);
        if (luck < 2) {
            return near(100, 107);
        }
        return luck < 3 ? near(-20, 20) : near(1, 5);
    }

    /** Mostly one that exists. */
    private int feature() {
        if (plain.count() > 0 && below(8) > 0) {
            return plain.featureAt(below(plain.count()));
        }
        return near(0, Math.min(39, plain.highestNumber() + 1));
    }

    private int axis() {
        return near(0, 2);
    }

    private int part() {
        return below(8) == 0 ? near(-1, 6) : near(0, Math.max(0, plain.partCount() - 1));
    }

    private void both(String told, Check.Call one, Check.Call other) {
        calls++;
        check.is("run " + run + ": " + told, Check.outcome(one), Check.outcome(other));
    }

    private void callOne() {
        int kind = below(100);
        if (kind < 45) {
            edit(below(20));
        } else if (kind < 58) {
            handleParts(below(6));
        } else {
            ask(below(20));
        }
    }

    private void edit(int kind) {
        int f = feature();
        if (kind < 2) {
            int name = near(0, 7);
            int a = term();
            int b = term();
            char op = "+-*+-*+-*/".charAt(below(10));
            both("setNumber(" + name + ", " + a + ", " + op + ", " + b + ")",
                    () -> made.setNumber(name, a, op, b), () -> plain.setNumber(name, a, op, b));
        } else if (kind == 2) {
            addOne();
        } else if (kind == 3) {
            addFitting("bbccieeeh".charAt(below(9)));
        } else if (kind < 9) {
            int a = size();
            int b = size();
            int c = size();
            both("setSize(" + f + ", " + a + ", " + b + ", " + c + ")",
                    () -> made.setSize(f, a, b, c), () -> plain.setSize(f, a, b, c));
        } else if (kind == 9) {
            both("remove(" + f + ")", () -> made.remove(f), () -> plain.remove(f));
        } else if (kind < 13) {
            int place = near(0, Math.max(0, plain.count() - 1));
            both("move(" + f + ", " + place + ")", () -> made.move(f, place), () -> plain.move(f, place));
        } else if (kind < 16) {
            boolean off = below(3) == 0;
            both("putOff(" + f + ", " + off + ")", () -> made.putOff(f, off), () -> plain.putOff(f, off));
        } else {
            int place = below(3) > 0 ? plain.count() : near(plain.count() / 2, plain.count());
            both("setBar(" + place + ")", () -> made.setBar(place), () -> plain.setBar(place));
        }
    }

    private void addOne() {
        char sort = KINDS.charAt(below(KINDS.length()));
        int a = sort == 'm' ? axis() : sort == 'e' ? below(6) == 0 ? term() : feature() : term();
        int b = sort == 'e' && below(8) > 0 ? near(0, 5) : term();
        int c = sort == 'e' && below(8) > 0 ? near(0, 3) : term();
        both("addFeature(" + sort + ", " + a + ", " + b + ", " + c + ")",
                () -> made.addFeature(sort, a, b, c), () -> plain.addFeature(sort, a, b, c));
    }

    /** Boxes large enough for what comes behind, slabs that cut them into pieces, and pushes of what is there. */
    private void addFitting(char sort) {
        int[] first = {below(4), below(4), below(4)};
        int[] further = {2 + below(4), 2 + below(4), 2 + below(4)};
        int along = below(3);
        if (sort == 'c') {
            Arrays.fill(first, 0);
            Arrays.fill(further, 8);
            first[along] = 1 + below(5);
            further[along] = 1;
        } else if (sort == 'i') {
            Arrays.fill(first, 0);
            Arrays.fill(further, 8);
            further[along] = 5 + below(3);
        } else if (sort == 'e') {
            int ahead = plain.count() == 0 ? 0 : plain.featureAt(below(Math.min(3, plain.count())));
            first = new int[] {ahead, below(6), 1 + below(3)};
        }
        int[] at = first;
        int f = plain.highestNumber() + 1;
        both("addFeature(" + sort + ", " + at[0] + ", " + at[1] + ", " + at[2] + ")",
                () -> made.addFeature(sort, at[0], at[1], at[2]), () -> plain.addFeature(sort, at[0], at[1], at[2]));
        both("setSize(" + f + ", " + further[0] + ", " + further[1] + ", " + further[2] + ")",
                () -> made.setSize(f, further[0], further[1], further[2]),
                () -> plain.setSize(f, further[0], further[1], further[2]));
        both("state(" + f + ")", () -> made.state(f), () -> plain.state(f));
    }

    private void handleParts(int kind) {
        int p = part();
        int q = part();
        int axis = axis();
        int by = below(3) == 0 ? near(-20, 20) : near(-3, 3);
        if (kind == 0) {
            int y = near(-3, 3);
            both("addPart(" + by + ", " + y + ", 1)", () -> made.addPart(by, y, 1), () -> plain.addPart(by, y, 1));
        } else if (kind == 1) {
            boolean isFrozen = below(2) == 0;
            both("freeze(" + p + ", " + isFrozen + ")",
                    () -> made.freeze(p, isFrozen), () -> plain.freeze(p, isFrozen));
        } else if (kind == 2) {
            both("mate(" + axis + ", " + p + ", " + q + ", " + by + ")",
                    () -> made.mate(axis, p, q, by), () -> plain.mate(axis, p, q, by));
        } else if (kind == 3) {
            both("drag(" + p + ", " + axis + ", " + by + ")",
                    () -> made.drag(p, axis, by), () -> plain.drag(p, axis, by));
        } else if (kind == 4) {
            both("clashes(" + p + ", " + q + ")", () -> made.clashes(p, q), () -> plain.clashes(p, q));
        } else {
            both("moved(" + p + ", " + axis + ")", () -> made.moved(p, axis), () -> plain.moved(p, axis));
        }
    }

    private void ask(int kind) {
        if (kind < 6) {
            askOfFeatures(kind);
        } else if (kind < 12) {
            askOfCells(kind);
        } else {
            measure(kind);
        }
    }

    private void askOfFeatures(int kind) {
        int f = feature();
        int name = near(0, 7);
        if (kind == 0) {
            both("number(" + name + ")", () -> made.number(name), () -> plain.number(name));
        } else if (kind == 1) {
            both("place(" + f + ")", () -> made.place(f), () -> plain.place(f));
        } else if (kind < 5) {
            both("state(" + f + ")", () -> made.state(f), () -> plain.state(f));
        } else {
            both("worked()", () -> made.worked(), () -> plain.worked());
        }
    }

    private void askOfCells(int kind) {
        int x = near(0, 7);
        int y = near(0, 7);
        int z = near(0, 7);
        int side = near(0, 5);
        int f = feature();
        String at = "(" + x + ", " + y + ", " + z + ")";
        if (kind == 6) {
            both("has" + at, () -> made.has(x, y, z), () -> plain.has(x, y, z));
        } else if (kind == 7) {
            both("hasAnew" + at, () -> made.hasAnew(x, y, z), () -> plain.has(x, y, z));
        } else if (kind < 10) {
            both("nameOf" + at + side, () -> made.nameOf(x, y, z, side), () -> plain.nameOf(x, y, z, side));
        } else {
            both("squares(" + f + ", " + side + ")", () -> made.squares(f, side), () -> plain.squares(f, side));
        }
    }

    private void measure(int kind) {
        int axis = axis();
        boolean isUp = below(2) == 0;
        int u = near(0, 7);
        int v = near(0, 7);
        if (kind == 12) {
            both("volume()", () -> made.volume(), () -> plain.volume());
        } else if (kind == 13) {
            both("area()", () -> made.area(), () -> plain.area());
        } else if (kind == 14) {
            both("bodies()", () -> made.bodies(), () -> plain.bodies());
        } else if (kind == 15) {
            both("euler()", () -> made.euler(), () -> plain.euler());
        } else if (kind == 16) {
            both("centre(" + axis + ")", () -> made.centre(axis), () -> plain.centre(axis));
        } else if (kind == 17) {
            both("filled()", () -> made.filled(), () -> plain.filled());
        } else if (kind == 18) {
            both("lines(" + axis + ", " + isUp + ")", () -> made.lines(axis, isUp), () -> plain.lines(axis, isUp));
        } else {
            both("depth(" + axis + ", " + isUp + ", " + u + ", " + v + ")",
                    () -> made.depth(axis, isUp, u, v), () -> plain.depth(axis, isUp, u, v));
        }
    }

    /** What is asked seldom, at the end of a run, though the document leaves free what is answered so late. */
    private void askAll() {
        both("freedoms()", () -> made.freedoms(), () -> plain.freedoms());
        both("isSound()", () -> made.isSound(), () -> true);
        for (int cell = 0; cell < 512; cell++) {
            int x = cell % 8;
            int y = cell / 8 % 8;
            int z = cell / 64;
            for (int way = 0; way < 6; way++) {
                int side = way;
                both("nameOf(" + x + ", " + y + ", " + z + ", " + side + ")",
                        () -> made.nameOf(x, y, z, side), () -> plain.nameOf(x, y, z, side));
            }
        }
    }

    public static void main(String[] args) {
        Check check = new Check();
        for (int run = 0; run < RUNS; run++) {
            RandomRunsTest test = new RandomRunsTest(run, check);
            for (int feature = 0; feature < run % 7; feature++) {
                test.addFitting("bbceeh".charAt(feature));
            }
            while (test.calls < CALLS) {
                test.callOne();
            }
            test.askAll();
        }
        check.end();
    }
}
