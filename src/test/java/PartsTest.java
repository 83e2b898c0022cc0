/** Promises 23 to 29: parts, mates, drags, freezing and clashes. */
public final class PartsTest {
    private static final Check CHECK = new Check();

    private static Solidhearth withParts(int... moves) {
        Solidhearth x = new Solidhearth();
        for (int move : moves) {
            x.addPart(move, 0, 0);
        }
        return x;
    }

    private static String moves(Solidhearth x, int axis, int count) {
        StringBuilder text = new StringBuilder();
        for (int part = 0; part < count; part++) {
            text.append(part == 0 ? "" : " ").append(x.moved(part, axis));
        }
        return text.toString();
    }

    private static void adding() {
        Solidhearth x = new Solidhearth();
        CHECK.is("the first part", x.addPart(-20, 20, 7), 0);
        CHECK.is("its move along 0", x.moved(0, 0), -20);
        CHECK.is("along 1", x.moved(0, 1), 20);
        CHECK.is("along 2", x.moved(0, 2), 7);
        for (int wrong : new int[] {-21, 21, Integer.MIN_VALUE}) {
            CHECK.fails("x " + wrong, IllegalArgumentException.class, () -> x.addPart(wrong, 0, 0));
            CHECK.fails("y " + wrong, IllegalArgumentException.class, () -> x.addPart(0, wrong, 0));
            CHECK.fails("z " + wrong, IllegalArgumentException.class, () -> x.addPart(0, 0, wrong));
        }
        for (int part = 1; part < 6; part++) {
            CHECK.is("the next part", x.addPart(part, 0, 0), part);
        }
        CHECK.fails("range, told first", IllegalArgumentException.class, () -> x.addPart(0, 0, 21));
        CHECK.fails("6 are there", IllegalStateException.class, () -> x.addPart(0, 0, 0));
        CHECK.is("freedoms", x.freedoms(), 18);
        CHECK.fails("part 6", IndexOutOfBoundsException.class, () -> x.moved(6, 0));
        CHECK.fails("part -1, told first", IndexOutOfBoundsException.class, () -> x.moved(-1, 3));
        CHECK.fails("axis 3", IllegalArgumentException.class, () -> x.moved(0, 3));
        CHECK.fails("axis -1", IllegalArgumentException.class, () -> x.moved(0, -1));
    }

    private static void mating() {
        Solidhearth x = withParts(0, 5, 9, 14);
        CHECK.is("fits already", x.mate(0, 1, 0, 5), 0);
        CHECK.is("the part moves, the other stays", x.mate(0, 2, 3, 1), 1);
        CHECK.is("moves", moves(x, 0, 4), "0 5 15 14");
        CHECK.is("all that are tied to the part", x.mate(0, 0, 2, -20), 2);
        CHECK.is("moves of both", moves(x, 0, 4), "-5 0 15 14");
        CHECK.is("other axes are free", x.mate(1, 0, 1, 20), 1);
        CHECK.is("moves along 1", moves(x, 1, 4), "20 0 0 0");
        CHECK.is("freedoms", x.freedoms(), 8);
        CHECK.fails("follows", UnsupportedOperationException.class, () -> x.mate(0, 1, 3, -14));
        CHECK.fails("is against", UnsupportedOperationException.class, () -> x.mate(0, 3, 1, 0));
        CHECK.fails("the same pair again", UnsupportedOperationException.class, () -> x.mate(0, 0, 1, -5));
        CHECK.is("refused ones change nothing", moves(x, 0, 4), "-5 0 15 14");
        CHECK.is("nor are they mates", x.freedoms(), 8);
        CHECK.is("isSound", x.isSound(), true);
    }

    private static void matingWithTheGround() {
        Solidhearth x = withParts(1, 2, 3, 4, 5);
        CHECK.is("to the ground", x.mate(0, 0, -1, -7), 1);
        CHECK.is("its move", x.moved(0, 0), -7);
        CHECK.is("two others", x.mate(0, 1, 2, 1), 1);
        CHECK.is("the part is held, the others move", x.mate(0, 0, 2, 0), 2);
        CHECK.is("moves", moves(x, 0, 5), "-7 -6 -7 4 5");
        CHECK.is("the part moves to one that is held", x.mate(0, 3, 1, 2), 1);
        CHECK.is("moves again", moves(x, 0, 5), "-7 -6 -7 -4 5");
        CHECK.fails("held through others", UnsupportedOperationException.class, () -> x.mate(0, 3, -1, -4));
        CHECK.fails("held twice", UnsupportedOperationException.class, () -> x.mate(0, 0, -1, -7));
        CHECK.is("the ground along another axis", x.mate(2, 3, -1, 0), 0);
        CHECK.is("that of its own", x.mate(0, 4, -1, 20), 1);
        CHECK.fails("both are held", UnsupportedOperationException.class, () -> x.mate(0, 4, 0, 20));
        CHECK.is("isSound", x.isSound(), true);
    }

    private static void wrongMates() {
        Solidhearth x = withParts(0, 0);
        CHECK.fails("part 2", IndexOutOfBoundsException.class, () -> x.mate(0, 2, 0, 0));
        CHECK.fails("part -1", IndexOutOfBoundsException.class, () -> x.mate(0, -1, 0, 0));
        CHECK.fails("the ground to itself", IndexOutOfBoundsException.class, () -> x.mate(0, -1, -1, 0));
        CHECK.fails("other 2, told before the axis", IndexOutOfBoundsException.class, () -> x.mate(3, 0, 2, 0));
        CHECK.fails("other -2", IndexOutOfBoundsException.class, () -> x.mate(0, 0, -2, 0));
        CHECK.fails("axis 3", IllegalArgumentException.class, () -> x.mate(3, 0, 1, 0));
        CHECK.fails("axis -1", IllegalArgumentException.class, () -> x.mate(-1, 0, 1, 0));
        CHECK.fails("the same", IllegalArgumentException.class, () -> x.mate(0, 1, 1, 0));
        CHECK.fails("distance 21", IllegalArgumentException.class, () -> x.mate(0, 0, 1, 21));
        CHECK.fails("distance -21", IllegalArgumentException.class, () -> x.mate(0, 0, 1, -21));
        x.mate(0, 0, 1, 20);
        CHECK.fails("range, told before the tie", IllegalArgumentException.class, () -> x.mate(0, 0, 1, 21));
        CHECK.is("one mate", x.freedoms(), 5);
    }

    private static void matesAreBounded() {
        Solidhearth x = withParts(0, 0, 0, 0, 0, 0);
        for (int axis = 0; axis < 2; axis++) {
            for (int part = 0; part < 6; part++) {
                x.mate(axis, part, part - 1, 1);
            }
        }
        CHECK.is("12 mates", x.freedoms(), 6);
        CHECK.is("the last one", x.moved(5, 1), 6);
        CHECK.fails("no more", IllegalStateException.class, () -> x.mate(2, 0, 1, 0));
        CHECK.fails("a tie is told first", UnsupportedOperationException.class, () -> x.mate(1, 5, 0, 5));
    }

    private static void dragging() {
        Solidhearth x = withParts(0, 1, 2, 3);
        x.mate(0, 0, 1, -1);
        x.mate(0, 2, 1, 1);
        CHECK.is("three are tied", x.drag(2, 0, 20), 3);
        CHECK.is("moves", moves(x, 0, 4), "20 21 22 3");
        CHECK.is("one along another axis", x.drag(2, 1, -20), 1);
        CHECK.is("moves along 1", moves(x, 1, 4), "0 0 -20 0");
        CHECK.is("by 0", x.drag(2, 0, 0), 0);
        x.drag(3, 2, -20);
        x.drag(3, 2, -20);
        CHECK.is("a move beyond 20", x.moved(3, 2), -40);
        CHECK.fails("by 21", IllegalArgumentException.class, () -> x.drag(0, 0, 21));
        CHECK.fails("by -21", IllegalArgumentException.class, () -> x.drag(0, 0, -21));
        CHECK.fails("axis 3", IllegalArgumentException.class, () -> x.drag(0, 3, 0));
        CHECK.fails("part 4, told first", IndexOutOfBoundsException.class, () -> x.drag(4, 3, 0));
        CHECK.fails("part -1", IndexOutOfBoundsException.class, () -> x.drag(-1, 0, 0));
        x.mate(0, 1, -1, 0);
        CHECK.fails("held through another", UnsupportedOperationException.class, () -> x.drag(0, 0, 1));
        CHECK.fails("even by 0", UnsupportedOperationException.class, () -> x.drag(0, 0, 0));
        CHECK.fails("range, told first", IllegalArgumentException.class, () -> x.drag(0, 0, 21));
        CHECK.is("free along 1", x.drag(0, 1, 1), 1);
        CHECK.is("moves at last", moves(x, 0, 4), "-1 0 1 3");
    }

    private static void clashing() {
        Solidhearth x = withParts(0, 2, -20);
        CHECK.is("no body", x.clashes(0, 1), 0);
        x.addFeature('b', 0, 0, 0);
        x.setSize(0, 4, 3, 2);
        CHECK.is("what both have", x.clashes(0, 1), 2 * 3 * 2);
        CHECK.is("the other way", x.clashes(1, 0), 12);
        CHECK.is("far apart", x.clashes(0, 2), 0);
        x.drag(1, 1, -1);
        x.drag(1, 2, 1);
        CHECK.is("along all axes", x.clashes(0, 1), 2 * 2 * 1);
        x.drag(1, 0, -4);
        CHECK.is("to lower numbers", x.clashes(0, 1), 2 * 2 * 1);
        x.drag(1, 1, 10);
        CHECK.is("out of reach along 1", x.clashes(0, 1), 0);
        x.drag(1, 1, -9);
        x.drag(1, 2, -10);
        CHECK.is("out of reach along 2", x.clashes(0, 1), 0);
        CHECK.fails("the same", IllegalArgumentException.class, () -> x.clashes(1, 1));
        CHECK.fails("part 3, told first", IndexOutOfBoundsException.class, () -> x.clashes(3, 3));
        CHECK.fails("other 3", IndexOutOfBoundsException.class, () -> x.clashes(0, 3));
        CHECK.fails("part -1", IndexOutOfBoundsException.class, () -> x.clashes(-1, 0));
        CHECK.fails("other -1", IndexOutOfBoundsException.class, () -> x.clashes(0, -1));
    }

    /** Cells at the end of a line must not come up at the head of the next one. */
    private static void clashingAtTheRim() {
        Solidhearth x = withParts(0, 1);
        x.addFeature('b', 7, 0, 0);
        x.addFeature('b', 0, 1, 0);
        CHECK.is("no cell is in both", x.clashes(0, 1), 0);
        CHECK.is("the other way", x.clashes(1, 0), 0);
        x.drag(1, 0, 6);
        CHECK.is("by 7", x.clashes(0, 1), 0);
        x.drag(1, 1, -1);
        CHECK.is("along both", x.clashes(0, 1), 1);
    }

    /** Shapes far from one another share nothing, however the ways divide by 8 or 64. */
    private static void clashingFromAfar() {
        Solidhearth x = withParts(0, 0);
        x.addFeature('b', 0, 0, 0);
        x.setSize(0, 8, 8, 8);
        for (int axis = 0; axis < 3; axis++) {
            for (int by = 1; by <= 140; by++) {
                x.drag(by % 2, axis, by % 2 == 0 ? -1 : 1);
                CHECK.is(by + " apart along " + axis, x.clashes(0, 1), by < 8 ? 64 * (8 - by) : 0);
            }
            x.drag(0, axis, 10);
            for (int by = 0; by < 8; by++) {
                x.drag(0, axis, by < 6 ? 20 : by == 6 ? 10 : 0);
            }
            CHECK.is("together again along " + axis, x.clashes(1, 0), 512);
        }
    }

    private static void freezing() {
        Solidhearth x = withParts(0, 0);
        x.addFeature('b', 0, 0, 0);
        x.setSize(0, 2, 2, 2);
        CHECK.is("not frozen before", x.freeze(0, true), false);
        x.setSize(0, 3, 3, 3);
        CHECK.is("as it was", x.clashes(0, 1), 8);
        CHECK.is("frozen already", x.freeze(0, true), true);
        CHECK.is("frozen anew", x.clashes(0, 1), 27);
        x.remove(0);
        CHECK.is("the other one follows the body", x.clashes(0, 1), 0);
        x.freeze(1, false);
        x.addFeature('b', 2, 2, 2);
        x.setSize(1, 2, 2, 2);
        CHECK.is("the body anew", x.clashes(1, 0), 1);
        CHECK.is("a frozen part can be dragged", x.drag(0, 0, 1), 1);
        CHECK.is("and is moved", x.clashes(1, 0), 2);
        CHECK.is("frozen till now", x.freeze(0, false), true);
        CHECK.is("it follows again", x.clashes(0, 1), 4);
        CHECK.is("no longer frozen", x.freeze(0, false), false);
        CHECK.fails("part 2", IndexOutOfBoundsException.class, () -> x.freeze(2, true));
        CHECK.fails("part -1", IndexOutOfBoundsException.class, () -> x.freeze(-1, false));
    }

    /** "Parts that are tied along an axis, also through others, move together", all six of them at most. */
    private static void allAreTied() {
        Solidhearth x = withParts(0, 1, 2, 3, 4, 5);
        for (int part = 1; part < 6; part++) {
            CHECK.is("fits already", x.mate(0, part, part - 1, 1), 0);
        }
        CHECK.is("all move", x.drag(3, 0, -20), 6);
        CHECK.is("moves", moves(x, 0, 6), "-20 -19 -18 -17 -16 -15");
        CHECK.is("all move to the ground", x.mate(0, 5, -1, 20), 6);
        CHECK.is("moves at the ground", moves(x, 0, 6), "15 16 17 18 19 20");
        CHECK.is("along the other axes none moves", moves(x, 1, 6), "0 0 0 0 0 0");
        CHECK.is("freedoms", x.freedoms(), 12);
        Solidhearth one = withParts(7);
        CHECK.is("none is tied", one.drag(0, 0, 1), 1);
        CHECK.is("to the ground, as it stands", one.mate(0, 0, -1, 8), 0);
        one.mate(1, 0, -1, -20);
        one.mate(2, 0, -1, 20);
        CHECK.is("no freedom is left", one.freedoms(), 0);
        CHECK.is("the least distance", one.moved(0, 1), -20);
        CHECK.is("the greatest distance", one.moved(0, 2), 20);
    }

    /** "If these are tied to the ground, those of the other part do", the other way round. */
    private static void theOtherPartMoves() {
        Solidhearth x = withParts(0, 3, 5, 9);
        x.mate(0, 0, -1, 0);
        x.mate(0, 2, 3, -4);
        CHECK.is("the others move to lower numbers", x.mate(0, 0, 3, 20), 2);
        CHECK.is("moves", moves(x, 0, 4), "0 3 -24 -20");
        CHECK.is("one moves to greater ones", x.mate(0, 0, 1, -20), 1);
        CHECK.is("moves again", moves(x, 0, 4), "0 20 -24 -20");
        Solidhearth fit = withParts(0, 3);
        fit.mate(0, 0, -1, 0);
        CHECK.is("it fits already", fit.mate(0, 0, 1, -3), 0);
        CHECK.fails("and holds all the same", UnsupportedOperationException.class, () -> fit.drag(1, 0, 1));
    }

    private static void dragBy(Solidhearth x, int[] by) {
        for (int axis = 0; axis < 3; axis++) {
            x.drag(0, axis, by[axis]);
        }
    }

    /** One cell, frozen, and another one that is the body: they clash at one move only, and along no other. */
    private static void clashingOfOneCell() {
        int[][] cells = {{0, 0, 0}, {7, 7, 7}, {7, 0, 7}, {0, 7, 0}, {1, 2, 4}, {6, 5, 2}};
        for (int[] one : cells) {
            for (int[] two : cells) {
                Solidhearth x = withParts(0, 0);
                x.addFeature('b', one[0], one[1], one[2]);
                x.freeze(0, true);
                x.remove(0);
                x.addFeature('b', two[0], two[1], two[2]);
                int[] by = {two[0] - one[0], two[1] - one[1], two[2] - one[2]};
                CHECK.is("before", x.clashes(0, 1), one == two ? 1 : 0);
                dragBy(x, by);
                CHECK.is("on one another", x.clashes(0, 1), 1);
                CHECK.is("the other way", x.clashes(1, 0), 1);
                for (int axis = 0; axis < 3; axis++) {
                    for (int way = -1; way <= 1; way += 2) {
                        x.drag(0, axis, way);
                        CHECK.is("beside one another", x.clashes(0, 1) + x.clashes(1, 0), 0);
                        x.drag(0, axis, -way);
                    }
                }
            }
        }
    }

    /** 7 apart is the last move at which full shapes share cells, in both ways. */
    private static void clashingAtTheEdge() {
        for (int axis = 0; axis < 3; axis++) {
            for (int by : new int[] {-20, -16, -9, -8, -7, -1, 0, 1, 7, 8, 9, 16, 20}) {
                Solidhearth x = withParts(0, 0);
                x.addFeature('b', 0, 0, 0);
                x.setSize(0, 8, 8, 8);
                x.drag(0, axis, by);
                int due = Math.max(0, 8 - Math.abs(by)) * 64;
                CHECK.is(by + " along " + axis, x.clashes(0, 1), due);
                CHECK.is(by + " along " + axis + ", the other way", x.clashes(1, 0), due);
            }
        }
    }

    /** "As it was when it was frozen", also if the body had no cells. */
    private static void freezingNothing() {
        Solidhearth x = withParts(0, 0);
        x.freeze(0, true);
        x.addFeature('b', 0, 0, 0);
        x.setSize(0, 8, 8, 8);
        CHECK.is("it has no cells", x.clashes(0, 1), 0);
        x.freeze(0, false);
        CHECK.is("all cells", x.clashes(0, 1), 512);
        x.freeze(1, true);
        x.setBar(0);
        x.freeze(1, true);
        x.setBar(1);
        CHECK.is("frozen anew ahead of all", x.clashes(0, 1), 0);
    }

    public static void main(String[] args) {
        adding();
        mating();
        matingWithTheGround();
        wrongMates();
        matesAreBounded();
        dragging();
        clashing();
        clashingAtTheRim();
        clashingFromAfar();
        freezing();
        allAreTied();
        theOtherPartMoves();
        clashingOfOneCell();
        clashingAtTheEdge();
        freezingNothing();
        CHECK.end();
    }
}
