import java.util.NoSuchElementException;

/** Promises 13 to 22: cells, names of squares and measures. */
public final class BodiesTest {
    private static final Check CHECK = new Check();

    /** A body with one feature of a box. */
    static Solidhearth box(int x, int y, int z, int dx, int dy, int dz) {
        Solidhearth made = new Solidhearth();
        made.addFeature('b', x, y, z);
        made.setSize(0, dx, dy, dz);
        return made;
    }

    private static void add(Solidhearth x, char kind, int[] first, int[] further) {
        int feature = x.addFeature(kind, first[0], first[1], first[2]);
        x.setSize(feature, further[0], further[1], further[2]);
    }

    /** The cells of the body as text, x y z each. */
    private static String cells(Solidhearth body) {
        StringBuilder text = new StringBuilder();
        for (int x = 0; x < 8; x++) {
            for (int y = 0; y < 8; y++) {
                for (int z = 0; z < 8; z++) {
                    CHECK.is("hasAnew " + x + " " + y + " " + z, body.hasAnew(x, y, z), body.has(x, y, z));
                    if (body.has(x, y, z)) {
                        text.append(text.length() == 0 ? "" : " ").append(x).append(y).append(z);
                    }
                }
            }
        }
        return text.toString();
    }

    private static void boxes() {
        CHECK.is("a box along all axes", cells(box(1, 2, 3, 2, 1, 3)), "123 124 125 223 224 225");
        CHECK.is("left out at the low rim", cells(box(-1, 0, -2, 2, 1, 3)), "000");
        CHECK.is("left out at the high rim", cells(box(7, 6, 7, 5, 20, 2)), "767 777");
        CHECK.is("wholly outside", cells(box(8, 0, 0, 1, 1, 1)), "");
        CHECK.is("beyond the low rim", cells(box(-20, 0, 0, 20, 1, 1)), "");
        CHECK.is("beyond it, as long as can be", box(-20, -1, 0, 20, 20, 20).volume(), 0);
        CHECK.is("the whole space from -1 on", box(-1, -1, -1, 9, 20, 10).volume(), 512);
        Solidhearth x = box(0, 0, 0, 3, 1, 2);
        add(x, 'c', new int[] {1, 0, 1}, new int[] {5, 5, 5});
        CHECK.is("cut", cells(x), "000 001 100 200");
        add(x, 'i', new int[] {0, 0, 0}, new int[] {2, 1, 1});
        CHECK.is("what both have", cells(x), "000 100");
        add(x, 'i', new int[] {5, 0, 0}, new int[] {2, 1, 1});
        CHECK.is("with a box elsewhere", cells(x), "");
    }

    private static void mirrors() {
        for (int axis = 0; axis < 3; axis++) {
            Solidhearth x = box(1, 1, 1, 1, 1, 1);
            x.addFeature('m', axis, 3, 0);
            String other = axis == 0 ? "411" : axis == 1 ? "141" : "114";
            CHECK.is("mirrored along " + axis, cells(x), "111 " + other);
        }
        Solidhearth x = box(0, 0, 0, 3, 1, 1);
        x.addFeature('m', 0, 1, 0);
        CHECK.is("those outside are left out", cells(x), "000 100 200");
        x.setNumber(0, 20, '*', 2);
        x.addFeature('m', 1, 100, 0);
        CHECK.is("far away", x.volume(), 3);
    }

    private static void patterns() {
        Solidhearth x = box(0, 0, 0, 1, 2, 1);
        add(x, 'p', new int[] {3, 0, 1}, new int[] {2, 0, 0});
        CHECK.is("two copies", cells(x), "000 010 301 311 602 612");
        x.setSize(1, 20, 0, 0);
        CHECK.is("the others are outside", x.volume(), 6);
        x.remove(1);
        add(x, 'p', new int[] {0, -1, 0}, new int[] {1, 0, 0});
        CHECK.is("to lower numbers", cells(x), "000 010");
        x.remove(2);
        add(x, 'p', new int[] {0, 0, 0}, new int[] {20, 0, 0});
        CHECK.is("no way at all", x.volume(), 2);
        Solidhearth row = box(7, 7, 7, 1, 1, 1);
        add(row, 'p', new int[] {-1, 0, 0}, new int[] {7, 0, 0});
        CHECK.is("through the space", row.volume(), 8);
        add(row, 'p', new int[] {0, -7, 0}, new int[] {1, 0, 0});
        CHECK.is("across the space", row.has(3, 0, 7), true);
    }

    /** Far ways must not come up elsewhere, as shifts by 64 would. */
    private static void farPatterns() {
        Solidhearth x = box(2, 2, 2, 1, 1, 1);
        x.addFeature('p', 100, 101, 102);
        for (int axis = 0; axis < 3; axis++) {
            for (int by : new int[] {1, 2, 4, 16, -1, -2, -4, -16}) {
                x.setNumber(axis, by, '*', 4);
                CHECK.is("by " + 4 * by + " along " + axis, x.volume(), by == 1 ? 2 : 1);
            }
            x.setNumber(axis, 0, '+', 0);
        }
    }

    /** A way through four layers, each there and back, as one piece. */
    private static void aLongWay() {
        Solidhearth x = box(0, 0, 0, 8, 1, 1);
        add(x, 'p', new int[] {0, 2, 0}, new int[] {3, 1, 1});
        x.addFeature('b', 7, 1, 0);
        x.addFeature('b', 0, 3, 0);
        x.addFeature('b', 7, 5, 0);
        add(x, 'p', new int[] {0, 0, 2}, new int[] {3, 1, 1});
        x.addFeature('b', 0, 6, 1);
        x.addFeature('b', 0, 0, 3);
        CHECK.is("all but the last layer", x.bodies(), 2);
        x.addFeature('b', 0, 6, 5);
        CHECK.is("volume", x.volume(), 4 * 35 + 3);
        CHECK.is("one piece", x.bodies(), 1);
        CHECK.is("without holes", x.euler(), 2);
        x.addFeature('c', 0, 3, 4);
        CHECK.is("cut in the middle", x.bodies(), 2);
    }

    private static void hollows() {
        Solidhearth x = box(0, 0, 0, 4, 4, 4);
        x.addFeature('h', 0, 0, 0);
        CHECK.is("the inner cells", x.volume(), 56);
        CHECK.is("at the rim none", box(0, 0, 0, 8, 8, 8).volume(), 512);
        CHECK.is("one inner cell", x.has(1, 2, 1), false);
        CHECK.is("not where a neighbour was taken out first", x.has(3, 1, 1), true);
        Solidhearth full = box(0, 0, 0, 8, 8, 8);
        full.addFeature('h', 0, 0, 0);
        CHECK.is("beyond the rim is no body", full.volume(), 512 - 216);
        CHECK.is("inner squares", full.squares(1, 0), 36);
        CHECK.is("two shells", full.euler(), 4);
    }

    private static void pushes() {
        int[][] ends = {{3, 4, 4}, {5, 4, 4}, {4, 3, 4}, {4, 5, 4}, {4, 4, 3}, {4, 4, 5}};
        for (int side = 0; side < 6; side++) {
            Solidhearth x = box(4, 4, 4, 1, 1, 1);
            x.addFeature('e', 0, side, 1);
            CHECK.is("pushed at " + side, x.has(ends[side][0], ends[side][1], ends[side][2]), true);
            CHECK.is("one cell", x.volume(), 2);
            CHECK.is("its end", x.nameOf(ends[side][0], ends[side][1], ends[side][2], side), 1);
            CHECK.is("its foot", x.nameOf(4, 4, 4, side ^ 1), 0);
        }
        Solidhearth x = box(1, 1, 5, 1, 1, 1);
        x.addFeature('e', 0, 5, 20);
        CHECK.is("up to the rim", x.volume(), 3);
        CHECK.is("the square at the rim", x.nameOf(1, 1, 7, 5), 1);
        x.addFeature('b', 1, 1, 3);
        x.addFeature('e', 0, 4, 3);
        CHECK.is("through what is there already", cells(x), "112 113 114 115 116 117");
    }

    private static void names() {
        Solidhearth x = box(0, 0, 0, 2, 1, 1);
        x.addFeature('b', 2, 0, 0);
        CHECK.is("the square of the first box", x.nameOf(1, 0, 0, 3), 0);
        CHECK.is("that of the second one", x.nameOf(2, 0, 0, 3), 1);
        CHECK.fails("between them none", NoSuchElementException.class, () -> x.nameOf(1, 0, 0, 1));
        CHECK.is("at the end", x.nameOf(2, 0, 0, 1), 1);
        x.addFeature('c', 2, 0, 0);
        CHECK.is("a square that comes back has the name of what made it", x.nameOf(1, 0, 0, 1), 2);
        CHECK.is("the others keep theirs", x.nameOf(0, 0, 0, 0), 0);
        x.addFeature('b', 0, 0, 0);
        CHECK.is("laid on what is there", x.squares(3, 5), 0);
        CHECK.is("the names outlive it", x.squares(0, 5), 2);
        CHECK.is("squares of 0 to the left", x.squares(0, 0), 1);
        CHECK.is("squares of 0 to the right", x.squares(0, 1), 0);
        CHECK.is("squares of 2 to the right", x.squares(2, 1), 1);
        CHECK.is("a number that was not given", x.squares(39, 5), 0);
        CHECK.fails("no cell of the body", NoSuchElementException.class, () -> x.nameOf(5, 5, 5, 0));
        CHECK.fails("no cell, told first", IndexOutOfBoundsException.class, () -> x.nameOf(0, 0, 8, 6));
        CHECK.fails("side 6", IllegalArgumentException.class, () -> x.nameOf(5, 5, 5, 6));
        CHECK.fails("side -1", IllegalArgumentException.class, () -> x.nameOf(0, 0, 0, -1));
        CHECK.fails("squares of -1", IllegalArgumentException.class, () -> x.squares(-1, 0));
        CHECK.fails("squares of 40", IllegalArgumentException.class, () -> x.squares(40, 0));
        CHECK.fails("squares at 6", IllegalArgumentException.class, () -> x.squares(0, 6));
        CHECK.fails("squares at -1", IllegalArgumentException.class, () -> x.squares(0, -1));
    }

    private static void namesFollowTheRow() {
        Solidhearth x = box(0, 0, 0, 2, 2, 2);
        x.addFeature('b', 0, 0, 0);
        x.setSize(1, 3, 2, 2);
        CHECK.is("the first one named it", x.nameOf(0, 0, 0, 0), 0);
        x.move(1, 0);
        CHECK.is("now the other one is the first", x.nameOf(0, 0, 0, 0), 1);
        CHECK.is("nothing is left for it", x.squares(0, 0), 0);
        x.putOff(1, true);
        CHECK.is("but when that is put off", x.squares(0, 0), 4);
        x.setBar(0);
        CHECK.is("nothing behind the bar", x.squares(0, 0), 0);
    }

    private static void wrongCells() {
        Solidhearth x = new Solidhearth();
        for (int wrong : new int[] {-1, 8, Integer.MIN_VALUE, Integer.MAX_VALUE}) {
            CHECK.fails("has x", IndexOutOfBoundsException.class, () -> x.has(wrong, 0, 0));
            CHECK.fails("has y", IndexOutOfBoundsException.class, () -> x.has(0, wrong, 0));
            CHECK.fails("has z", IndexOutOfBoundsException.class, () -> x.has(0, 0, wrong));
            CHECK.fails("hasAnew x", IndexOutOfBoundsException.class, () -> x.hasAnew(wrong, 0, 0));
            CHECK.fails("hasAnew y", IndexOutOfBoundsException.class, () -> x.hasAnew(0, wrong, 0));
            CHECK.fails("hasAnew z", IndexOutOfBoundsException.class, () -> x.hasAnew(0, 0, wrong));
            CHECK.fails("nameOf x", IndexOutOfBoundsException.class, () -> x.nameOf(wrong, 0, 0, 0));
            CHECK.fails("nameOf y", IndexOutOfBoundsException.class, () -> x.nameOf(0, wrong, 0, 0));
            CHECK.fails("nameOf z", IndexOutOfBoundsException.class, () -> x.nameOf(0, 0, wrong, 0));
        }
    }

    private static void measures() {
        Solidhearth x = box(1, 2, 3, 2, 3, 4);
        CHECK.is("volume", x.volume(), 24);
        CHECK.is("area", x.area(), 52);
        CHECK.is("bodies", x.bodies(), 1);
        CHECK.is("euler", x.euler(), 2);
        CHECK.is("centre 0", x.centre(0), 1.5);
        CHECK.is("centre 1", x.centre(1), 3.0);
        CHECK.is("centre 2", x.centre(2), 4.5);
        CHECK.is("filled", x.filled(), 24f / 512f);
        CHECK.fails("centre 3", IllegalArgumentException.class, () -> x.centre(3));
        CHECK.fails("centre -1", IllegalArgumentException.class, () -> x.centre(-1));
        x.putOff(0, true);
        CHECK.fails("no axis, told first", IllegalArgumentException.class, () -> x.centre(3));
        CHECK.fails("no cells", ArithmeticException.class, () -> x.centre(0));
        CHECK.is("euler of nothing", x.euler(), 0);
        CHECK.is("bodies of nothing", x.bodies(), 0);
        Solidhearth third = box(0, 0, 0, 2, 1, 1);
        third.addFeature('b', 7, 0, 0);
        CHECK.is("a mean that is no short number", third.centre(0), 8.0 / 3.0);
        CHECK.is("all", box(-1, -1, -1, 20, 20, 20).filled(), 1.0f);
    }

    private static void eulerOfShapes() {
        Solidhearth ring = box(0, 0, 0, 3, 3, 1);
        add(ring, 'c', new int[] {1, 1, 0}, new int[] {1, 1, 1});
        CHECK.is("a ring", ring.euler(), 0);
        Solidhearth edge = box(0, 0, 0, 1, 1, 1);
        edge.addFeature('b', 1, 1, 0);
        CHECK.is("two cells with an edge in common", edge.euler(), 16 - 2 - (24 - 1) + 12);
        CHECK.is("hang together by sides alone", edge.bodies(), 2);
        Solidhearth corner = box(6, 6, 6, 1, 1, 1);
        corner.addFeature('b', 7, 7, 7);
        CHECK.is("two cells with a corner in common", corner.euler(), 3);
        CHECK.is("they are two", corner.bodies(), 2);
        Solidhearth apart = box(0, 0, 0, 1, 1, 1);
        apart.addFeature('b', 7, 0, 0);
        apart.addFeature('b', 0, 1, 0);
        CHECK.is("the end of a line is no neighbour of the next one's head", apart.bodies(), 2);
        CHECK.is("two apart", apart.euler(), 4);
    }

    private static void manyBodies() {
        Solidhearth x = box(0, 0, 0, 1, 1, 1);
        add(x, 'p', new int[] {1, 1, 0}, new int[] {7, 1, 1});
        add(x, 'p', new int[] {2, 0, 0}, new int[] {7, 1, 1});
        add(x, 'p', new int[] {-2, 0, 0}, new int[] {7, 1, 1});
        add(x, 'p', new int[] {0, 1, 1}, new int[] {7, 1, 1});
        add(x, 'p', new int[] {0, -1, 1}, new int[] {7, 1, 1});
        add(x, 'p', new int[] {0, 0, -2}, new int[] {7, 1, 1});
        CHECK.is("every other cell", x.volume(), 256);
        CHECK.is("each for itself", x.bodies(), 256);
        CHECK.is("area", x.area(), 1536);
        CHECK.is("lines", x.lines(2, true), 2 * 7 * 8 + 4 * 8);
    }

    public static void main(String[] args) {
        boxes();
        mirrors();
        patterns();
        farPatterns();
        aLongWay();
        hollows();
        pushes();
        names();
        namesFollowTheRow();
        wrongCells();
        measures();
        eulerOfShapes();
        manyBodies();
        CHECK.end();
    }
}
