/** Promises 30 to 32: depth, lines and isSound. */
public final class ViewsTest {
    private static final Check CHECK = new Check();

    private static void depths() {
        Solidhearth x = BodiesTest.box(1, 2, 4, 1, 1, 1);
        CHECK.is("along 0 up", x.depth(0, true, 2, 4), 1);
        CHECK.is("along 0 down", x.depth(0, false, 2, 4), 6);
        CHECK.is("along 1 up", x.depth(1, true, 1, 4), 2);
        CHECK.is("along 1 down", x.depth(1, false, 1, 4), 5);
        CHECK.is("along 2 up", x.depth(2, true, 1, 2), 4);
        CHECK.is("along 2 down", x.depth(2, false, 1, 2), 3);
        CHECK.is("the columns are not changed over", x.depth(2, false, 2, 1), 8);
        CHECK.is("along 0 the lower axis is 1", x.depth(0, true, 4, 2), 8);
        CHECK.is("along 1 the lower axis is 0", x.depth(1, true, 4, 1), 8);
        x.addFeature('b', 1, 2, 6);
        CHECK.is("the first one from above", x.depth(2, false, 1, 2), 1);
        CHECK.is("the first one from below", x.depth(2, true, 1, 2), 4);
        x.setBar(0);
        CHECK.is("none", x.depth(2, true, 1, 2), 8);
    }

    private static void wrongColumns() {
        Solidhearth x = new Solidhearth();
        CHECK.fails("axis 3, told first", IllegalArgumentException.class, () -> x.depth(3, true, 8, 8));
        CHECK.fails("axis -1", IllegalArgumentException.class, () -> x.depth(-1, true, 0, 0));
        for (int wrong : new int[] {-1, 8, Integer.MIN_VALUE, Integer.MAX_VALUE}) {
            CHECK.fails("u " + wrong, IndexOutOfBoundsException.class, () -> x.depth(0, true, wrong, 0));
            CHECK.fails("v " + wrong, IndexOutOfBoundsException.class, () -> x.depth(0, false, 0, wrong));
        }
        CHECK.fails("lines 3", IllegalArgumentException.class, () -> x.lines(3, true));
        CHECK.fails("lines -1", IllegalArgumentException.class, () -> x.lines(-1, false));
    }

    private static void lines() {
        CHECK.is("nothing", new Solidhearth().lines(0, true), 0);
        Solidhearth inside = BodiesTest.box(2, 2, 2, 2, 3, 4);
        CHECK.is("round the sides along 0", inside.lines(0, true), 14);
        CHECK.is("along 1", inside.lines(1, false), 12);
        CHECK.is("along 2", inside.lines(2, true), 10);
        Solidhearth corner = BodiesTest.box(7, 0, 7, 1, 1, 1);
        CHECK.is("two sides at the rim", corner.lines(0, true), 4);
        CHECK.is("and from behind", corner.lines(0, false), 4);
        CHECK.is("all round the space", BodiesTest.box(-1, -1, -1, 20, 20, 20).lines(1, true), 32);
        Solidhearth stairs = BodiesTest.box(0, 0, 0, 2, 1, 1);
        stairs.addFeature('b', 0, 0, 1);
        CHECK.is("a step seen from above", stairs.lines(2, false), 7);
        CHECK.is("but not from below", stairs.lines(2, true), 6);
    }

    private static void soundness() {
        Solidhearth x = BodiesTest.box(0, 0, 0, 3, 3, 3);
        x.addFeature('e', 0, 1, 2);
        x.addFeature('c', 1, 1, 1);
        x.addPart(1, 2, 3);
        x.addPart(4, 5, 6);
        x.mate(0, 0, 1, 7);
        x.mate(1, 0, -1, 7);
        CHECK.is("with all that there is", x.isSound(), true);
        x.setBar(1);
        x.putOff(0, true);
        x.setBar(3);
        x.move(2, 0);
        x.drag(0, 0, 9);
        CHECK.is("after changes", x.isSound(), true);
        CHECK.fails("after one that is refused", UnsupportedOperationException.class, () -> x.move(1, 1));
        CHECK.is("it holds too", x.isSound(), true);
    }

    public static void main(String[] args) {
        depths();
        wrongColumns();
        lines();
        soundness();
        CHECK.end();
    }
}
