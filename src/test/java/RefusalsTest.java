import java.util.NoSuchElementException;
import java.util.function.Function;
import java.util.function.Supplier;

/** Each call that is refused: what it throws, which exception is told first, and that it changes nothing. */
public final class RefusalsTest {
    private static final Check CHECK = new Check();
    private static final Class<IllegalArgumentException> ARGUMENT = IllegalArgumentException.class;
    private static final Class<IllegalStateException> STATE = IllegalStateException.class;
    private static final Class<IndexOutOfBoundsException> INDEX = IndexOutOfBoundsException.class;
    private static final Class<NoSuchElementException> ELEMENT = NoSuchElementException.class;
    private static final Class<UnsupportedOperationException> UNSUPPORTED = UnsupportedOperationException.class;
    private static final Class<ArithmeticException> ARITHMETIC = ArithmeticException.class;

    private static final int[] NO_TERMS = {-21, 21, 99, 108, Integer.MIN_VALUE, Integer.MAX_VALUE};
    private static final int[] NO_WAYS = {-21, 21, Integer.MIN_VALUE, Integer.MAX_VALUE};
    private static final int[] NO_AXES = {-1, 3, Integer.MIN_VALUE, Integer.MAX_VALUE};
    private static final int[] NO_SIDES = {-1, 6, Integer.MIN_VALUE, Integer.MAX_VALUE};
    private static final int[] NO_CELLS = {-1, 8, Integer.MIN_VALUE, Integer.MAX_VALUE};
    /** In the rich scene 6 is gone and 8 was not given yet. */
    private static final int[] NO_FEATURES = {-1, 6, 8, 39, 40, 100, Integer.MIN_VALUE, Integer.MAX_VALUE};
    private static final int[] NO_PARTS = {-1, 4, 6, Integer.MIN_VALUE, Integer.MAX_VALUE};

    /** The features 0 1 2 3 | 4 5 7, where 4 is put off, and 3, 4 and 5 need 0, 1 and 2; four parts. */
    private static Solidhearth rich() {
        Solidhearth x = new Solidhearth();
        x.setNumber(0, 2, '+', 0);
        x.setNumber(1, 100, '*', 2);
        x.setNumber(2, 101, '-', 4);
        x.addFeature('b', 1, 1, 1);
        x.setSize(0, 4, 4, 100);
        x.addFeature('b', 2, 2, 3);
        x.addFeature('c', 0, 0, 1);
        x.setSize(2, 2, 2, 1);
        x.addFeature('e', 102, 5, 1);
        x.addFeature('e', 1, 5, 2);
        x.addFeature('e', 2, 4, 1);
        x.putOff(4, true);
        x.addFeature('b', 6, 6, 6);
        x.remove(6);
        x.addFeature('p', 3, 0, 0);
        x.setBar(4);
        x.addPart(0, 0, 0);
        x.addPart(2, 1, -1);
        x.addPart(-3, 20, -20);
        x.addPart(4, 4, 4);
        x.mate(0, 0, 1, 1);
        x.mate(0, 1, -1, 3);
        x.mate(1, 2, 3, 5);
        x.freeze(2, true);
        return x;
    }

    /** 12 features, the last one of which tells the number that would be given next; 6 parts and 12 mates. */
    private static Solidhearth full() {
        Solidhearth x = new Solidhearth();
        for (int feature = 0; feature < 11; feature++) {
            x.addFeature('b', feature % 8, feature / 4, 1);
        }
        x.addFeature('e', 12, 5, 1);
        for (int part = 0; part < 6; part++) {
            x.addPart(part, -part, 0);
        }
        for (int axis = 0; axis < 2; axis++) {
            for (int part = 0; part < 6; part++) {
                x.mate(axis, part, part - 1, 1);
            }
        }
        return x;
    }

    /** All 40 numbers are given, and two features are left. */
    private static Solidhearth used() {
        Solidhearth x = new Solidhearth();
        for (int feature = 0; feature < 38; feature++) {
            x.addFeature('b', 0, 0, 0);
            x.remove(feature);
        }
        x.setNumber(0, 19, '*', 2);
        x.addFeature('b', 1, 1, 1);
        x.addFeature('e', 100, 5, 1);
        return x;
    }

    private static void refused(String what, Supplier<Solidhearth> scene, Class<? extends RuntimeException> due,
            Function<Solidhearth, Object> call) {
        Solidhearth asked = scene.get();
        CHECK.fails(what, due, () -> call.apply(asked));
        Witness after = new Witness(asked);
        Witness without = new Witness(scene.get());
        CHECK.is(what + " changes no answer", after.asked(), without.asked());
        CHECK.is("the machine throws in no answer", after.isOfMachine(), false);
        CHECK.is(what + " changes nothing for later calls", after.changed(), without.changed());
        CHECK.is("the machine throws in no change", after.isOfMachine(), false);
    }

    private static void refused(String what, Class<? extends RuntimeException> due,
            Function<Solidhearth, Object> call) {
        refused(what, RefusalsTest::rich, due, call);
    }

    private static void settingNumbers() {
        for (int wrong : new int[] {-1, 8, 100, Integer.MIN_VALUE, Integer.MAX_VALUE}) {
            refused("setNumber of name " + wrong, ARGUMENT, x -> x.setNumber(wrong, 1, '+', 1));
            refused("number " + wrong, ARGUMENT, x -> x.number(wrong));
        }
        for (int wrong : NO_TERMS) {
            refused("setNumber with first " + wrong, ARGUMENT, x -> x.setNumber(0, wrong, '+', 1));
            refused("setNumber with second " + wrong, ARGUMENT, x -> x.setNumber(0, 1, '+', wrong));
        }
        for (char wrong : new char[] {0, ' ', '/', '%', ',', 'x', (char) 171, (char) 65535}) {
            refused("setNumber with operation " + (int) wrong, ARGUMENT, x -> x.setNumber(0, 1, wrong, 1));
        }
        refused("itself first", UNSUPPORTED, x -> x.setNumber(5, 105, '+', 0));
        refused("itself second", UNSUPPORTED, x -> x.setNumber(5, 0, '-', 105));
        refused("itself through another", UNSUPPORTED, x -> x.setNumber(0, 101, '+', 1));
        refused("itself through two others", UNSUPPORTED, x -> x.setNumber(0, 1, '*', 102));
        refused("3 would need 5", UNSUPPORTED, x -> x.setNumber(2, 5, '+', 0));
        refused("3 would need 4, put off", UNSUPPORTED, x -> x.setNumber(2, 4, '+', 0));
        refused("3 would need 7, the last one", UNSUPPORTED, x -> x.setNumber(2, 7, '+', 0));
        refused("3 would need 4 through others", UNSUPPORTED, x -> x.setNumber(0, 9, '-', 5));
        refused("no such name before a ring", ARGUMENT, x -> x.setNumber(8, 101, '+', 1));
        refused("no such operation before a ring", ARGUMENT, x -> x.setNumber(0, 101, '/', 1));
        refused("no such term before a ring", ARGUMENT, x -> x.setNumber(0, 101, '+', 21));
        refused("no such term before a need", ARGUMENT, x -> x.setNumber(2, 5, '+', 21));
    }

    private static void addingFeatures() {
        for (char wrong : new char[] {0, 'a', 'B', 'C', 'I', 'M', 'P', 'H', 'E', 'f', '-', (char) 354}) {
            refused("kind " + (int) wrong, ARGUMENT, x -> x.addFeature(wrong, 0, 0, 0));
        }
        for (int wrong : NO_TERMS) {
            refused("first dimension " + wrong, ARGUMENT, x -> x.addFeature('b', wrong, 0, 0));
            refused("second dimension " + wrong, ARGUMENT, x -> x.addFeature('h', 0, wrong, 0));
            refused("third dimension " + wrong, ARGUMENT, x -> x.addFeature('m', 0, 0, wrong));
        }
        refused("12 are there", RefusalsTest::full, STATE, x -> x.addFeature('b', 0, 0, 0));
        refused("40 were given", RefusalsTest::used, STATE, x -> x.addFeature('b', 0, 0, 0));
        refused("no such kind before 12", RefusalsTest::full, ARGUMENT, x -> x.addFeature('a', 0, 0, 0));
        refused("no such dimension before 12", RefusalsTest::full, ARGUMENT, x -> x.addFeature('b', 0, 0, 21));
        refused("no such kind before 40", RefusalsTest::used, ARGUMENT, x -> x.addFeature('a', 0, 0, 0));
        refused("no such dimension before 40", RefusalsTest::used, ARGUMENT, x -> x.addFeature('b', 0, 99, 0));
        refused("needed ahead", RefusalsTest::needingTheNext, UNSUPPORTED, x -> x.addFeature('b', 0, 0, 0));
        refused("no such kind before that", RefusalsTest::needingTheNext, ARGUMENT,
                x -> x.addFeature('a', 0, 0, 0));
        refused("no such dimension before that", RefusalsTest::needingTheNext, ARGUMENT,
                x -> x.addFeature('b', 108, 0, 0));
    }

    private static Solidhearth needingTheNext() {
        Solidhearth x = rich();
        x.setNumber(2, 8, '+', 0);
        return x;
    }

    private static void changingFeatures() {
        for (int wrong : NO_FEATURES) {
            refused("setSize of " + wrong, ELEMENT, x -> x.setSize(wrong, 2, 2, 2));
            refused("no such feature before a dimension, " + wrong, ELEMENT, x -> x.setSize(wrong, 2, 2, 21));
            refused("putOff of " + wrong, ELEMENT, x -> x.putOff(wrong, true));
            refused("remove of " + wrong, ELEMENT, x -> x.remove(wrong));
            refused("move of " + wrong, ELEMENT, x -> x.move(wrong, 0));
            refused("no such feature before a place, " + wrong, ELEMENT, x -> x.move(wrong, 7));
            refused("place of " + wrong, ELEMENT, x -> x.place(wrong));
            refused("state of " + wrong, ELEMENT, x -> x.state(wrong));
        }
        for (int wrong : NO_TERMS) {
            refused("setSize with first " + wrong, ARGUMENT, x -> x.setSize(0, wrong, 2, 2));
            refused("setSize with second " + wrong, ARGUMENT, x -> x.setSize(0, 2, wrong, 2));
            refused("setSize with third " + wrong, ARGUMENT, x -> x.setSize(0, 2, 2, wrong));
        }
        refused("remove of one that 3 needs through a number", UNSUPPORTED, x -> x.remove(0));
        refused("remove of one that is needed by one put off", UNSUPPORTED, x -> x.remove(1));
        refused("remove of one that is needed behind the bar", UNSUPPORTED, x -> x.remove(2));
    }

    private static void movingFeatures() {
        for (int wrong : new int[] {-1, 7, 8, 12, Integer.MIN_VALUE, Integer.MAX_VALUE}) {
            refused("move to " + wrong, INDEX, x -> x.move(7, wrong));
            refused("no such place before a need, " + wrong, INDEX, x -> x.move(0, wrong));
        }
        refused("move to 12 of 12", RefusalsTest::full, INDEX, x -> x.move(0, 12));
        refused("move of what is needed, right behind", UNSUPPORTED, x -> x.move(2, 5));
        refused("move of what is needed, to the end", UNSUPPORTED, x -> x.move(0, 6));
        refused("move of what is needed by one put off", UNSUPPORTED, x -> x.move(1, 4));
        refused("move of what needs, right ahead", UNSUPPORTED, x -> x.move(5, 2));
        refused("move of what needs, to the front", UNSUPPORTED, x -> x.move(3, 0));
        refused("move of what needs and is put off", UNSUPPORTED, x -> x.move(4, 1));
        for (int wrong : new int[] {-1, 8, 12, 13, Integer.MIN_VALUE, Integer.MAX_VALUE}) {
            refused("setBar to " + wrong, INDEX, x -> x.setBar(wrong));
        }
        refused("setBar to 13 of 12", RefusalsTest::full, INDEX, x -> x.setBar(13));
        refused("setBar to 1 of none", Solidhearth::new, INDEX, x -> x.setBar(1));
    }

    private static void askingOfBodies() {
        for (int wrong : NO_CELLS) {
            refused("has, x " + wrong, INDEX, x -> x.has(wrong, 1, 1));
            refused("has, y " + wrong, INDEX, x -> x.has(1, wrong, 1));
            refused("has, z " + wrong, INDEX, x -> x.has(1, 1, wrong));
            refused("hasAnew, x " + wrong, INDEX, x -> x.hasAnew(wrong, 1, 1));
            refused("hasAnew, y " + wrong, INDEX, x -> x.hasAnew(1, wrong, 1));
            refused("hasAnew, z " + wrong, INDEX, x -> x.hasAnew(1, 1, wrong));
            refused("nameOf, x " + wrong, INDEX, x -> x.nameOf(wrong, 1, 1, 0));
            refused("nameOf, y " + wrong, INDEX, x -> x.nameOf(1, wrong, 1, 0));
            refused("nameOf, z " + wrong, INDEX, x -> x.nameOf(1, 1, wrong, 0));
            refused("no such cell before a side, " + wrong, INDEX, x -> x.nameOf(1, 1, wrong, 6));
        }
        for (int wrong : NO_SIDES) {
            refused("nameOf at side " + wrong, ARGUMENT, x -> x.nameOf(1, 1, 1, wrong));
            refused("no such side before no square, " + wrong, ARGUMENT, x -> x.nameOf(7, 7, 7, wrong));
            refused("squares at side " + wrong, ARGUMENT, x -> x.squares(0, wrong));
        }
        for (int wrong : new int[] {-1, 40, 100, Integer.MIN_VALUE, Integer.MAX_VALUE}) {
            refused("squares of " + wrong, ARGUMENT, x -> x.squares(wrong, 0));
        }
        refused("no square outside of the body", ELEMENT, x -> x.nameOf(0, 0, 0, 0));
        refused("no square within the body", ELEMENT, x -> x.nameOf(3, 3, 1, 5));
        for (int wrong : NO_AXES) {
            refused("centre along " + wrong, ARGUMENT, x -> x.centre(wrong));
            refused("no such axis before no cells, " + wrong, Solidhearth::new, ARGUMENT, x -> x.centre(wrong));
        }
        for (int axis = 0; axis < 3; axis++) {
            int along = axis;
            refused("centre of nothing", Solidhearth::new, ARITHMETIC, x -> x.centre(along));
        }
    }

    private static void handlingParts() {
        for (int wrong : NO_WAYS) {
            refused("addPart at x " + wrong, ARGUMENT, x -> x.addPart(wrong, 0, 0));
            refused("addPart at y " + wrong, ARGUMENT, x -> x.addPart(0, wrong, 0));
            refused("addPart at z " + wrong, ARGUMENT, x -> x.addPart(0, 0, wrong));
            refused("no such move before 6 parts, " + wrong, RefusalsTest::full, ARGUMENT,
                    x -> x.addPart(0, 0, wrong));
            refused("drag by " + wrong, ARGUMENT, x -> x.drag(3, 0, wrong));
            refused("no such way before the ground, " + wrong, ARGUMENT, x -> x.drag(0, 0, wrong));
        }
        refused("6 parts are there", RefusalsTest::full, STATE, x -> x.addPart(0, 0, 0));
        for (int wrong : NO_PARTS) {
            refused("freeze of " + wrong, INDEX, x -> x.freeze(wrong, true));
            refused("moved of " + wrong, INDEX, x -> x.moved(wrong, 0));
            refused("no such part before an axis, moved " + wrong, INDEX, x -> x.moved(wrong, 3));
            refused("drag of " + wrong, INDEX, x -> x.drag(wrong, 0, 1));
            refused("no such part before an axis, drag " + wrong, INDEX, x -> x.drag(wrong, 3, 21));
            refused("clashes of " + wrong, INDEX, x -> x.clashes(wrong, 0));
            refused("clashes with " + wrong, INDEX, x -> x.clashes(0, wrong));
            refused("no such part before the same, " + wrong, INDEX, x -> x.clashes(wrong, wrong));
        }
        for (int wrong : NO_AXES) {
            refused("moved along " + wrong, ARGUMENT, x -> x.moved(0, wrong));
            refused("drag along " + wrong, ARGUMENT, x -> x.drag(0, wrong, 1));
        }
        refused("drag of one tied to the ground", UNSUPPORTED, x -> x.drag(1, 0, 1));
        refused("drag of one tied to it through another", UNSUPPORTED, x -> x.drag(0, 0, -20));
        refused("clashes with itself", ARGUMENT, x -> x.clashes(3, 3));
    }

    private static void mating() {
        for (int wrong : NO_PARTS) {
            refused("mate of " + wrong, INDEX, x -> x.mate(2, wrong, 0, 0));
            refused("no such part before an axis, " + wrong, INDEX, x -> x.mate(3, wrong, 0, 0));
            refused("no such part before the same, " + wrong, INDEX, x -> x.mate(2, wrong, wrong, 0));
        }
        for (int wrong : new int[] {-2, 4, 6, Integer.MIN_VALUE, Integer.MAX_VALUE}) {
            refused("mate with " + wrong, INDEX, x -> x.mate(2, 0, wrong, 0));
            refused("no such other before a distance, " + wrong, INDEX, x -> x.mate(2, 0, wrong, 21));
        }
        for (int wrong : NO_AXES) {
            refused("mate along " + wrong, ARGUMENT, x -> x.mate(wrong, 0, 1, 1));
        }
        for (int wrong : NO_WAYS) {
            refused("mate at " + wrong, ARGUMENT, x -> x.mate(2, 0, 1, wrong));
            refused("no such distance before a tie, " + wrong, ARGUMENT, x -> x.mate(0, 0, 1, wrong));
            refused("no such distance before 12, " + wrong, RefusalsTest::full, ARGUMENT,
                    x -> x.mate(2, 0, 1, wrong));
        }
        refused("mate with itself", ARGUMENT, x -> x.mate(2, 1, 1, 0));
        refused("mate that is there already", UNSUPPORTED, x -> x.mate(0, 0, 1, 1));
        refused("mate that is there the other way round", UNSUPPORTED, x -> x.mate(0, 1, 0, -1));
        refused("mate against one", UNSUPPORTED, x -> x.mate(0, 0, 1, 2));
        refused("mate that follows through others", UNSUPPORTED, x -> x.mate(0, 0, -1, 4));
        refused("mate against others", UNSUPPORTED, x -> x.mate(0, 0, -1, 5));
        refused("the ground again", UNSUPPORTED, x -> x.mate(0, 1, -1, 3));
        refused("12 mates are there", RefusalsTest::full, STATE, x -> x.mate(2, 0, 1, 0));
        refused("12 mates, and the ground", RefusalsTest::full, STATE, x -> x.mate(2, 5, -1, 20));
        refused("a tie before 12", RefusalsTest::full, UNSUPPORTED, x -> x.mate(1, 5, 0, 5));
        refused("no such part before 12", RefusalsTest::full, INDEX, x -> x.mate(2, 6, 0, 5));
        refused("no such axis before 12", RefusalsTest::full, ARGUMENT, x -> x.mate(3, 5, 0, 5));
    }

    private static void viewing() {
        for (int wrong : NO_AXES) {
            refused("depth along " + wrong, ARGUMENT, x -> x.depth(wrong, true, 0, 0));
            refused("no such axis before a column, " + wrong, ARGUMENT, x -> x.depth(wrong, false, 8, -1));
            refused("lines up along " + wrong, ARGUMENT, x -> x.lines(wrong, true));
            refused("lines down along " + wrong, ARGUMENT, x -> x.lines(wrong, false));
        }
        for (int wrong : NO_CELLS) {
            for (int axis = 0; axis < 3; axis++) {
                int along = axis;
                refused("depth at u " + wrong, INDEX, x -> x.depth(along, true, wrong, 2));
                refused("depth at v " + wrong, INDEX, x -> x.depth(along, false, 2, wrong));
            }
        }
    }

    public static void main(String[] args) {
        settingNumbers();
        addingFeatures();
        changingFeatures();
        movingFeatures();
        askingOfBodies();
        handlingParts();
        mating();
        viewing();
        CHECK.end();
    }
}
