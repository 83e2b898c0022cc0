import java.util.NoSuchElementException;

/** Promises 4 to 12: the row of features, the bar, states and work. */
public final class FeaturesTest {
    private static final Check CHECK = new Check();

    private static void addingIsBounded() {
        Solidhearth x = new Solidhearth();
        for (int feature = 0; feature < 7; feature++) {
            CHECK.is("a kind", x.addFeature("bcimphe".charAt(feature), -20, 20, 107), feature);
        }
        for (char kind : new char[] {'a', 'B', 0, 'E', (char) 255, '-'}) {
            CHECK.fails("no kind " + (int) kind, IllegalArgumentException.class, () -> x.addFeature(kind, 0, 0, 0));
        }
        for (int wrong : new int[] {21, -21, 99, 108, Integer.MIN_VALUE, Integer.MAX_VALUE}) {
            CHECK.fails("first " + wrong, IllegalArgumentException.class, () -> x.addFeature('b', wrong, 0, 0));
            CHECK.fails("second " + wrong, IllegalArgumentException.class, () -> x.addFeature('b', 0, wrong, 0));
            CHECK.fails("third " + wrong, IllegalArgumentException.class, () -> x.addFeature('b', 0, 0, wrong));
        }
        for (int feature = 7; feature < 12; feature++) {
            CHECK.is("the next number", x.addFeature('h', 0, 0, 0), feature);
        }
        CHECK.fails("a wrong kind is told first", IllegalArgumentException.class, () -> x.addFeature('a', 0, 0, 0));
        CHECK.fails("12 are there", IllegalStateException.class, () -> x.addFeature('b', 0, 0, 0));
    }

    private static void numbersAreGivenOnce() {
        Solidhearth x = new Solidhearth();
        for (int feature = 0; feature < 39; feature++) {
            CHECK.is("a number that was not given", x.addFeature('b', 0, 0, 0), feature);
            CHECK.is("none is left", x.remove(feature), 0);
        }
        CHECK.is("the last number", x.addFeature('b', 0, 0, 0), 39);
        CHECK.fails("40 were given", IllegalStateException.class, () -> x.addFeature('b', 0, 0, 0));
        CHECK.is("the last name", x.nameOf(0, 0, 0, 5), 39);
        CHECK.is("the last number's squares", x.squares(39, 5), 1);
        CHECK.fails("the first one is gone", NoSuchElementException.class, () -> x.state(0));
    }

    private static void aNewOneMayBeNeededAhead() {
        Solidhearth x = new Solidhearth();
        x.addFeature('e', 2, 5, 1);
        CHECK.is("another number than the needed one", x.addFeature('b', 0, 0, 0), 1);
        CHECK.fails("the needed one would stand behind", UnsupportedOperationException.class,
                () -> x.addFeature('b', 0, 0, 0));
        CHECK.fails("even if this is put off", UnsupportedOperationException.class,
                () -> x.putOff(0, true) ? x.addFeature('b', 0, 0, 0) : 0);
        x.remove(0);
        CHECK.is("a number that was not given yet", x.addFeature('e', 2, 5, 1), 2);
        CHECK.is("it finds no square of itself", x.state(2), 'l');
    }

    private static void sizes() {
        Solidhearth x = new Solidhearth();
        x.addFeature('b', 0, 0, 0);
        CHECK.is("1 at first", x.volume(), 1);
        CHECK.is("the same", x.setSize(0, 1, 1, 1), 0);
        CHECK.is("the second one", x.setSize(0, 1, 2, 1), 1);
        CHECK.is("two of them", x.setSize(0, 3, 2, 2), 2);
        CHECK.is("all", x.setSize(0, 2, 1, 3), 3);
        CHECK.is("volume", x.volume(), 6);
        x.setNumber(4, 2, '+', 0);
        long work = x.worked();
        CHECK.is("another term for the same number", x.setSize(0, 104, 1, 3), 0);
        CHECK.is("is no work", x.worked(), work);
        x.setNumber(4, 5, '+', 0);
        CHECK.is("but counts from now on", x.volume(), 15);
        CHECK.is("back to a number", x.setSize(0, 2, 1, 3), 1);
        CHECK.fails("no feature, told first", NoSuchElementException.class, () -> x.setSize(1, 21, 0, 0));
        CHECK.fails("feature -1", NoSuchElementException.class, () -> x.setSize(-1, 1, 1, 1));
        CHECK.fails("first", IllegalArgumentException.class, () -> x.setSize(0, 21, 1, 1));
        CHECK.fails("second", IllegalArgumentException.class, () -> x.setSize(0, 1, -21, 1));
        CHECK.fails("third", IllegalArgumentException.class, () -> x.setSize(0, 5, 5, 108));
        CHECK.is("unchanged by these", x.volume(), 6);
    }

    private static void removing() {
        Solidhearth x = new Solidhearth();
        x.addFeature('b', 0, 0, 0);
        x.addFeature('b', 2, 0, 0);
        x.addFeature('e', 1, 5, 2);
        CHECK.is("volume", x.volume(), 4);
        CHECK.fails("needed", UnsupportedOperationException.class, () -> x.remove(1));
        x.putOff(2, true);
        CHECK.fails("needed by one that is put off", UnsupportedOperationException.class, () -> x.remove(1));
        x.putOff(2, false);
        CHECK.is("the first one", x.remove(0), 2);
        CHECK.is("places move up", x.place(2), 1);
        CHECK.is("volume without it", x.volume(), 3);
        CHECK.fails("it is gone", NoSuchElementException.class, () -> x.remove(0));
        CHECK.fails("never given", NoSuchElementException.class, () -> x.remove(3));
        CHECK.fails("-1", NoSuchElementException.class, () -> x.remove(-1));
        CHECK.is("one that needs", x.remove(2), 1);
        CHECK.is("now it is not needed", x.remove(1), 0);
        CHECK.is("nothing is left", x.volume(), 0);
    }

    private static void moving() {
        Solidhearth x = new Solidhearth();
        x.addFeature('b', 0, 0, 0);
        x.setSize(0, 2, 2, 2);
        x.addFeature('c', 0, 0, 0);
        x.addFeature('b', 4, 4, 4);
        x.addFeature('e', 2, 0, 1);
        CHECK.is("volume", x.volume(), 9);
        CHECK.is("behind all", x.move(1, 3), 1);
        CHECK.is("place 0", x.place(0), 0);
        CHECK.is("place 2", x.place(2), 1);
        CHECK.is("place 3", x.place(3), 2);
        CHECK.is("place 1", x.place(1), 3);
        CHECK.is("to the front", x.move(1, 0), 3);
        CHECK.is("place 3 again", x.place(3), 3);
        CHECK.is("nothing is cut", x.volume(), 10);
        CHECK.is("where it stands", x.move(1, 0), 0);
        CHECK.fails("ahead of what it needs", UnsupportedOperationException.class, () -> x.move(3, 1));
        CHECK.fails("what is needed, behind", UnsupportedOperationException.class, () -> x.move(2, 3));
        CHECK.is("as before", x.place(2), 2);
        CHECK.is("as before too", x.place(3), 3);
        CHECK.fails("place 4", IndexOutOfBoundsException.class, () -> x.move(1, 4));
        CHECK.fails("place -1", IndexOutOfBoundsException.class, () -> x.move(1, -1));
        CHECK.fails("no feature, told first", NoSuchElementException.class, () -> x.move(4, 4));
    }

    private static void puttingOff() {
        Solidhearth x = new Solidhearth();
        x.addFeature('b', 0, 0, 0);
        x.addFeature('b', 1, 0, 0);
        CHECK.is("on already", x.putOff(0, false), false);
        CHECK.is("off", x.putOff(0, true), true);
        CHECK.is("off already", x.putOff(0, true), false);
        CHECK.is("without it", x.volume(), 1);
        CHECK.is("state", x.state(0), 'o');
        CHECK.is("worked", x.worked(), 3L);
        x.setBar(0);
        CHECK.is("off is told before the bar", x.state(0), 'o');
        CHECK.is("behind the bar", x.state(1), 'b');
        CHECK.is("on, behind the bar", x.putOff(0, false), true);
        CHECK.is("then behind the bar", x.state(0), 'b');
        CHECK.fails("no feature", NoSuchElementException.class, () -> x.putOff(2, true));
        CHECK.fails("no feature -1", NoSuchElementException.class, () -> x.putOff(-1, true));
        CHECK.fails("no state", NoSuchElementException.class, () -> x.state(2));
        CHECK.fails("no place", NoSuchElementException.class, () -> x.place(-1));
    }

    private static int barOf(Solidhearth x) {
        int bar = x.setBar(0);
        x.setBar(bar);
        return bar;
    }

    private static void theBar() {
        Solidhearth x = new Solidhearth();
        CHECK.fails("no place 1", IndexOutOfBoundsException.class, () -> x.setBar(1));
        x.addFeature('b', 0, 0, 0);
        x.addFeature('b', 2, 0, 0);
        x.addFeature('b', 4, 0, 0);
        CHECK.fails("place 4", IndexOutOfBoundsException.class, () -> x.setBar(4));
        CHECK.fails("place -1", IndexOutOfBoundsException.class, () -> x.setBar(-1));
        CHECK.is("behind all at first", x.setBar(1), 3);
        CHECK.is("one ahead", x.volume(), 1);
        x.addFeature('b', 6, 0, 0);
        CHECK.is("stays when one is added", barOf(x), 1);
        x.move(3, 0);
        CHECK.is("stays when one is moved", barOf(x), 1);
        CHECK.is("the moved one is ahead", x.has(6, 0, 0), true);
        CHECK.is("the other one is not", x.has(0, 0, 0), false);
        x.remove(3);
        CHECK.is("stays when one ahead is taken out", barOf(x), 1);
        CHECK.is("the next one is ahead", x.has(0, 0, 0), true);
        x.remove(2);
        CHECK.is("stays when one behind is taken out", barOf(x), 1);
        x.remove(1);
        CHECK.is("and is behind all now", barOf(x), 1);
        x.addFeature('b', 5, 0, 0);
        CHECK.is("so that it stays behind all", barOf(x), 2);
        x.setBar(1);
        x.setBar(2);
        x.addFeature('b', 7, 0, 0);
        CHECK.is("also if it was set there", barOf(x), 3);
        x.remove(0);
        CHECK.is("behind all when one is taken out", barOf(x), 2);
    }

    private static void faultsOfBoxes() {
        for (char kind : new char[] {'b', 'c', 'i'}) {
            Solidhearth x = new Solidhearth();
            x.addFeature('b', 0, 0, 0);
            x.addFeature(kind, 0, 0, 0);
            for (int wrong : new int[] {0, -1}) {
                x.setSize(1, wrong, 1, 1);
                CHECK.is(kind + " first " + wrong, x.state(1), 'x');
                x.setSize(1, 1, wrong, 1);
                CHECK.is(kind + " second " + wrong, x.state(1), 'x');
                x.setSize(1, 1, 1, wrong);
                CHECK.is(kind + " third " + wrong, x.state(1), 'x');
                CHECK.is(kind + " does nothing", x.volume(), 1);
            }
            x.setSize(1, 1, 1, 1);
            CHECK.is(kind + " is fit", x.state(1), '-');
        }
    }

    private static void faultsOfOthers() {
        Solidhearth x = new Solidhearth();
        x.addFeature('b', 0, 0, 0);
        x.addFeature('m', -1, 1, 1);
        x.addFeature('m', 3, 1, 1);
        x.addFeature('p', 1, 0, 0);
        x.setSize(3, -1, 0, 0);
        x.addFeature('e', 0, 6, 1);
        x.addFeature('e', 0, -1, 1);
        x.addFeature('e', 0, 0, -1);
        x.addFeature('e', 20, 6, 1);
        for (int feature = 1; feature < 8; feature++) {
            CHECK.is("unfit " + feature, x.state(feature), 'x');
        }
        CHECK.is("they do nothing", x.volume(), 1);
        x.setSize(3, 0, -5, -5);
        CHECK.is("a pattern of none", x.state(3), '-');
        CHECK.is("adds none", x.volume(), 1);
        x.addFeature('h', -20, -20, -20);
        CHECK.is("dimensions without meaning", x.state(8), '-');
        x.addFeature('e', 1, 0, 1);
        CHECK.is("no square is named so", x.state(9), 'l');
        x.addFeature('e', 0, 1, 0);
        CHECK.is("no cells are added, no fault", x.state(10), '-');
        x.addFeature('e', -20, 1, 0);
        CHECK.is("no feature has this number", x.state(11), 'l');
    }

    /** A number beyond 39 must not be taken for one that has the same low bits. */
    private static void numbersThatAreNeverGiven() {
        Solidhearth x = new Solidhearth();
        x.addFeature('b', 0, 0, 0);
        x.addFeature('e', 100, 1, 1);
        x.setNumber(0, 16, '*', 4);
        CHECK.is("64 is not 0", x.state(1), 'l');
        x.setNumber(0, -16, '*', 4);
        CHECK.is("-64 is not 0", x.state(1), 'l');
        x.setNumber(0, 0, '*', 4);
        CHECK.is("0 is", x.state(1), '-');
    }

    private static void faultsOfPieces() {
        Solidhearth x = new Solidhearth();
        x.addFeature('b', 0, 0, 0);
        x.setSize(0, 3, 3, 1);
        x.addFeature('b', 1, 1, 1);
        x.addFeature('e', 0, 5, 1);
        CHECK.is("a ring is one piece", x.state(2), '-');
        CHECK.is("it is lifted", x.volume(), 18);
        x.addFeature('c', 1, 0, 0);
        x.setSize(3, 1, 3, 8);
        x.addFeature('e', 0, 4, 1);
        CHECK.is("two strips are two", x.state(4), 'd');
        CHECK.is("nothing is added", x.volume(), 12);
        CHECK.is("pieces that touch by an edge alone", touchingByAnEdge().state(2), 'd');
    }

    private static Solidhearth touchingByAnEdge() {
        Solidhearth x = new Solidhearth();
        x.addFeature('b', 0, 0, 0);
        x.addFeature('p', 1, 1, 0);
        x.setSize(1, 2, 1, 1);
        x.addFeature('e', 1, 5, 1);
        return x;
    }

    private static void workOfEdits() {
        Solidhearth x = new Solidhearth();
        for (int feature = 0; feature < 4; feature++) {
            x.addFeature('b', 2 * feature, 0, 0);
        }
        CHECK.is("one by one", x.worked(), 4L);
        x.setSize(2, 1, 2, 1);
        CHECK.is("from place 2 on", x.worked(), 6L);
        x.putOff(1, true);
        CHECK.is("from place 1 on, without it", x.worked(), 8L);
        x.setSize(1, 1, 3, 1);
        CHECK.is("a size of one that is off", x.worked(), 10L);
        x.putOff(1, false);
        CHECK.is("from place 1 on, with it", x.worked(), 13L);
        x.move(3, 2);
        CHECK.is("the two that change places", x.worked(), 15L);
        x.move(3, 2);
        CHECK.is("no change", x.worked(), 15L);
        x.remove(2);
        CHECK.is("the last one is taken out", x.worked(), 15L);
        x.remove(0);
        CHECK.is("two move up", x.worked(), 17L);
        x.setSize(3, 1, 1, 0);
        CHECK.is("one that cannot be carried out", x.worked(), 18L);
        x.hasAnew(0, 0, 0);
        x.isSound();
        CHECK.is("questions are no work", x.worked(), 18L);
    }

    private static void workOfTheBar() {
        Solidhearth x = new Solidhearth();
        for (int feature = 0; feature < 5; feature++) {
            x.addFeature('b', feature, 0, 0);
        }
        x.setBar(2);
        CHECK.is("back is no work", x.worked(), 5L);
        x.setSize(3, 2, 2, 2);
        x.putOff(2, true);
        x.move(4, 2);
        x.addFeature('h', 0, 0, 0);
        CHECK.is("behind the bar nothing is", x.worked(), 5L);
        x.setBar(4);
        CHECK.is("the new ones ahead, but one that is off", x.worked(), 6L);
        x.setBar(6);
        CHECK.is("two more", x.worked(), 8L);
        x.setBar(0);
        x.setBar(6);
        CHECK.is("all anew, but one", x.worked(), 13L);
        x.setBar(3);
        x.remove(0);
        CHECK.is("two that move up, and one that is off", x.worked(), 15L);
        CHECK.is("it stands ahead of the bar", x.state(2), 'o');
    }

    private static void workOfNumbers() {
        Solidhearth x = new Solidhearth();
        x.setNumber(0, 2, '+', 0);
        x.setNumber(1, 100, '*', 2);
        x.addFeature('b', 0, 0, 0);
        x.addFeature('h', 0, 0, 101);
        x.addFeature('b', 0, 0, 0);
        x.setSize(2, 1, 1, 100);
        CHECK.is("worked", x.worked(), 4L);
        x.setNumber(0, 1, '+', 1);
        CHECK.is("the same number by another formula", x.worked(), 4L);
        x.setNumber(0, 3, '+', 0);
        CHECK.is("through another number, without meaning", x.worked(), 6L);
        x.setNumber(1, 6, '+', 0);
        CHECK.is("the number that it is already", x.worked(), 6L);
        x.setNumber(0, 4, '+', 0);
        CHECK.is("the last one alone", x.worked(), 7L);
        x.setNumber(5, 4, '+', 0);
        CHECK.is("a number of none", x.worked(), 7L);
    }

    private static void refusedCallsChangeNothing() {
        Solidhearth x = new Solidhearth();
        x.addFeature('b', 0, 0, 0);
        x.addFeature('e', 0, 5, 2);
        long work = x.worked();
        CHECK.fails("remove", UnsupportedOperationException.class, () -> x.remove(0));
        CHECK.fails("move", UnsupportedOperationException.class, () -> x.move(1, 0));
        CHECK.fails("move", UnsupportedOperationException.class, () -> x.move(0, 1));
        CHECK.fails("setBar", IndexOutOfBoundsException.class, () -> x.setBar(3));
        CHECK.is("no work", x.worked(), work);
        CHECK.is("the same body", x.volume(), 3);
        x.setSize(0, 1, 1, 1);
        CHECK.is("none afterwards", x.worked(), work);
    }

    public static void main(String[] args) {
        addingIsBounded();
        numbersAreGivenOnce();
        aNewOneMayBeNeededAhead();
        sizes();
        removing();
        moving();
        puttingOff();
        theBar();
        faultsOfBoxes();
        faultsOfOthers();
        numbersThatAreNeverGiven();
        faultsOfPieces();
        workOfEdits();
        workOfTheBar();
        workOfNumbers();
        refusedCallsChangeNothing();
        CHECK.end();
    }
}
