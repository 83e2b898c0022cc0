/** Promises 1 to 3: a new object, setNumber and number. */
public final class NumbersTest {
    private static final Check CHECK = new Check();

    private static void aNewObject() {
        Solidhearth x = new Solidhearth();
        for (int name = 0; name < 8; name++) {
            CHECK.is("a new number " + name, x.number(name), 0);
        }
        CHECK.fails("no feature is there", java.util.NoSuchElementException.class, () -> x.place(0));
        CHECK.fails("no part is there", IndexOutOfBoundsException.class, () -> x.moved(0, 0));
        CHECK.is("volume at first", x.volume(), 0);
        CHECK.is("worked at first", x.worked(), 0L);
        CHECK.is("setBar at first", x.setBar(0), 0);
        CHECK.is("freedoms at first", x.freedoms(), 0);
        CHECK.is("isSound at first", x.isSound(), true);
    }

    private static void formulas() {
        Solidhearth x = new Solidhearth();
        CHECK.is("3 + -20", x.setNumber(0, 3, '+', -20), -17);
        CHECK.is("3 - 20", x.setNumber(1, 3, '-', 20), -17);
        CHECK.is("0 * 1", x.setNumber(2, 100, '*', 101), 99);
        CHECK.is("0 * 5", x.setNumber(3, 100, '*', 5), -85);
        CHECK.is("0 * 6, cut", x.setNumber(3, 100, '*', 6), -99);
        CHECK.is("3 - 2, cut", x.setNumber(4, 103, '-', 102), -99);
        CHECK.is("20 * 5, cut", x.setNumber(5, 20, '*', 5), 99);
        CHECK.is("a number that is not set yet", x.setNumber(6, 107, '+', 1), 1);
        CHECK.is("7 becomes 8", x.setNumber(7, 8, '+', 0), 8);
        CHECK.is("6 follows it", x.number(6), 9);
    }

    /** Each name needs the next one, so that a change has to go through them against their order. */
    private static void chains() {
        Solidhearth x = new Solidhearth();
        for (int name = 0; name < 7; name++) {
            x.setNumber(name, 101 + name, '+', 1);
        }
        CHECK.is("the end of the chain", x.setNumber(7, 10, '+', 0), 10);
        CHECK.is("the head of the chain", x.number(0), 17);
        CHECK.fails("the chain closes", UnsupportedOperationException.class, () -> x.setNumber(7, 1, '+', 100));
        CHECK.fails("it closes by the first term", UnsupportedOperationException.class,
                () -> x.setNumber(7, 103, '+', 1));
        CHECK.is("refused, 7 is as before", x.number(7), 10);
        x.setNumber(3, 2, '*', 2);
        CHECK.is("the chain is cut", x.number(0), 7);
        CHECK.is("now 7 may need 0", x.setNumber(7, 100, '-', 1), 6);
        CHECK.is("6 follows", x.number(6), 7);
    }

    private static void needsOfItself() {
        Solidhearth x = new Solidhearth();
        CHECK.fails("itself", UnsupportedOperationException.class, () -> x.setNumber(2, 102, '+', 0));
        CHECK.fails("itself, times 0", UnsupportedOperationException.class, () -> x.setNumber(2, 0, '*', 102));
        x.setNumber(2, 103, '*', 0);
        CHECK.fails("through another", UnsupportedOperationException.class, () -> x.setNumber(3, 102, '+', 0));
        CHECK.is("two equal terms are no ring", x.setNumber(3, 104, '+', 104), 0);
        CHECK.is("nor are two ways", x.setNumber(5, 102, '+', 103), 0);
    }

    private static void wrongArguments() {
        Solidhearth x = new Solidhearth();
        int[][] wrong = {{-1, 0, '+', 0}, {8, 0, '+', 0}, {0, 21, '+', 0}, {0, -21, '+', 0}, {0, 0, '+', 99},
            {0, 0, '+', 108}, {0, 0, '+', Integer.MIN_VALUE}, {0, Integer.MAX_VALUE, '+', 0}, {0, 0, '/', 0},
            {0, 0, 0, 0}, {Integer.MIN_VALUE, 0, '+', 0}, {8, 108, '+', 0}};
        for (int[] w : wrong) {
            CHECK.fails("setNumber(" + w[0] + ", " + w[1] + ", " + w[2] + ", " + w[3] + ")",
                    IllegalArgumentException.class, () -> x.setNumber(w[0], w[1], (char) w[2], w[3]));
        }
        CHECK.fails("a wrong term is told before a ring", IllegalArgumentException.class,
                () -> x.setNumber(0, 100, '+', 21));
        CHECK.fails("number(-1)", IllegalArgumentException.class, () -> x.number(-1));
        CHECK.fails("number(8)", IllegalArgumentException.class, () -> x.number(8));
        CHECK.is("the ends of the terms", x.setNumber(0, -20, '+', 20), 0);
        CHECK.is("the last name", x.setNumber(7, 20, '-', -20), 40);
        CHECK.is("as a term", x.setNumber(0, 107, '+', 20), 60);
    }

    /** A number that would make a feature need one behind it is refused, and all is as before. */
    private static void needsOfFeatures() {
        Solidhearth x = new Solidhearth();
        x.setNumber(1, 5, '+', 0);
        x.setNumber(0, 101, '+', 0);
        x.addFeature('b', 0, 0, 0);
        x.addFeature('e', 100, 5, 1);
        x.addFeature('b', 3, 3, 3);
        long work = x.worked();
        CHECK.is("none needed, none found", x.state(1), 'l');
        CHECK.fails("it would need 2 behind it", UnsupportedOperationException.class,
                () -> x.setNumber(1, 2, '+', 0));
        CHECK.is("1 is as before", x.number(1), 5);
        CHECK.is("0 is as before", x.number(0), 5);
        CHECK.is("no work for what is refused", x.worked(), work);
        CHECK.is("itself is no need", x.setNumber(1, 1, '+', 0), 1);
        CHECK.is("2 that is carried out anew, and 1", x.worked(), work + 2);
        CHECK.is("a feature ahead", x.setNumber(1, 0, '+', 0), 0);
        CHECK.is("now it can be carried out", x.state(1), '-');
        CHECK.is("the body follows", x.volume(), 3);
    }

    public static void main(String[] args) {
        aNewObject();
        formulas();
        chains();
        needsOfItself();
        wrongArguments();
        needsOfFeatures();
        CHECK.end();
    }
}
