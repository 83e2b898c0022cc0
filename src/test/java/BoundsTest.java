/** What is still allowed at the bounds that the document names, and what the answers are there. */
public final class BoundsTest {
    private static final Check CHECK = new Check();
    private static final int[] LAST_TERMS = {-20, 20, 100, 107};

    /** The numbers 0 to 3 are 99, -99, 98 and -98, which no dimension can tell but by a name. */
    private static Solidhearth withFarNumbers() {
        Solidhearth x = new Solidhearth();
        x.setNumber(0, 20, '*', 5);
        x.setNumber(1, 20, '*', -5);
        x.setNumber(2, 100, '-', 1);
        x.setNumber(3, 101, '+', 1);
        return x;
    }

    private static int add(Solidhearth x, char kind, int[] first, int[] further) {
        int feature = x.addFeature(kind, first[0], first[1], first[2]);
        x.setSize(feature, further[0], further[1], further[2]);
        return feature;
    }

    private static int[] three(int one, int two, int three) {
        return new int[] {one, two, three};
    }

    /** "It is what comes out, cut to -99 to 99", each number for itself. */
    private static void numbersAreCut() {
        Solidhearth x = withFarNumbers();
        CHECK.is("100 is cut", x.number(0), 99);
        CHECK.is("-100 is cut", x.number(1), -99);
        CHECK.is("98 is not", x.number(2), 98);
        CHECK.is("-98 is not", x.number(3), -98);
        CHECK.is("99 is not", x.setNumber(4, 100, '+', 0), 99);
        CHECK.is("-99 is not", x.setNumber(4, 0, '-', 100), -99);
        CHECK.is("99 * 99", x.setNumber(4, 100, '*', 100), 99);
        CHECK.is("-99 * -99", x.setNumber(4, 101, '*', 101), 99);
        CHECK.is("-99 * 99", x.setNumber(4, 101, '*', 100), -99);
        CHECK.is("99 + 99", x.setNumber(4, 100, '+', 100), 99);
        CHECK.is("-99 - 99", x.setNumber(4, 101, '-', 100), -99);
        CHECK.is("what is cut is needed as it is cut", x.setNumber(5, 100, '-', 20), 79);
    }

    /** "A term is a number from -20 to 20, or a named number, told as 100 plus its name", 0 to 7. */
    private static void lastTerms() {
        for (int term : LAST_TERMS) {
            int due = term < 100 ? term : 0;
            CHECK.is("first term " + term, new Solidhearth().setNumber(3, term, '+', 0), due);
            CHECK.is("second term " + term, new Solidhearth().setNumber(3, 0, '+', term), due);
            CHECK.is("first dimension " + term, new Solidhearth().addFeature('b', term, 0, 0), 0);
            CHECK.is("second dimension " + term, new Solidhearth().addFeature('c', 0, term, 0), 0);
            CHECK.is("third dimension " + term, new Solidhearth().addFeature('i', 0, 0, term), 0);
            Solidhearth x = new Solidhearth();
            x.addFeature('b', 0, 0, 0);
            CHECK.is("first further one " + term, x.setSize(0, term, 1, 1), 1);
            CHECK.is("second further one " + term, x.setSize(0, term, term, 1), 1);
            CHECK.is("third further one " + term, x.setSize(0, term, term, term), 1);
            CHECK.is("none is another one", x.setSize(0, term, term, term), 0);
        }
        for (int name = 0; name < 8; name++) {
            Solidhearth x = new Solidhearth();
            CHECK.is("name " + name, x.setNumber(name, 7, '-', name), 7 - name);
            x.addFeature('b', 100 + name, 0, 0);
            CHECK.is("told as a dimension", x.has(7 - name, 0, 0), true);
        }
    }

    private static Solidhearth fullRow() {
        Solidhearth x = new Solidhearth();
        for (int feature = 0; feature < 12; feature++) {
            CHECK.is("the next feature", x.addFeature('b', feature % 8, feature / 8, 0), feature);
        }
        return x;
    }

    private static String row(Solidhearth x) {
        StringBuilder text = new StringBuilder();
        for (int place = 0; place < 12; place++) {
            for (int number = 0; number < 40; number++) {
                int feature = number;
                if (Check.outcome(() -> x.place(feature)).equals(String.valueOf(place))) {
                    text.append(text.length() == 0 ? "" : " ").append(feature);
                }
            }
        }
        return text.toString();
    }

    /** "At most 12 features exist at once"; "a number is not given again". */
    private static void aFullRow() {
        Solidhearth x = fullRow();
        CHECK.is("all are carried out", x.volume(), 12);
        CHECK.fails("a 13th", IllegalStateException.class, () -> x.addFeature('b', 0, 0, 0));
        CHECK.is("the first one is taken out", x.remove(0), 11);
        CHECK.is("now there is room", x.addFeature('b', 0, 0, 0), 12);
        CHECK.is("the last one is taken out", x.remove(12), 11);
        CHECK.is("room again", x.addFeature('b', 0, 0, 0), 13);
        CHECK.is("one between is taken out", x.remove(6), 11);
        CHECK.is("the row", row(x), "1 2 3 4 5 7 8 9 10 11 13");
        CHECK.is("room for one", x.addFeature('b', 0, 0, 0), 14);
        CHECK.fails("but not for two", IllegalStateException.class, () -> x.addFeature('b', 0, 0, 0));
    }

    /** "At most 40 are given", also if the row is empty. */
    private static void allNumbersGiven() {
        Solidhearth x = new Solidhearth();
        for (int feature = 0; feature < 39; feature++) {
            x.addFeature('b', 0, 0, 0);
            CHECK.is("the row is empty", x.remove(feature), 0);
        }
        CHECK.fails("no such kind gives no number", IllegalArgumentException.class,
                () -> x.addFeature('a', 0, 0, 0));
        CHECK.is("the last number", x.addFeature('b', 0, 0, 0), 39);
        CHECK.is("it is in names", x.squares(39, 0), 1);
        CHECK.is("the row is empty again", x.remove(39), 0);
        CHECK.fails("no number is left", IllegalStateException.class, () -> x.addFeature('b', 0, 0, 0));
        CHECK.is("no place ahead of the bar", x.setBar(0), 0);
    }

    private static void movesThroughAFullRow() {
        Solidhearth x = fullRow();
        CHECK.is("from the first place to the last", x.move(0, 11), 0);
        CHECK.is("the row", row(x), "1 2 3 4 5 6 7 8 9 10 11 0");
        CHECK.is("from the last place to the first", x.move(0, 0), 11);
        CHECK.is("the row as before", row(x), "0 1 2 3 4 5 6 7 8 9 10 11");
        CHECK.is("to the last place but one", x.move(11, 10), 11);
        CHECK.is("back to the last one", x.move(11, 11), 10);
        CHECK.is("where it stands, last", x.move(11, 11), 11);
        CHECK.is("where it stands, first", x.move(0, 0), 0);
        CHECK.is("the row at last", row(x), "0 1 2 3 4 5 6 7 8 9 10 11");
        CHECK.is("a number is set in a full row", x.setNumber(0, 1, '+', 1), 2);
        CHECK.is("the first place", x.place(0), 0);
        CHECK.is("the last place", x.place(11), 11);
        Solidhearth one = new Solidhearth();
        one.addFeature('b', 0, 0, 0);
        CHECK.is("the only place", one.move(0, 0), 0);
        CHECK.fails("there is no other", IndexOutOfBoundsException.class, () -> one.move(0, 1));
    }

    /** "Place: 0 to the number of features"; "a bar at the number of features is behind all". */
    private static void theBarAtItsEnds() {
        Solidhearth x = new Solidhearth();
        CHECK.is("in an empty row", x.setBar(0), 0);
        x.addFeature('b', 0, 0, 0);
        CHECK.is("it is behind all there", x.setBar(1), 1);
        x.remove(0);
        CHECK.is("empty again", x.setBar(0), 0);
        x.addFeature('b', 0, 0, 0);
        x.addFeature('b', 1, 0, 0);
        CHECK.is("at both ends at once it was behind all", x.setBar(0), 2);
        CHECK.is("none is carried out", x.volume(), 0);
        CHECK.is("the first one is not ahead", x.state(1), 'b');
        x.addFeature('b', 2, 0, 0);
        CHECK.is("ahead of all it stays there", x.setBar(2), 0);
        CHECK.is("the last one ahead", x.state(2), '-');
        CHECK.is("the first one that is not", x.state(3), 'b');
        CHECK.is("two are carried out", x.volume(), 2);
        x.remove(1);
        CHECK.is("the same number, which is behind all now", x.setBar(2), 2);
        x.remove(2);
        CHECK.is("there are not so many features", x.setBar(0), 1);
        Solidhearth full = fullRow();
        CHECK.is("12 in a full row", full.setBar(12), 12);
        full.setBar(11);
        CHECK.is("all but the last one", full.volume(), 11);
        full.remove(11);
        full.addFeature('b', 7, 7, 7);
        CHECK.is("behind all without it, and so behind the new one", full.setBar(12), 12);
    }

    private static void faultIs(char due, char kind, int[] first, int[] further) {
        Solidhearth x = withFarNumbers();
        x.addFeature('b', 4, 4, 4);
        add(x, kind, first, further);
        CHECK.is(kind + " " + first[0] + " " + first[1] + " " + first[2] + " " + further[0] + " " + further[1] + " "
                + further[2], x.state(1), due);
        CHECK.is("one with a fault does nothing", due != '-' && x.volume() != 1, false);
    }

    /** "A further dimension of a box is less than 1"; "the axis of a mirror is not 0 to 2"; and so on. */
    private static void faultsBegin() {
        for (char kind : new char[] {'b', 'c', 'i'}) {
            for (int size : new int[] {1, 20, 100, 0, -1, -20, 101}) {
                char due = size > 0 && size != 101 ? '-' : 'x';
                faultIs(due, kind, three(0, 0, 0), three(size, 1, 1));
                faultIs(due, kind, three(0, 0, 0), three(1, size, 1));
                faultIs(due, kind, three(0, 0, 0), three(1, 1, size));
            }
        }
        for (int axis : new int[] {0, 1, 2, -1, 3, -20, 20, 100, 101}) {
            faultIs(axis >= 0 && axis <= 2 ? '-' : 'x', 'm', three(axis, 4, 0), three(0, 0, 0));
        }
        for (int times : new int[] {0, 1, 20, 100, -1, -20, 101}) {
            faultIs(times >= 0 && times != 101 ? '-' : 'x', 'p', three(1, 1, 1), three(times, -1, -1));
        }
        for (int side : new int[] {0, 5, -1, 6, -20, 20, 100, 101}) {
            faultIs(side == 0 || side == 5 ? '-' : 'x', 'e', three(0, side, 1), three(0, 0, 0));
        }
        for (int height : new int[] {0, 1, 20, 100, -1, -20, 101}) {
            faultIs(height >= 0 && height != 101 ? '-' : 'x', 'e', three(0, 0, height), three(0, 0, 0));
        }
        for (int feature : new int[] {0, 1, -1, 2, 20, -20, 100, 101}) {
            faultIs(feature == 0 ? '-' : 'l', 'e', three(feature, 0, 1), three(0, 0, 0));
        }
        faultIs('x', 'e', three(5, 6, 1), three(1, 1, 1));
        faultIs('-', 'h', three(101, 101, 101), three(101, 101, 101));
    }

    private static int volumeOf(int first, int further) {
        Solidhearth x = withFarNumbers();
        add(x, 'b', three(first, 0, 0), three(further, 1, 1));
        int along = x.volume();
        x.remove(0);
        add(x, 'b', three(0, first, 0), three(1, further, 1));
        CHECK.is("the same along 1", x.volume(), along);
        x.remove(1);
        add(x, 'b', three(0, 0, first), three(1, 1, further));
        CHECK.is("the same along 2", x.volume(), along);
        return along;
    }

    /** "Cells outside of the space are left out", of boxes. */
    private static void boxesAtTheRim() {
        CHECK.is("the first cell", volumeOf(0, 1), 1);
        CHECK.is("the last cell", volumeOf(7, 1), 1);
        CHECK.is("beyond the last one", volumeOf(8, 1), 0);
        CHECK.is("ahead of the first one", volumeOf(-1, 1), 0);
        CHECK.is("up to the first one", volumeOf(-1, 2), 1);
        CHECK.is("through all", volumeOf(0, 8), 8);
        CHECK.is("one too long", volumeOf(0, 9), 8);
        CHECK.is("just not there", volumeOf(-20, 20), 0);
        CHECK.is("just there", volumeOf(-19, 20), 1);
        CHECK.is("-99 and 99 cells", volumeOf(101, 100), 0);
        CHECK.is("-98 and 99 cells", volumeOf(103, 100), 1);
        CHECK.is("-98 and 98 cells", volumeOf(103, 102), 0);
        CHECK.is("99 cells from 7 on", volumeOf(7, 100), 1);
        CHECK.is("99 cells from 99 on", volumeOf(100, 100), 0);
        Solidhearth x = withFarNumbers();
        add(x, 'b', three(0, 0, 0), three(8, 8, 8));
        add(x, 'c', three(103, 103, 103), three(100, 100, 100));
        CHECK.is("one cell is taken out", x.volume(), 511);
        add(x, 'i', three(1, 0, 0), three(100, 100, 100));
        CHECK.is("all are taken out but those from 1 on", x.volume(), 448);
        add(x, 'i', three(100, 0, 0), three(100, 100, 100));
        CHECK.is("all are taken out", x.volume(), 0);
    }

    private static void mirrorIs(int axis, int from, int plane, int due) {
        Solidhearth x = withFarNumbers();
        x.addFeature('b', axis == 0 ? from : 3, axis == 1 ? from : 3, axis == 2 ? from : 3);
        x.addFeature('m', axis, plane, 0);
        String told = from + " mirrored at " + plane + " along " + axis;
        CHECK.is(told + ", volume", x.volume(), due < 0 || due == from ? 1 : 2);
        if (due >= 0) {
            CHECK.is(told, x.has(axis == 0 ? due : 3, axis == 1 ? due : 3, axis == 2 ? due : 3), true);
        }
    }

    /** "Twice the second one, minus 1, minus the number of the cell", within the space. */
    private static void mirrorsAtTheRim() {
        for (int axis = 0; axis < 3; axis++) {
            mirrorIs(axis, 0, 4, 7);
            mirrorIs(axis, 7, 4, 0);
            mirrorIs(axis, 0, 1, 1);
            mirrorIs(axis, 1, 1, 0);
            mirrorIs(axis, 7, 7, 6);
            mirrorIs(axis, 6, 7, 7);
            mirrorIs(axis, 0, 0, -1);
            mirrorIs(axis, 7, 8, -1);
            mirrorIs(axis, 0, 5, -1);
            mirrorIs(axis, 7, 3, -1);
            for (int plane : new int[] {-20, 20, 100, 101}) {
                mirrorIs(axis, 0, plane, -1);
                mirrorIs(axis, 7, plane, -1);
            }
        }
        Solidhearth full = new Solidhearth();
        add(full, 'b', three(0, 0, 0), three(8, 8, 8));
        full.addFeature('m', 2, 4, 0);
        CHECK.is("all on themselves", full.volume(), 512);
        Solidhearth none = new Solidhearth();
        none.addFeature('m', 0, 4, 0);
        CHECK.is("nothing to mirror is no fault", none.state(0), '-');
        CHECK.is("and adds nothing", none.volume(), 0);
    }

    private static int patternVolume(int from, int by, int times) {
        Solidhearth x = withFarNumbers();
        x.addFeature('b', from, 3, 3);
        add(x, 'p', three(by, 0, 0), three(times, 1, 1));
        int along = x.volume();
        Solidhearth y = withFarNumbers();
        y.addFeature('b', 3, 3, from);
        add(y, 'p', three(0, 0, by), three(times, 1, 1));
        CHECK.is("the same along 2", y.volume(), along);
        return along;
    }

    /** "Times 1, 2, and so on up to the first one of the further ones". */
    private static void patternsAtTheRim() {
        CHECK.is("none", patternVolume(0, 1, 0), 1);
        CHECK.is("one", patternVolume(0, 1, 1), 2);
        CHECK.is("up to the rim", patternVolume(0, 1, 7), 8);
        CHECK.is("beyond it", patternVolume(0, 1, 8), 8);
        CHECK.is("99 times", patternVolume(0, 1, 100), 8);
        CHECK.is("99 times to lower numbers", patternVolume(7, -1, 100), 8);
        CHECK.is("across the space", patternVolume(0, 7, 1), 2);
        CHECK.is("across the space and back", patternVolume(7, -7, 2), 2);
        CHECK.is("just outside", patternVolume(0, 8, 1), 1);
        CHECK.is("just outside, to lower numbers", patternVolume(7, -8, 1), 1);
        CHECK.is("by 99", patternVolume(0, 100, 100), 1);
        CHECK.is("by -99", patternVolume(7, 101, 100), 1);
        CHECK.is("by 0, 99 times", patternVolume(5, 0, 100), 1);
        Solidhearth none = new Solidhearth();
        none.addFeature('p', 1, 0, 0);
        CHECK.is("nothing to repeat is no fault", none.state(0), '-');
    }

    /** "Those cells that have six neighbours in the body", not five. */
    private static void smallestHollows() {
        Solidhearth x = new Solidhearth();
        add(x, 'b', three(2, 3, 3), three(3, 1, 1));
        add(x, 'b', three(3, 2, 3), three(1, 3, 1));
        add(x, 'b', three(3, 3, 2), three(1, 1, 3));
        x.addFeature('c', 4, 3, 3);
        x.addFeature('h', 0, 0, 0);
        CHECK.is("five neighbours", x.volume(), 6);
        x.putOff(3, true);
        CHECK.is("six", x.volume(), 6);
        CHECK.is("the one in the middle is taken out", x.has(3, 3, 3), false);
        CHECK.is("3 by 3 by 3", hollow(2, 3), 26);
        CHECK.is("3 by 3 by 3 at the rim", hollow(0, 3), 26);
        CHECK.is("at the other rim", hollow(5, 3), 26);
        CHECK.is("2 by 2 by 2", hollow(3, 2), 8);
        CHECK.is("the full space", hollow(0, 8), 512 - 216);
        Solidhearth none = new Solidhearth();
        none.addFeature('h', 0, 0, 0);
        CHECK.is("nothing to take out is no fault", none.state(0), '-');
    }

    private static int hollow(int from, int size) {
        Solidhearth x = new Solidhearth();
        add(x, 'b', three(from, from, from), three(size, size, size));
        x.addFeature('h', 0, 0, 0);
        return x.volume();
    }

    /** "As many cells as the third one tells, the last one farthest away", within the space. */
    private static void pushesAtTheRim() {
        for (int side = 0; side < 6; side++) {
            for (int height : new int[] {0, 1, 3, 4, 20, 100}) {
                Solidhearth x = withFarNumbers();
                x.addFeature('b', 4, 4, 4);
                x.addFeature('e', 0, side, height);
                int room = side % 2 == 0 ? 4 : 3;
                int due = height == 100 ? room : Math.min(room, height);
                CHECK.is("pushed at " + side + " by " + height, x.volume(), 1 + due);
                CHECK.is("it can be carried out", x.state(1), '-');
            }
        }
        Solidhearth x = new Solidhearth();
        x.addFeature('b', 7, 0, 0);
        x.addFeature('e', 0, 1, 1);
        CHECK.is("at the rim nothing is added", x.volume(), 1);
        CHECK.is("which is no fault", x.state(1), '-');
        CHECK.is("and the square keeps its name", x.nameOf(7, 0, 0, 1), 0);
        Solidhearth none = new Solidhearth();
        none.addFeature('e', 0, 0, 1);
        CHECK.is("no square at all", none.state(0), 'l');
    }

    private static void measuredIs(String what, Solidhearth x, int[] due) {
        CHECK.is(what + ", volume", x.volume(), due[0]);
        CHECK.is(what + ", area", x.area(), due[1]);
        CHECK.is(what + ", bodies", x.bodies(), due[2]);
        CHECK.is(what + ", euler", x.euler(), due[3]);
        CHECK.is(what + ", lines", x.lines(0, true), due[4]);
        CHECK.is(what + ", lines down", x.lines(2, false), due[5]);
        CHECK.is(what + ", filled", x.filled(), (float) due[0] / 512f);
        CHECK.is(what + ", isSound", x.isSound(), true);
    }

    /** The least and the greatest body, and one cell in a corner. */
    private static void emptyAndFull() {
        measuredIs("no cells", new Solidhearth(), new int[] {0, 0, 0, 0, 0, 0});
        Solidhearth x = new Solidhearth();
        add(x, 'b', three(0, 0, 0), three(8, 8, 8));
        measuredIs("all cells", x, new int[] {512, 384, 1, 2, 32, 32});
        for (int side = 0; side < 6; side++) {
            CHECK.is("all squares at " + side, x.squares(0, side), 64);
            CHECK.is("the mean", x.centre(side / 2), 3.5);
        }
        x.putOff(0, true);
        measuredIs("all are put off", x, new int[] {0, 0, 0, 0, 0, 0});
        x.putOff(0, false);
        x.setBar(0);
        measuredIs("none ahead of the bar", x, new int[] {0, 0, 0, 0, 0, 0});
        for (int corner = 0; corner < 8; corner++) {
            int[] at = three(corner % 2 * 7, corner / 2 % 2 * 7, corner / 4 * 7);
            Solidhearth one = new Solidhearth();
            add(one, 'b', at, three(1, 1, 1));
            measuredIs("corner " + corner, one, new int[] {1, 6, 1, 2, 4, 4});
            CHECK.is("it is there", one.has(at[0], at[1], at[2]), true);
            CHECK.is("by the other way too", one.hasAnew(at[0], at[1], at[2]), true);
            for (int side = 0; side < 6; side++) {
                CHECK.is("its mean", one.centre(side / 2), (double) at[side / 2]);
                CHECK.is("its squares", one.nameOf(at[0], at[1], at[2], side), 0);
                CHECK.is("counted", one.squares(0, side), 1);
            }
        }
    }

    /** "How many cells without the body lie ahead of the first one in the body, or 8 if there is none". */
    private static void depthsAtTheRim() {
        for (int axis = 0; axis < 3; axis++) {
            for (int at = 0; at < 8; at++) {
                Solidhearth x = new Solidhearth();
                x.addFeature('b', axis == 0 ? at : 0, axis == 1 ? at : axis == 0 ? 0 : 7, axis == 2 ? at : 7);
                int u = 0;
                CHECK.is("up along " + axis, x.depth(axis, true, u, 7), at);
                CHECK.is("down along " + axis, x.depth(axis, false, u, 7), 7 - at);
                CHECK.is("none", x.depth(axis, true, 7, 0), 8);
                CHECK.is("none from above", x.depth(axis, false, 7, 7), 8);
                CHECK.is("lines up", x.lines(axis, true), 4);
                CHECK.is("lines down", x.lines(axis, false), 4);
            }
        }
    }

    /** "Around columns at the rim of the space whose depth is less than 8, one for each of their sides at the rim". */
    private static void linesAtTheRim() {
        for (int axis = 0; axis < 3; axis++) {
            for (int at = 0; at < 8; at += 7) {
                for (int wide = 0; wide < 3; wide++) {
                    Solidhearth x = new Solidhearth();
                    int[] first = three(0, 0, 0);
                    int[] further = three(8, 8, 8);
                    first[wide] = wide == axis ? 0 : at;
                    further[wide] = wide == axis ? 8 : 1;
                    add(x, 'b', first, further);
                    CHECK.is("a wall " + wide + " at " + at, x.lines(axis, true), wide == axis ? 32 : 18);
                    CHECK.is("seen from the other end", x.lines(axis, false), wide == axis ? 32 : 18);
                }
            }
        }
        Solidhearth far = new Solidhearth();
        add(far, 'b', three(0, 0, 7), three(8, 8, 1));
        CHECK.is("a depth of 7 is less than 8", far.lines(2, true), 32);
        far.addFeature('c', 3, 3, 7);
        CHECK.is("and differs from 8", far.lines(2, true), 36);
        add(far, 'b', three(0, 0, 6), three(1, 1, 1));
        CHECK.is("a corner that lies higher", far.lines(2, true), 38);
        CHECK.is("but not from behind", far.lines(2, false), 36);
    }

    /** Two walls at the ends of an axis are no neighbours, though one line of cells follows the other. */
    private static void wallsAtBothEnds() {
        for (int axis = 0; axis < 3; axis++) {
            Solidhearth x = new Solidhearth();
            int[] first = three(0, 0, 0);
            int[] further = three(8, 8, 8);
            further[axis] = 1;
            add(x, 'b', first, further);
            first[axis] = 6;
            further[axis] = 2;
            add(x, 'b', first, further);
            int area = 2 * 64 + 4 * 8 + 2 * 64 + 4 * 16;
            int ofEnds = 4 * 8 + 2 * 3;
            measuredIs("two walls along " + axis, x,
                    new int[] {192, area, 2, 4, axis == 0 ? 32 : ofEnds, axis == 2 ? 32 : ofEnds});
            CHECK.is("squares to greater numbers", x.squares(0, 2 * axis + 1), 64);
            CHECK.is("squares to lower ones", x.squares(1, 2 * axis), 64);
            x.addFeature('h', 0, 0, 0);
            CHECK.is("none has six neighbours", x.volume(), 192);
            int[] step = three(0, 0, 0);
            step[axis] = 1;
            add(x, 'p', step, three(1, 1, 1));
            CHECK.is("one step on, but not beyond the rim", x.volume(), 256);
            x.remove(3);
            step[axis] = -1;
            add(x, 'p', step, three(1, 1, 1));
            CHECK.is("one step back", x.volume(), 256);
        }
    }

    /** A push of squares at both ends of neighbouring lines finds two pieces. */
    private static void piecesAtBothEnds() {
        Solidhearth x = new Solidhearth();
        x.addFeature('b', 7, 2, 2);
        add(x, 'p', three(-7, 1, 0), three(1, 1, 1));
        x.addFeature('c', 0, 0, 0);
        x.addFeature('e', 1, 5, 1);
        CHECK.is("the one cell of the pattern", x.state(3), '-');
        Solidhearth both = new Solidhearth();
        add(both, 'b', three(0, 2, 2), three(8, 2, 1));
        add(both, 'c', three(0, 2, 2), three(7, 1, 1));
        add(both, 'c', three(1, 3, 2), three(7, 1, 1));
        CHECK.is("two cells are left", both.volume(), 2);
        both.addFeature('e', 0, 5, 1);
        CHECK.is("which are two pieces", both.state(3), 'd');
        CHECK.is("and two bodies", both.bodies(), 2);
    }

    /** All that is kept is full: 12 features, 40 numbers, 6 parts and 12 mates. */
    private static void allIsFull() {
        Solidhearth x = new Solidhearth();
        for (int feature = 0; feature < 28; feature++) {
            x.addFeature('b', 0, 0, 0);
            x.remove(feature);
        }
        for (int feature = 28; feature < 40; feature++) {
            CHECK.is("the next number", x.addFeature('b', feature % 8, 1, 1), feature);
        }
        for (int part = 0; part < 6; part++) {
            x.addPart(20, 20, 20);
        }
        for (int part = 0; part < 6; part++) {
            x.mate(0, part, part - 1, 20);
            x.mate(2, part, part - 1, -20);
        }
        CHECK.is("all is sound", x.isSound(), true);
        CHECK.is("freedoms", x.freedoms(), 6);
        CHECK.is("the farthest move", x.moved(5, 0), 120);
        CHECK.is("the farthest move to lower numbers", x.moved(5, 2), -120);
        CHECK.is("the last state", x.state(39), '-');
        CHECK.is("the first state", x.state(28), '-');
        CHECK.is("volume", x.volume(), 8);
    }

    public static void main(String[] args) {
        numbersAreCut();
        lastTerms();
        aFullRow();
        allNumbersGiven();
        movesThroughAFullRow();
        theBarAtItsEnds();
        faultsBegin();
        boxesAtTheRim();
        mirrorsAtTheRim();
        patternsAtTheRim();
        smallestHollows();
        pushesAtTheRim();
        emptyAndFull();
        depthsAtTheRim();
        linesAtTheRim();
        wallsAtBothEnds();
        piecesAtBothEnds();
        allIsFull();
        CHECK.end();
    }
}
