/** Tells what an object answers, so that two can be compared, with no more calls than the document lets it have. */
final class Witness {
    private static final int NUMBERS = 14;
    private final Solidhearth told;
    private final StringBuilder text = new StringBuilder();

    Witness(Solidhearth told) {
        this.told = told;
    }

    private void add(Check.Call call) {
        text.append(Check.outcome(call)).append(' ');
    }

    /** Whether the text tells of an exception that only the machine throws. */
    boolean isOfMachine() {
        String answers = text.toString();
        return answers.contains("Array") || answers.contains("Null") || answers.contains("Cast")
                || answers.contains("StringIndex");
    }

    /** The answers to what changes nothing. */
    String asked() {
        text.setLength(0);
        askOfFeatures();
        askOfBody();
        askOfParts();
        return text.toString();
    }

    private void askOfFeatures() {
        for (int number = 0; number < NUMBERS; number++) {
            int feature = number;
            add(() -> told.number(feature % 8));
            add(() -> told.place(feature));
            add(() -> told.state(feature));
        }
        add(() -> told.worked());
    }

    private void askOfBody() {
        for (int cell = 0; cell < 64; cell++) {
            int u = cell % 8;
            int v = cell / 8;
            add(() -> told.depth(2, true, u, v));
        }
        for (int number = 0; number < 6; number++) {
            int which = number;
            add(() -> told.lines(which % 3, which < 3));
            add(() -> told.centre(which % 3));
            for (int side = 0; side < 6; side++) {
                int way = side;
                add(() -> told.squares(which, way));
            }
        }
        add(() -> told.volume());
        add(() -> told.area());
        add(() -> told.bodies());
        add(() -> told.euler());
        add(() -> told.filled());
    }

    private void askOfParts() {
        for (int number = 0; number < 6; number++) {
            int part = number;
            for (int axis = 0; axis < 3; axis++) {
                int along = axis;
                add(() -> told.moved(part, along));
            }
            add(() -> told.clashes(part, (part + 1) % 6));
        }
        add(() -> told.freedoms());
        add(() -> told.isSound());
    }

    /** The answers to changes, which show what no question does: the bar, formulas, ties, what is put off or frozen. */
    String changed() {
        text.setLength(0);
        add(() -> told.addPart(1, 1, 1));
        for (int number = 0; number < 6; number++) {
            int part = number;
            add(() -> told.freeze(part, false));
            for (int axis = 0; axis < 3; axis++) {
                int along = axis;
                add(() -> told.drag(part, along, 1));
            }
        }
        add(() -> told.setBar(0));
        add(() -> told.setNumber(0, 3, '+', 0));
        for (int name = 0; name < 8; name++) {
            int other = name;
            add(() -> told.number(other));
        }
        add(() -> told.addFeature('b', 0, 0, 0));
        for (int number = 0; number < NUMBERS; number++) {
            int feature = number;
            add(() -> told.putOff(feature, false));
            add(() -> told.setSize(feature, 1, 1, 1));
        }
        for (int place = 0; place < 14; place++) {
            int bar = place;
            add(() -> told.setBar(bar));
            add(() -> told.volume());
        }
        add(() -> told.worked());
        return text.toString();
    }
}
