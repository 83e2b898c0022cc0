/** The example that README.md shows. */
public final class Example {
    public static void main(String[] args) {
        Solidhearth hearth = new Solidhearth();
        hearth.setNumber(0, 3, '+', 0);                  // the named number 0 is 3
        int box = hearth.addFeature('b', 1, 1, 1);       // a box from the cell 1 1 1 on ..
        hearth.setSize(box, 100, 100, 2);                // .. of 3 by 3 by 2 cells: 100 tells the named number 0
        int push = hearth.addFeature('e', box, 5, 2);    // pushes the box's squares that look to greater z by 2
        System.out.println("volume " + hearth.volume() + ", squares of the push " + hearth.squares(push, 5));

        hearth.setNumber(0, 2, '+', 0);                  // both features follow
        System.out.println("volume " + hearth.volume() + ", work " + hearth.worked());

        hearth.putOff(box, true);                        // nothing is left to push
        System.out.println("volume " + hearth.volume() + ", the push has the fault " + hearth.state(push));
        hearth.putOff(box, false);
        try {
            hearth.remove(box);
        } catch (UnsupportedOperationException refused) {
            System.out.println("not taken out: the push needs the box");
        }

        int one = hearth.addPart(0, 0, 0);
        int other = hearth.addPart(5, 0, 1);
        int moving = hearth.mate(0, one, other, 0);      // along the axis 0, both lie at the same place
        System.out.println("moving " + moving + ", clashes " + hearth.clashes(one, other));
        System.out.println("depth " + hearth.depth(2, true, 1, 1) + ", lines " + hearth.lines(2, true));
    }
}
