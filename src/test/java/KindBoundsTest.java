/** The edges of kinds and images (part 4 of the terms) and of promises 26 to 30. */
public final class KindBoundsTest extends Check {
    private static final int[] TRACED = {1, 11, 101, 1011, 10101, 100001};

    public static void main(String[] args) {
        marks();
        withoutHair();
        theGreatestMarks();
        markIsRefused();
        theTrace();
        keepAndBack();
        imagesKeepWhatMayBeUndone();
        imagesKeepNothingElse();
        imagesAreApart();
        imagesAreGone();
        imagesAreRefused();
        count();
        end();
    }

    private static void marksAre(String what, BarberJars x, int p, int... answers) {
        for (int kind = 0; kind < 6; kind++) {
            long ahead = x.trace();
            due(what + ": mark " + kind + " of " + p, x.mark(kind, p), answers[kind]);
            due(what + ": trace of " + kind, x.trace() - ahead, TRACED[kind]);
        }
    }

    private static void marks() {
        sentence("ONE layers; POET up, and the root; BRIDE up less SECRET; WIG up times 2; NUN up, and number; BALD and DAY");
        BarberJars x = told("p0 9;p9 0;p4 1 2;p5 5;p9 9;");
        x.days(4);
        marksAre("four days", x, 0, 4, 13, 4, 26, 4, 8);
        marksAre("four days", x, 1, 4, 4, -5, 8, -4, 8);
        marksAre("four days", x, 2, 4, 6, 0, 12, 2, 8);
        marksAre("four days", x, 3, 4, 9, -1, 18, 2, 8);
        marksAre("four days", x, 4, 4, 13, -5, 26, -1, 8);
        sentence("POET: the THOUGHT at his root, not at his tip");
        x.cuts(2, 1);
        marksAre("the tip is cut", x, 2, 3, 5, -1, 10, 1, 7);
        x.minds(2, 7);
        x.days(1);
        marksAre("a new root", x, 2, 4, 11, 0, 22, 2, 9);
    }

    private static void withoutHair() {
        sentence("POET (-1 without hair)");
        BarberJars x = told("p0 9;p9 0;");
        marksAre("day 0", x, 0, 0, -1, 0, -2, 0, 0);
        marksAre("day 0", x, 1, 0, -1, -9, -2, -8, 0);
        x.days(2);
        x.cuts(0, 2);
        marksAre("all cut", x, 0, 0, -1, 0, -2, 0, 2);
        x.days(1);
        marksAre("one layer", x, 0, 1, 10, 1, 20, 1, 4);
        x.undo();
        marksAre("undone", x, 0, 0, -1, 0, -2, 0, 2);
        x.days(1);
        x.cuts(1, 2);
        marksAre("one layer, a 0", x, 1, 1, 1, -8, 2, -7, 4);
    }

    private static void theGreatestMarks() {
        sentence("MARK on the last DAY with LONGEST hair");
        BarberJars x = told("p0 9;p9 9;");
        for (int i = 0; i < 111; i++) {
            x.days(9);
        }
        marksAre("day 999", x, 0, 12, 21, 12, 42, 12, 1011);
        marksAre("day 999", x, 1, 12, 21, 3, 42, 4, 1011);
    }

    private static BarberJars marked() {
        BarberJars x = told("p0 9;p9 0;");
        x.days(3);
        x.mark(3, 1);
        return x;
    }

    private static void markIsRefused() {
        sentence("Promise 26: NO: BAD");
        for (int kind : new int[] {-1, 6, Integer.MIN_VALUE, Integer.MAX_VALUE}) {
            for (int p = 0; p <= 1; p++) {
                int one = p;
                unchanged("kind " + kind, KindBoundsTest::marked, x -> x.mark(kind, one), NO);
            }
        }
        for (int p : new int[] {-1, 2, 5, Integer.MIN_VALUE, Integer.MAX_VALUE}) {
            for (int kind = -1; kind <= 6; kind++) {
                int asked = kind;
                unchanged("one " + p, KindBoundsTest::marked, x -> x.mark(asked, p), NO);
            }
        }
        for (int kind = 0; kind < 6; kind++) {
            due("nobody", new BarberJars().mark(kind, 0), NO);
        }
        due("five, the fifth", told("p1 1;".repeat(5)).mark(0, 4), 0);
        due("five, a sixth", told("p1 1;".repeat(5)).mark(0, 5), NO);
    }

    private static void theTrace() {
        sentence("Promise 30: THE TRACE: numbers come to it as often as mark() asks that body");
        BarberJars x = marked();
        due("a wig, its poet, its one", x.trace(), 1011);
        due("asked again", x.trace(), 1011);
        for (int i = 0; i < 100; i++) {
            x.mark(5, 0);
        }
        due("bald a hundred times", x.trace(), 1011 + 10000100);
        sentence("THE TRACE is of no IMAGE, not UNDONE, not read anew");
        x.undo();
        due("undone", x.trace(), 10001111);
        x.keep(0);
        x.mark(0, 0);
        x.back(0);
        due("back", x.trace(), 10001112);
        x.forget();
        x.clear();
        x.shop();
        due("read anew", x.trace(), 10001112);
    }

    private static BarberJars rich() {
        BarberJars x = told("m4;j1;p1 1 2;p2 3 4 5;");
        x.days(6);
        x.cuts(0, 2);
        x.changes(2);
        x.cuts(1, 3);
        x.minds(0, 9);
        x.minds(1, 0);
        return x;
    }

    private static void richIs(String what, BarberJars x) {
        due(what + ": day", x.now(0), 6);
        due(what + ": chair", x.now(1), 2);
        hairIs(what, x, 0, 1, 2);
        hairIs(what, x, 1, 5);
        due(what + ": mind", x.one(0, 3), 9);
        due(what + ": mind", x.one(1, 3), 0);
        jarIs(what + ": jar 0", x, 0);
        jarIs(what + ": jar 1", x, 1, 0, 1, 1);
        jarIs(what + ": jar 2", x, 2, 0, 0, 0, 1, 1, 1);
        jarIs(what + ": jar 3", x, 3);
        due(what + ": undone", x.count(4), 6);
    }

    private static void keepAndBack() {
        sentence("IMAGES 0, 1 keep NOW (the DAY, hair, MINDS, JARS, which is under the chair, what may be UNDONE)");
        for (int i = 0; i <= 1; i++) {
            int image = i;
            richIs("rich", rich());
            due("keep: the day", rich().keep(image), 6);
            BarberJars x = rich();
            x.keep(image);
            richIs("kept", x);
            x.days(9);
            x.empties(1);
            x.cuts(0, 4);
            x.changes(3);
            x.cuts(1, 2);
            x.minds(1, 5);
            due("back: the day", x.back(image), 6);
            richIs("back", x);
            due("back again", x.back(image), 6);
            richIs("back again", x);
            x.undo();
            x.undo();
            x.undo();
            due("back behind undos", x.back(image), 6);
            richIs("back behind undos", x);
        }
        sentence("an IMAGE of day 0 and of day 999");
        BarberJars x = told("p1 1;");
        due("day 0", x.keep(0), 0);
        for (int i = 0; i < 111; i++) {
            x.days(9);
        }
        due("day 999", x.keep(1), 999);
        due("back to 0", x.back(0), 0);
        hairIs("no hair", x, 0);
        due("back to 999", x.back(1), 999);
        due("no more days", x.days(1), STATE);
    }

    private static void imagesKeepWhatMayBeUndone() {
        sentence("IMAGES keep what may be UNDONE");
        BarberJars x = told("p1 1 2 3;");
        x.keep(0);
        for (int i = 0; i < 12; i++) {
            x.days(1);
        }
        x.keep(1);
        due("nothing", x.back(0), 0);
        due("nothing may be", x.count(4), 0);
        due("nothing may be", x.undo(), STATE);
        x.changes(3);
        x.changes(2);
        due("ten", x.back(1), 12);
        due("ten may be", x.count(4), 10);
        for (int left = 9; left >= 0; left--) {
            due("undo", x.undo(), left);
            due("day", x.now(0), left + 2);
            due("layers", x.one(0, 2), left + 2);
            due("chair", x.now(1), 0);
        }
        due("no more", x.undo(), STATE);
        sentence("what is done behind back is not in the IMAGE");
        x.back(1);
        for (int i = 0; i < 5; i++) {
            x.minds(0, i);
        }
        x.back(1);
        due("ten may be", x.count(4), 10);
        due("no mind", x.one(0, 3), NONE);
        for (int left = 9; left >= 0; left--) {
            due("undo", x.undo(), left);
            due("day", x.now(0), left + 2);
        }
        sentence("back is not UNDONE");
        x.back(0);
        due("known", x.count(4), 0);
        due("undo", x.undo(), STATE);
    }

    private static void imagesKeepNothingElse() {
        sentence("IMAGES keep NOW; nothing else");
        BarberJars x = rich();
        x.saw(1);
        x.hears(1, 1);
        typed(x, "p");
        x.keep(0);
        x.saw(2);
        x.hears(2, 2);
        x.hears(2, 1);
        x.mark(0, 0);
        typed(x, "1 ");
        x.keep(1);
        x.back(0);
        due("seen", x.count(2), 2);
        due("heard", x.count(3), 3);
        due("text", x.count(5), 3);
        due("trace", x.trace(), 1);
        x.forget();
        x.clear();
        x.back(1);
        due("forgotten", x.count(2) + x.count(3), 0);
        due("cleared", x.count(5), 0);
        due("the town", x.count(0), 2);
        due("the longest", x.count(1), 4);
    }

    private static void imagesAreApart() {
        sentence("two IMAGES; kept anew: the later");
        BarberJars x = told("p1 1 2 3;");
        x.days(1);
        due("keep 0", x.keep(0), 1);
        x.days(1);
        due("keep 1", x.keep(1), 2);
        x.days(1);
        due("back to 0", x.back(0), 1);
        hairIs("0", x, 0, 1);
        due("back to 1", x.back(1), 2);
        hairIs("1", x, 0, 1, 2);
        due("may be undone", x.count(4), 2);
        x.days(2);
        due("0 anew", x.keep(0), 4);
        due("back to 1", x.back(1), 2);
        due("back to 0", x.back(0), 4);
        hairIs("the later", x, 0, 1, 2, 3, 1);
        x.back(1);
        x.keep(0);
        due("both are like", x.back(0), 2);
        due("both are like", x.back(1), 2);
    }

    private static void imagesAreGone() {
        sentence("(Read anew: IMAGES are gone.)");
        for (String text : new String[] {"p1 1;", "", "m4;j1;p1 1 2;p2 3 4 5;"}) {
            BarberJars x = rich();
            x.keep(0);
            x.keep(1);
            typed(x, text);
            due("shop of " + text, x.shop() < 0 ? 1 : 0, 0);
            due("0", x.back(0), STATE);
            due("1", x.back(1), STATE);
            due("1 anew", x.keep(1), 0);
            due("0 still not", x.back(0), STATE);
            due("1", x.back(1), 0);
        }
        sentence("a FAULT leaves them");
        BarberJars x = rich();
        x.keep(1);
        x.days(1);
        x.type(35);
        due("a fault", x.shop(), -10);
        due("0 was not kept", x.back(0), STATE);
        due("1 was", x.back(1), 6);
        richIs("1", x);
    }

    private static void imagesAreRefused() {
        sentence("Promise 27: BAD; Promise 28: BAD; STATE: none was kept");
        for (int image : new int[] {-1, 2, Integer.MIN_VALUE, Integer.MAX_VALUE}) {
            unchanged("keep " + image, KindBoundsTest::rich, x -> x.keep(image), BAD);
            unchanged("back " + image + ": BAD ahead of STATE", KindBoundsTest::rich, x -> x.back(image), BAD);
        }
        for (int i = 0; i <= 1; i++) {
            int image = i;
            unchanged("none was kept", KindBoundsTest::rich, x -> x.back(image), STATE);
            unchanged("the other was kept", () -> {
                BarberJars x = rich();
                x.keep(1 - image);
                x.undo();
                return x;
            }, x -> x.back(image), STATE);
            due("a new object", new BarberJars().back(i), STATE);
            due("a new object is kept", new BarberJars().keep(i), 0);
        }
    }

    private static void count() {
        sentence("Promise 29: 0 PEOPLE, 1 LONGEST, 2 SEEN, 3 HEARD, 4 may be UNDONE, 5 bytes of THE TEXT. BAD");
        BarberJars x = told("m1;" + "p1 1;".repeat(5));
        int[] most = {5, 1, 4, 4, 10, 120};
        for (int i = 0; i < 5; i++) {
            x.saw(1);
            x.hears(1, 1);
        }
        for (int i = 0; i < 11; i++) {
            x.days(1);
        }
        typed(x, blanks(121));
        for (int what = 0; what < 6; what++) {
            due("at most, " + what, x.count(what), most[what]);
        }
        for (int what : new int[] {-1, 6, Integer.MIN_VALUE, Integer.MAX_VALUE}) {
            due("what " + what, x.count(what), BAD);
            due("what " + what + " of nobody", new BarberJars().count(what), BAD);
        }
        x.forget();
        due("all blanks: no items", x.shop(), 0);
        int[] least = {0, 12, 0, 0, 0, 0};
        for (int what = 0; what < 6; what++) {
            due("at least, " + what, x.count(what), least[what]);
        }
    }
}
