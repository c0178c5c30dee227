/** The edges of what is done (part 2 of the terms) and of promises 5 to 15. */
public final class DeedBoundsTest extends Check {
    public static void main(String[] args) {
        atFirst();
        theLastDay();
        theWeekGoesRound();
        theLongest();
        madeUp();
        cut();
        sweptAtMost();
        aJarThatIsFull();
        changed();
        emptied();
        tenAreKnown();
        eachDeedIsUndone();
        whatCantBeUndone();
        one();
        week();
        layer();
        jar();
        now();
        end();
    }

    private static BarberJars atDay(BarberJars x, int day) {
        for (int i = x.now(0); i < day; i = x.now(0)) {
            x.days(Math.min(9, day - i));
        }
        return x;
    }

    private static void atFirst() {
        sentence("The DAY is 0 at first, nobody has hair, JARS are empty, nobody's MIND is made up");
        BarberJars x = told("p1 1;p2 2;p3 3;p4 4;p5 5;");
        due("day", x.now(0), 0);
        for (int p = 0; p < 5; p++) {
            hairIs("no hair", x, p);
            due("no mind", x.one(p, 3), NONE);
            due("no layer is his secret", x.one(p, 4), 0);
        }
        for (int j = 0; j < 4; j++) {
            jarIs("empty", x, j);
            due("empties", x.empties(j), STATE);
        }
    }

    private static void theLastDay() {
        sentence("Promise 9: n DAYS (1 .. 9) go by: the DAY");
        for (int n = 1; n <= 9; n++) {
            BarberJars x = told("p1 1 2 3;");
            due("days " + n, x.days(n), n);
            due("the day", x.now(0), n);
            due("a layer a day", x.one(0, 2), n);
        }
        sentence("Promise 9: BAD");
        for (int n : new int[] {0, 10, -1, Integer.MIN_VALUE, Integer.MAX_VALUE}) {
            unchanged("days " + n, () -> told("p1 1 2 3;"), x -> x.days(n), BAD);
        }
        sentence("A DAY goes by (999 at most); Promise 9: STATE: it would be beyond 999");
        for (int n = 1; n <= 9; n++) {
            int days = n;
            BarberJars x = atDay(told("p1 1 2 3;"), 999 - n);
            due(n + " days to 999", x.days(n), 999);
            BarberJars y = atDay(told("p1 1 2 3;"), 1000 - n);
            due(n + " days to 1000", y.days(n), STATE);
            due("the day stays", y.now(0), 1000 - n);
            if (n > 1) {
                due("one less goes", y.days(n - 1), 999);
            }
            unchanged("at 999", () -> atDay(told("p1 1 2 3;"), 999), z -> z.days(days), STATE);
        }
        sentence("BAD ahead of STATE");
        for (int n : new int[] {0, 10, -1, Integer.MIN_VALUE, Integer.MAX_VALUE}) {
            due("days " + n + " at 999", atDay(told("p1 1;"), 999).days(n), BAD);
        }
        sentence("with nobody days go by, too");
        BarberJars nobody = atDay(new BarberJars(), 998);
        due("to 1000", nobody.days(2), STATE);
        due("to 999", nobody.days(1), 999);
        due("to 1000", nobody.days(1), STATE);
        due("undone", nobody.undo(), 9);
        due("998", nobody.now(0), 998);
    }

    private static void theWeekGoesRound() {
        sentence("the one of his WEEK (the one of DAY left over by how many there are)");
        for (int size = 1; size <= 7; size++) {
            StringBuilder b = new StringBuilder("p0");
            for (int k = 0; k < size; k++) {
                b.append(' ').append(9 - k);
            }
            BarberJars x = told(b + ";");
            for (int day = 0; day < 30; day++) {
                x.days(1);
                due(size + " in the week, day " + day, x.layer(0, Math.min(day, 11)), 9 - day % size);
            }
            BarberJars y = atDay(told(b + ";"), 999);
            for (int k = 0; k < 12; k++) {
                due(size + " in the week, the last days", y.layer(0, k), 9 - (987 + k) % size);
            }
        }
        sentence("each of PEOPLE by his own WEEK");
        BarberJars x = told("p0 1 2;p0 3 4 5;");
        x.days(4);
        hairIs("two in the week", x, 0, 1, 2, 1, 2);
        hairIs("three in the week", x, 1, 3, 4, 5, 3);
        sentence("a MIND that was made up leaves the WEEK as it goes by the DAY");
        BarberJars y = told("p0 1 2 3;");
        y.minds(0, 9);
        y.days(4);
        hairIs("the second day has the second", y, 0, 9, 2, 3, 1);
    }

    private static void theLongest() {
        sentence("if there would be more than LONGEST layers, the one at the tip falls out");
        for (int most = 1; most <= 12; most++) {
            BarberJars x = atDay(told("m" + most + ";p9 0 1 2 3 4 5 6;"), most);
            due("just the longest", x.one(0, 2), most);
            due("the first is still there", x.layer(0, 0), 0);
            due("the last", x.layer(0, most - 1), (most - 1) % 7);
            due("none behind it", most < 12 ? x.layer(0, most) : NONE, NONE);
            x.days(1);
            due("one more: no longer", x.one(0, 2), most);
            due("the tip fell out", x.layer(0, 0), 1);
            due("the root is new", x.layer(0, most - 1), most % 7);
            due("it is in no jar", x.now(3), 0);
            x.days(9);
            due("ten more", x.one(0, 2), most);
            due("the root", x.layer(0, most - 1), (most + 9) % 7);
            due("in no jar", x.now(3), 0);
        }
        BarberJars x = atDay(told("p1 0 1 2 3 4 5 6;"), 12);
        due("12 if it isn't told", x.one(0, 2), 12);
        x.days(1);
        due("the 13th", x.one(0, 2), 12);
        due("the tip fell out", x.layer(0, 0), 1);
    }

    private static void madeUp() {
        sentence("MADE UP: one's MIND, to a THOUGHT, for the next DAY (made up anew: the later)");
        BarberJars x = told("p0 1;p0 2;");
        due("to 0", x.minds(0, 0), NONE);
        due("of the other", x.minds(1, 9), NONE);
        due("anew", x.minds(0, 9), 0);
        due("and back", x.minds(0, 0), 9);
        due("to what the week has", x.minds(1, 2), 9);
        x.days(3);
        hairIs("the later, once", x, 0, 0, 1, 1);
        hairIs("the later, once", x, 1, 2, 2, 2);
        sentence("(that is over then)");
        due("over", x.one(0, 3), NONE);
        due("over", x.one(1, 3), NONE);
        due("made up as before, it is new", x.minds(0, 0), NONE);
        sentence("Promise 10: BAD; STATE: it is so");
        for (int t = 0; t <= 9; t++) {
            int thought = t;
            unchanged("so already", () -> {
                BarberJars y = told("p0 1;p0 2;");
                y.minds(1, thought);
                return y;
            }, y -> y.minds(1, thought), STATE);
        }
        for (int t : new int[] {-1, 10, NONE, NO, Integer.MIN_VALUE, Integer.MAX_VALUE}) {
            due("thought " + t, x.minds(1, t), BAD);
            due("nobody and thought " + t, x.minds(2, t), BAD);
        }
        for (int p : new int[] {-1, 2, 5, Integer.MIN_VALUE, Integer.MAX_VALUE}) {
            due("one " + p, x.minds(p, 0), BAD);
        }
        due("the other's is free", x.one(1, 3), NONE);
        due("his stays", x.one(0, 3), 0);
    }

    private static void cut() {
        sentence("CUT: n (1 .. 12) layers of one come off, from the tip on; Promise 11: how many layers are left");
        for (int n = 1; n <= 12; n++) {
            BarberJars x = atDay(told("p0 0 1 2 3 4 5 6;p9 9;"), 12);
            due("cut " + n + " of 12", x.cuts(0, n), 12 - n);
            due("layers", x.one(0, 2), 12 - n);
            for (int k = 0; k < 12; k++) {
                due("layer " + k, x.layer(0, k), k < 12 - n ? (k + n) % 7 : NONE);
            }
            due("swept", x.now(3), n);
            due("the other is not cut", x.one(1, 2), 12);
            for (int t = 0; t < 7; t++) {
                due("swept of " + t, x.jar(0, t), (n + 6 - t) / 7);
            }
        }
        sentence("Promise 11: BAD");
        for (int n : new int[] {0, 13, -1, Integer.MIN_VALUE, Integer.MAX_VALUE}) {
            unchanged("cut " + n, () -> atDay(told("p0 1;"), 12), x -> x.cuts(0, n), BAD);
            due("cut " + n + " of none: BAD ahead of STATE", told("p0 1;").cuts(0, n), BAD);
        }
        for (int p : new int[] {-1, 1, 5, Integer.MIN_VALUE, Integer.MAX_VALUE}) {
            unchanged("cut one " + p, () -> atDay(told("p0 1;"), 12), x -> x.cuts(p, 1), BAD);
            due("nobody and too much: BAD", told("p0 1;").cuts(p, 12), BAD);
        }
        sentence("Promise 11: STATE: he has not so many");
        for (int has = 0; has < 12; has++) {
            int many = has;
            unchanged("one too many of " + has, () -> atDay(told("p0 1 2;p0 1;"), many), x -> x.cuts(0, many + 1), STATE);
            unchanged("12 of " + has, () -> atDay(told("p0 1 2;p0 1;"), many), x -> x.cuts(0, 12), STATE);
            if (has > 0) {
                due("all of " + has, atDay(told("p0 1 2;"), has).cuts(0, has), 0);
            }
        }
        BarberJars x = atDay(told("m3;p0 1 2;"), 9);
        due("the longest is 3: four", x.cuts(0, 4), STATE);
        due("three", x.cuts(0, 3), 0);
        due("of none one", x.cuts(0, 1), STATE);
        sentence("hair that was cut grows on");
        x.days(1);
        hairIs("a new layer", x, 0, 2);
    }

    /** Sweeps n layers of thought 4 into the jar under the chair. */
    private static BarberJars swept(BarberJars x, int n) {
        for (int left = n; left > 0; ) {
            int some = Math.min(9, left);
            x.days(some);
            x.cuts(0, some);
            left -= some;
        }
        return x;
    }

    private static void sweptAtMost() {
        sentence("each is SWEPT into the JAR under the chair: it has one more of that THOUGHT (99 at most)");
        BarberJars x = swept(told("j1;p0 4;p0 5;"), 98);
        due("98", x.jar(1, 4), 98);
        swept(x, 1);
        due("99", x.jar(1, 4), 99);
        swept(x, 1);
        due("99 still", x.jar(1, 4), 99);
        due("but he is cut", x.one(0, 2), 0);
        swept(x, 9);
        due("99 still", x.jar(1, 4), 99);
        due("all jars", x.now(3), 99);
        x.cuts(1, 12);
        due("another thought is not full", x.jar(1, 5), 12);
        due("nor is another jar", x.jar(0, 4), 0);
        x.changes(3);
        swept(x, 2);
        due("swept into the other", x.jar(3, 4), 2);
        due("99 and 12 and 2", x.now(3), 113);
        sentence("a cut that goes beyond 99");
        BarberJars y = swept(told("p0 4;"), 97);
        y.days(9);
        due("five", y.cuts(0, 5), 4);
        due("99", y.jar(0, 4), 99);
        due("undone", y.undo(), 9);
        due("97 again", y.jar(0, 4), 97);
        due("emptied", y.empties(0), 97);
        swept(y, 1);
        due("from 0 on again", y.jar(0, 4), 1);
        sentence("a JAR that has 99 of one THOUGHT takes the others of the same cut");
        BarberJars z = swept(told("p0 4;"), 99);
        z.minds(0, 9);
        z.days(1);
        z.minds(0, 0);
        z.days(2);
        z.cuts(0, 3);
        jarIs("9, 0 and 99 of 4", z, 0, 1, 0, 0, 0, 99, 0, 0, 0, 0, 1);
    }

    private static void aJarThatIsFull() {
        sentence("99 at most of each THOUGHT: a JAR that is full of all");
        BarberJars x = told("p0 0 1;p2 2 3;p4 4 5;p6 6 7;p8 8 9;");
        for (int round = 0; round < 18; round++) {
            x.days(9);
            x.days(3);
            for (int p = 0; p < 5; p++) {
                x.cuts(p, 12);
            }
        }
        jarIs("99 of each", x, 0, 99, 99, 99, 99, 99, 99, 99, 99, 99, 99);
        due("what all jars have", x.now(3), 990);
        due("of like ones the lowest", x.reads(0, 0), 0);
        due("all blush", x.reads(0, 1), 31);
        x.days(1);
        x.cuts(0, 1);
        due("it has no more", x.now(3), 990);
        due("emptied", x.empties(0), 990);
        due("empty", x.now(3), 0);
    }

    private static void changed() {
        sentence("Promise 12: CHANGED: which was under the chair. BAD; STATE: it is");
        for (int from = 0; from <= 3; from++) {
            int was = from;
            for (int to = 0; to <= 3; to++) {
                BarberJars x = told("p1 1;j" + from + ";");
                due(from + " to " + to, x.changes(to), from == to ? STATE : from);
                due("under the chair", x.now(1), to);
                due("to be undone", x.count(4), from == to ? 0 : 1);
            }
            unchanged("it is", () -> told("p1 1;j" + was + ";"), x -> x.changes(was), STATE);
        }
        for (int j : new int[] {-1, 4, NONE, Integer.MIN_VALUE, Integer.MAX_VALUE}) {
            unchanged("jar " + j, () -> told("p1 1;j2;"), x -> x.changes(j), BAD);
        }
        sentence("CHANGED: another JAR is under the chair");
        BarberJars x = told("p1 1;");
        x.days(8);
        for (int j : new int[] {3, 2, 1, 0}) {
            x.changes(j);
            x.cuts(0, j + 1 > x.one(0, 2) ? x.one(0, 2) : j + 1);
        }
        int[] has = {0, 1, 3, 4};
        for (int j = 0; j < 4; j++) {
            due("swept into " + j, x.jar(j, 1), has[j]);
        }
    }

    private static BarberJars sweptIntoAll() {
        BarberJars x = told("p0 0 1 2 3 4 5 6;p0 9 8 7;");
        x.days(9);
        x.days(3);
        x.cuts(0, 1);
        x.changes(1);
        x.cuts(0, 2);
        x.cuts(1, 3);
        x.changes(2);
        x.cuts(0, 9);
        return x;
    }

    private static void emptied() {
        sentence("Promise 13: EMPTIED: how much it had. BAD; STATE: nothing");
        int[] had = {1, 5, 9, STATE};
        for (int j = 0; j < 4; j++) {
            BarberJars x = sweptIntoAll();
            due("empties " + j, x.empties(j), had[j]);
            jarIs("none of all thoughts", x, j);
            due("the other jars stay", x.now(3), 15 - Math.max(0, had[j]));
            due("empties again", x.empties(j), STATE);
            due("reads", x.reads(j, 0), NONE);
            due("nobody blushes", x.reads(j, 1), 0);
            due("the one under the chair stays", x.now(1), 2);
        }
        unchanged("nothing", DeedBoundsTest::sweptIntoAll, x -> x.empties(3), STATE);
        for (int j : new int[] {-1, 4, NONE, Integer.MIN_VALUE, Integer.MAX_VALUE}) {
            unchanged("jar " + j, DeedBoundsTest::sweptIntoAll, x -> x.empties(j), BAD);
        }
    }

    private static void tenAreKnown() {
        sentence("UNDONE (10 are known, older ones are lost); Promise 14: how many more may be. STATE: none");
        for (int deeds = 0; deeds <= 14; deeds++) {
            BarberJars x = told("p0 1 2 3;");
            for (int i = 0; i < deeds; i++) {
                x.days(1);
            }
            int known = Math.min(deeds, 10);
            due(deeds + " deeds, known", x.count(4), known);
            for (int left = known - 1; left >= 0; left--) {
                due("undo", x.undo(), left);
                due("may be undone", x.count(4), left);
                due("the day", x.now(0), deeds - known + left);
                due("layers", x.one(0, 2), Math.min(12, deeds - known + left));
            }
            due("none", x.undo(), STATE);
            due("the day", x.now(0), deeds - known);
        }
        unchanged("undo of nothing", () -> told("p0 1;"), BarberJars::undo, STATE);
        unchanged("undo of nothing that is left", () -> {
            BarberJars x = told("p0 1;");
            for (int i = 0; i < 12; i++) {
                x.days(1);
            }
            for (int i = 0; i < 10; i++) {
                x.undo();
            }
            return x;
        }, BarberJars::undo, STATE);
        sentence("what is done behind an undo is known as the latest");
        BarberJars x = told("p0 1;");
        for (int i = 0; i < 10; i++) {
            x.days(1);
        }
        x.undo();
        x.undo();
        x.days(9);
        due("known", x.count(4), 9);
        x.days(1);
        due("ten", x.count(4), 10);
        x.days(1);
        due("the oldest is lost", x.count(4), 10);
        int[] days = {18, 17, 8, 7, 6, 5, 4, 3, 2, 1};
        for (int i = 0; i < days.length; i++) {
            due("undo", x.undo(), 9 - i);
            due("day", x.now(0), days[i]);
        }
        due("none", x.undo(), STATE);
    }

    /** The tip that fell out, a mind that was over, 99 that stayed 99: all must come back. */
    private static void eachDeedIsUndone() {
        sentence("UNDONE: the latest DAYS, MADE UP, CUT, CHANGED, EMPTIED: all is as ahead of it");
        Call[] deeds = {x -> x.days(1), x -> x.days(9), x -> x.minds(0, 5), x -> x.minds(1, 0), x -> x.cuts(0, 1),
            x -> x.cuts(1, 3), x -> x.changes(0), x -> x.changes(3), x -> x.empties(2), x -> x.empties(0)};
        int[] answers = {19, 27, NONE, 7, 2, 0, 2, 2, 3, 9};
        for (int i = 0; i < deeds.length; i++) {
            Call deed = deeds[i];
            due("deed " + i, deed.on(inTheMiddle()), answers[i]);
            BarberJars x = inTheMiddle();
            deed.on(x);
            due("it may be undone", x.count(4), 10);
            unchanged("deed " + i + " and undo", DeedBoundsTest::inTheMiddle, y -> {
                deed.on(y);
                return y.undo();
            }, 9);
        }
    }

    /** Nine deeds, so that one more is the last that is known without another being lost. */
    private static BarberJars inTheMiddle() {
        BarberJars x = told("m3;p1 1 2;p0 3 4 5;");
        x.days(9);
        x.cuts(0, 3);
        x.cuts(1, 3);
        x.days(6);
        x.cuts(1, 3);
        x.changes(2);
        x.keep(0);
        x.cuts(0, 3);
        x.days(3);
        x.minds(1, 7);
        x.keep(1);
        return x;
    }

    private static void whatCantBeUndone() {
        sentence("DAYS, MADE UP, CUT, CHANGED, EMPTIED alone are UNDONE");
        BarberJars x = told("p1 1 2;");
        x.days(2);
        Call[] others = {y -> y.keep(0), y -> y.back(0), y -> y.saw(1), y -> y.hears(1, 1), y -> y.forget(),
            y -> y.mark(5, 0), y -> y.type(35), y -> y.shop(), y -> y.clear(), y -> y.days(0), y -> y.days(10),
            y -> y.minds(0, 10), y -> y.cuts(0, 3), y -> y.cuts(0, 13), y -> y.changes(0), y -> y.empties(0),
            y -> y.plan(0, 5, 5, 0), y -> y.least(0, 1, 1), y -> y.reads(0, 0), y -> y.wig(2), y -> y.sets(0)};
        for (int i = 0; i < others.length; i++) {
            others[i].on(x);
            due("known behind call " + i, x.count(4), 1);
        }
        due("undo", x.undo(), 0);
        due("the day", x.now(0), 0);
        due("the trace stays", x.trace(), 100001);
        sentence("what is SEEN, HEARD is not UNDONE");
        BarberJars y = told("p1 1 2;");
        y.days(2);
        y.saw(1);
        y.hears(1, 1);
        y.type(35);
        y.undo();
        due("seen", y.count(2), 1);
        due("heard", y.count(3), 1);
        due("text", y.count(5), 1);
    }

    private static void one() {
        sentence("Promise 5: 4 how many layers are his SECRET");
        for (int n = 0; n <= 12; n++) {
            BarberJars x = atDay(told("p4 4;p4 5;p4 4 5;"), n);
            due("all of " + n, x.one(0, 4), n);
            due("none of " + n, x.one(1, 4), 0);
            due("each second of " + n, x.one(2, 4), (n + 1) / 2);
        }
        due("12 at most", atDay(told("p4 4;"), 30).one(0, 4), 12);
        sentence("Promise 5: 3 to what his MIND is made up (NONE)");
        for (int t = 0; t <= 9; t++) {
            BarberJars x = told("p4 4;p3 3;");
            x.minds(1, t);
            due("made up", x.one(1, 3), t);
            due("the other's not", x.one(0, 3), NONE);
        }
        sentence("Promise 5: BAD");
        BarberJars x = told("p4 4;p3 3;");
        for (int v : new int[] {-1, 2, 5, Integer.MIN_VALUE, Integer.MAX_VALUE}) {
            for (int what = 0; what < 5; what++) {
                due("one " + v, x.one(v, what), BAD);
            }
        }
        for (int v : new int[] {-1, 5, Integer.MIN_VALUE, Integer.MAX_VALUE}) {
            due("what " + v, x.one(0, v), BAD);
        }
    }

    private static void week() {
        sentence("Promise 6: the k-th THOUGHT (0 ..); NONE (not so many). BAD (k 0 .. 6)");
        BarberJars x = told("p0 9;p0 1 2 3 4 5 6 7;p0 5 5 5;");
        int[] sizes = {1, 7, 3};
        for (int p = 0; p < 3; p++) {
            due("the last", x.week(p, sizes[p] - 1), p == 0 ? 9 : p == 1 ? 7 : 5);
            for (int k = sizes[p]; k < 7; k++) {
                due("not so many", x.week(p, k), NONE);
            }
            for (int k : new int[] {-1, 7, Integer.MIN_VALUE, Integer.MAX_VALUE}) {
                due("k " + k, x.week(p, k), BAD);
            }
        }
        due("the first", x.week(1, 0), 1);
        for (int p : new int[] {-1, 3, 5, Integer.MIN_VALUE, Integer.MAX_VALUE}) {
            due("one " + p, x.week(p, 0), BAD);
            due("one " + p, x.week(p, 6), BAD);
        }
        sentence("a shorter WEEK told behind a longer one has no rest of it");
        typed(x, "p1 2;p1 3;");
        x.shop();
        for (int k = 1; k < 7; k++) {
            due("not so many", x.week(1, k), NONE);
        }
        due("the third is gone", x.week(2, 0), BAD);
    }

    private static void layer() {
        sentence("Promise 7: the k-th layer (0 the one at the tip); NONE (not so many). BAD (k 0 .. 11)");
        for (int n = 0; n <= 12; n++) {
            BarberJars x = atDay(told("p0 0 1 2 3 4 5 6;"), n);
            for (int k = 0; k < 12; k++) {
                due(n + " layers, the one at " + k, x.layer(0, k), k < n ? k % 7 : NONE);
            }
            for (int k : new int[] {-1, 12, Integer.MIN_VALUE, Integer.MAX_VALUE}) {
                due(n + " layers, k " + k, x.layer(0, k), BAD);
            }
            for (int p : new int[] {-1, 1, 5, Integer.MIN_VALUE, Integer.MAX_VALUE}) {
                due("one " + p, x.layer(p, 0), BAD);
            }
        }
        sentence("layers that were cut off or undone are no more");
        BarberJars x = atDay(told("m4;p0 0 1 2 3 4 5 6;"), 4);
        x.cuts(0, 1);
        hairIs("cut", x, 0, 1, 2, 3);
        x.cuts(0, 3);
        hairIs("all cut", x, 0);
    }

    private static void jar() {
        sentence("Promise 8: how many of a THOUGHT a JAR has. BAD");
        for (int j = 0; j <= 3; j++) {
            BarberJars x = told("j" + j + ";p5 0 9;");
            x.days(5);
            x.cuts(0, 5);
            for (int i = 0; i <= 3; i++) {
                jarIs("jar " + i, x, i, i == j ? 3 : 0, 0, 0, 0, 0, 0, 0, 0, 0, i == j ? 2 : 0);
            }
            for (int v : new int[] {-1, 4, Integer.MIN_VALUE, Integer.MAX_VALUE}) {
                due("jar " + v, x.jar(v, 0), BAD);
                due("jar " + v, x.jar(v, 9), BAD);
            }
            for (int v : new int[] {-1, 10, Integer.MIN_VALUE, Integer.MAX_VALUE}) {
                due("thought " + v, x.jar(0, v), BAD);
                due("thought " + v, x.jar(3, v), BAD);
            }
        }
    }

    private static void now() {
        sentence("Promise 15: 0 the DAY, 1 the JAR under the chair, 2 layers of all, 3 what all JARS have. BAD");
        BarberJars x = atDay(told("p1 1;p2 2;p3 3;p4 4;p5 5;"), 12);
        due("60 layers at most", x.now(2), 60);
        x.days(1);
        due("60 still", x.now(2), 60);
        x.cuts(4, 12);
        due("48", x.now(2), 48);
        due("12 swept", x.now(3), 12);
        for (int j = 1; j <= 3; j++) {
            x.changes(j);
            x.cuts(j, 10 + (j + 1) / 2);
            due("the jar", x.now(1), j);
        }
        due("of all jars", x.now(3), 12 + 11 + 11 + 12);
        due("layers of all", x.now(2), 60 - 46);
        due("the day", x.now(0), 13);
        for (int what : new int[] {-1, 4, Integer.MIN_VALUE, Integer.MAX_VALUE}) {
            due("what " + what, x.now(what), BAD);
        }
        sentence("PEOPLE of the text before have no layers any more");
        typed(x, "p1 1;");
        x.shop();
        x.days(2);
        due("two", x.now(2), 2);
    }
}
