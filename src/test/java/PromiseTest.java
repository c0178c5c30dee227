/** Each promise of the document by hand: ordinary inputs, the edges it names, wrong inputs. */
public final class PromiseTest extends Check {
    private static void fault(String text, int place) {
        BarberJars x = told("p1 2;");
        typed(x, text);
        due("fault of '" + text + "'", x.shop(), -10 - place);
        due("text stays", x.count(5), text.length());
        due("people stay", x.count(0), 1);
    }

    public static void main(String[] args) {
        newObject();
        typeAndClear();
        shopTells();
        shopFaults();
        shopBeginsAnew();
        oneWeekLayerJar();
        daysGoBy();
        mindsAreMadeUp();
        hairIsCut();
        jarsAreChangedAndEmptied();
        deedsAreUndone();
        nowAndReads();
        plans();
        leastDays();
        wigs();
        odds();
        locks();
        sums();
        forgets();
        marks();
        images();
        counts();
        end();
    }

    private static void newObject() {
        BarberJars x = new BarberJars();
        int[] counts = {0, 12, 0, 0, 0, 0};
        for (int i = 0; i < 6; i++) {
            due("new count " + i, x.count(i), counts[i]);
        }
        for (int i = 0; i < 4; i++) {
            due("new now " + i, x.now(i), 0);
        }
        due("new trace", x.trace(), 0);
        due("nobody", x.one(0, 0), BAD);
        due("nobody is marked", x.mark(0, 0), -1000000);
        due("no image", x.back(0), STATE);
        due("no plan of nobody", x.plan(0, 1, 1, 0), BAD);
        due("no least of nobody", x.least(0, 0, 1), BAD);
    }

    private static void typeAndClear() {
        BarberJars x = new BarberJars();
        due("type 0", x.type(0), 1);
        due("type 255", x.type(255), 2);
        due("type -1", x.type(-1), BAD);
        due("type 256", x.type(256), BAD);
        for (int i = 3; i <= 120; i++) {
            due("type", x.type(32), i);
        }
        due("a byte too many", x.type(32), FULL);
        due("a wrong byte is BAD first", x.type(256), BAD);
        due("clear", x.clear(), 120);
        due("clear again", x.clear(), 0);
        due("type anew", x.type(112), 1);
    }

    private static void shopTells() {
        BarberJars x = new BarberJars();
        typed(x, "  m 9 ;j3;p 4 5 6;p0 0 1 2 3 4 5 6;  ");
        due("items", x.shop(), 4);
        due("text is empty", x.count(5), 0);
        due("people", x.count(0), 2);
        due("longest", x.count(1), 9);
        due("chair", x.now(1), 3);
        due("secret", x.one(0, 0), 4);
        due("week", x.one(1, 1), 7);
        typed(x, "p9 9");
        StringBuilder b = new StringBuilder();
        for (int i = 0; i < 114; i++) {
            b.append(' ');
        }
        typed(x, b.append("9;").toString());
        due("120 bytes", x.count(5), 120);
        due("items of 120 bytes", x.shop(), 1);
        due("longest as at first", x.count(1), 12);
        due("chair as at first", x.now(1), 0);
        due("two thoughts", x.one(0, 1), 2);
        due("an empty text has no items", x.shop(), 0);
        due("an empty text tells of nobody", x.count(0), 0);
    }

    private static void shopFaults() {
        fault("p", 1);
        fault("p  ", 3);
        fault("p1", 2);
        fault("p1 1", 4);
        fault("p1;", 2);
        fault("p;", 1);
        fault(";", 0);
        fault("  ;", 2);
        fault("5", 0);
        fault("q1;", 0);
        fault("pm1;", 0);
        fault("P1 1;", 0);
        fault("p10 1;", 1);
        fault("p1 10;", 3);
        fault("p1 01;", 3);
        fault("p1 00;", 3);
        fault("p1 100;", 3);
        fault("p1 4294967297;", 3);
        fault("p1 1 1 1 1 1 1 1 1;", 17);
        fault("p1 1 1 1 1 1 1 1 99999", 17);
        fault("p1 1x;", 4);
        fault("p1 1 p;", 5);
        fault("p1 1#", 4);
        fault("m0;", 1);
        fault("m13;", 1);
        fault("m1 1;", 3);
        fault("m;", 1);
        fault("m", 1);
        fault("m5;m", 3);
        fault("m5", 2);
        fault("j4;", 1);
        fault("j0;j0;", 3);
        fault("j;", 1);
        fault("p1 1;p1 1;p1 1;p1 1;p1 1;p", 25);
        fault("p1 1;;", 5);
        fault("p1 10;#", 3);
        fault("p1 1; #", 6);
    }

    private static void shopBeginsAnew() {
        BarberJars x = told("j2;p1 1 2;");
        x.days(5);
        x.cuts(0, 2);
        x.minds(0, 9);
        x.keep(0);
        x.keep(1);
        x.saw(1);
        x.hears(1, 1);
        x.mark(0, 0);
        typed(x, "p1 1 2;");
        due("read anew", x.shop(), 1);
        for (int i = 0; i < 4; i++) {
            due("now " + i + " is as at first", x.now(i), 0);
        }
        hairIs("nobody has hair", x, 0);
        due("no mind is made up", x.one(0, 3), NONE);
        due("nothing is seen", x.count(2), 0);
        due("nothing is heard", x.count(3), 0);
        due("nothing may be undone", x.undo(), STATE);
        due("image 0 is gone", x.back(0), STATE);
        due("image 1 is gone", x.back(1), STATE);
        due("the trace is not told of", x.trace(), 1);
    }

    private static void oneWeekLayerJar() {
        BarberJars x = told("p2 1 2;p3 3;");
        x.days(3);
        x.minds(0, 7);
        int[] answers = {2, 2, 3, 7, 1};
        for (int i = 0; i < answers.length; i++) {
            due("one " + i, x.one(0, i), answers[i]);
        }
        due("one 5", x.one(0, 5), BAD);
        due("one -1", x.one(0, -1), BAD);
        due("one of nobody", x.one(2, 0), BAD);
        due("one of -1", x.one(-1, 0), BAD);
        due("week", x.week(0, 1), 2);
        due("week behind its end", x.week(0, 2), NONE);
        due("week 6", x.week(0, 6), NONE);
        due("week 7", x.week(0, 7), BAD);
        due("week -1", x.week(0, -1), BAD);
        due("week of nobody", x.week(2, 0), BAD);
        hairIs("three days", x, 0, 1, 2, 1);
        due("layer 12", x.layer(0, 12), BAD);
        due("layer -1", x.layer(0, -1), BAD);
        due("layer of nobody", x.layer(2, 0), BAD);
        x.cuts(1, 3);
        due("jar", x.jar(0, 3), 3);
        due("jar of another", x.jar(1, 3), 0);
        due("jar 4", x.jar(4, 3), BAD);
        due("jar -1", x.jar(-1, 3), BAD);
        due("jar thought 10", x.jar(0, 10), BAD);
        due("jar thought -1", x.jar(0, -1), BAD);
    }

    private static void daysGoBy() {
        BarberJars x = told("m3;p0 1 2 3 4 5;");
        due("days 0", x.days(0), BAD);
        due("days 10", x.days(10), BAD);
        due("days 2", x.days(2), 2);
        hairIs("below the longest", x, 0, 1, 2);
        due("days 4", x.days(4), 6);
        hairIs("the tip falls out", x, 0, 4, 5, 1);
        due("what falls out is not swept", x.now(3), 0);
        BarberJars y = told("p0 1 2 3 4 5 6 7;");
        for (int i = 1; i <= 110; i++) {
            due("nine days", y.days(9), 9 * i);
        }
        due("990 and 9", y.days(9), 999);
        due("day 1000", y.days(1), STATE);
        due("bad is ahead of the state", y.days(10), BAD);
        due("day 998 has the week's place 4", y.layer(0, 11), 998 % 7 + 1);
        due("a plan may look beyond", y.plan(0, 20, 12, 0), 0);
        y.undo();
        due("990 and 8", y.days(8), 998);
        due("two more", y.days(2), STATE);
        due("one more", y.days(1), 999);
    }

    private static void mindsAreMadeUp() {
        BarberJars x = told("p0 1;p0 2;");
        due("made up", x.minds(0, 5), NONE);
        due("so already", x.minds(0, 5), STATE);
        due("made up anew", x.minds(0, 6), 5);
        due("of nobody", x.minds(2, 5), BAD);
        due("thought 10", x.minds(0, 10), BAD);
        due("thought -9", x.minds(0, -9), BAD);
        x.days(2);
        hairIs("for the next day alone", x, 0, 6, 1);
        hairIs("of one alone", x, 1, 2, 2);
        due("over then", x.one(0, 3), NONE);
        due("up to what he thinks anyway", x.minds(0, 1), NONE);
    }

    private static void hairIsCut() {
        BarberJars x = told("p0 1 2 3;p5 4;");
        x.days(5);
        due("cut 0", x.cuts(0, 0), BAD);
        due("cut 13", x.cuts(0, 13), BAD);
        due("cut nobody", x.cuts(2, 1), BAD);
        due("cut too much", x.cuts(0, 6), STATE);
        due("cut from the tip", x.cuts(0, 2), 3);
        hairIs("what is left", x, 0, 3, 1, 2);
        due("swept 1", x.jar(0, 1), 1);
        due("swept 2", x.jar(0, 2), 1);
        due("not swept", x.jar(0, 3), 0);
        due("cut all", x.cuts(0, 3), 0);
        due("cut none", x.cuts(0, 1), STATE);
        for (int i = 0; i < 11; i++) {
            x.days(9);
            x.cuts(1, 9);
        }
        due("99 of a thought", x.jar(0, 4), 99);
        x.days(1);
        due("one more is cut", x.cuts(1, 1), 3);
        due("no more than 99", x.jar(0, 4), 99);
        x.changes(3);
        x.cuts(1, 3);
        due("another jar", x.jar(3, 4), 3);
    }

    private static void jarsAreChangedAndEmptied() {
        BarberJars x = told("j1;p0 1 2;");
        due("changed to itself", x.changes(1), STATE);
        due("changed", x.changes(3), 1);
        due("changed to 4", x.changes(4), BAD);
        due("changed to -1", x.changes(-1), BAD);
        due("empty", x.empties(3), STATE);
        due("empties 4", x.empties(4), BAD);
        due("empties -1", x.empties(-1), BAD);
        x.days(5);
        x.cuts(0, 5);
        due("emptied", x.empties(3), 5);
        due("nothing is left", x.now(3), 0);
        due("emptied again", x.empties(3), STATE);
    }

    private static void deedsAreUndone() {
        BarberJars x = told("p0 1 2;");
        due("nothing to undo", x.undo(), STATE);
        x.days(9);
        x.minds(0, 5);
        x.cuts(0, 4);
        x.changes(2);
        x.empties(0);
        due("five may be", x.count(4), 5);
        due("undo empties", x.undo(), 4);
        due("full again", x.jar(0, 1), 2);
        due("undo changes", x.undo(), 3);
        due("under the chair again", x.now(1), 0);
        due("undo cuts", x.undo(), 2);
        hairIs("uncut again", x, 0, 1, 2, 1, 2, 1, 2, 1, 2, 1);
        due("unswept again", x.now(3), 0);
        due("undo minds", x.undo(), 1);
        due("not made up again", x.one(0, 3), NONE);
        due("undo days", x.undo(), 0);
        due("all nine", x.now(0), 0);
        hairIs("no hair again", x, 0);
        for (int i = 1; i <= 12; i++) {
            x.days(1);
        }
        due("10 are known", x.count(4), 10);
        x.days(0);
        x.changes(0);
        due("what is refused can't be undone", x.count(4), 10);
        for (int i = 9; i >= 0; i--) {
            due("undo", x.undo(), i);
        }
        due("older ones are lost", x.undo(), STATE);
        due("two days are left", x.now(0), 2);
    }

    private static void nowAndReads() {
        BarberJars x = told("p3 4 3;p1 2;");
        due("empty", x.reads(0, 0), NONE);
        due("nobody blushes", x.reads(0, 1), 0);
        x.days(6);
        due("layers of all", x.now(2), 12);
        due("now 4", x.now(4), BAD);
        due("now -1", x.now(-1), BAD);
        x.cuts(0, 1);
        due("4 alone", x.reads(0, 0), 4);
        due("4 is no secret", x.reads(0, 1), 0);
        x.cuts(0, 1);
        due("of like ones the lowest", x.reads(0, 0), 3);
        due("3 is the secret of 0", x.reads(0, 1), 1);
        x.cuts(0, 1);
        due("4 twice", x.reads(0, 0), 4);
        x.minds(1, 1);
        x.days(1);
        x.changes(1);
        x.cuts(1, 7);
        due("2 most", x.reads(1, 0), 2);
        due("1 is the secret of 1", x.reads(1, 1), 2);
        due("all jars", x.now(3), 10);
        due("reads 4", x.reads(4, 0), BAD);
        due("reads what 2", x.reads(0, 2), BAD);
        due("reads what -1", x.reads(0, -1), BAD);
    }

    private static void plans() {
        BarberJars x = told("p9 1;");
        due("one day", x.plan(0, 1, 1, 0), 0);
        due("two days, one cut", x.plan(0, 2, 1, 0), 1);
        due("cut to nothing every second evening", x.plan(0, 20, 1, 0), 10);
        due("every fourth evening", x.plan(0, 20, 3, 0), 5);
        due("every thirteenth evening, but the longest is 12", x.plan(0, 20, 12, 0), 0);
        due("never fails", x.plan(0, 20, 1, 1), NONE);
        due("n 0", x.plan(0, 0, 1, 0), BAD);
        due("n 21", x.plan(0, 21, 1, 0), BAD);
        due("w 0", x.plan(0, 1, 0, 0), BAD);
        due("w 13", x.plan(0, 1, 13, 0), BAD);
        due("what 2", x.plan(0, 1, 1, 2), BAD);
        due("what -1", x.plan(0, 1, 1, -1), BAD);
        due("nobody", x.plan(1, 1, 1, 0), BAD);
        BarberJars y = told("m4;p5 5 1 1 1 1 1 1;");
        due("the secret grows first: it can't be cut off", y.plan(0, 4, 3, 0), NONE);
        due("it fails when a fourth layer is there", y.plan(0, 4, 3, 1), 4);
        due("it falls out at the longest", y.plan(0, 6, 4, 0), 0);
        y.days(1);
        y.minds(0, 5);
        due("his mind on the first day", y.plan(0, 4, 3, 1), 3);
        BarberJars z = told("p5 5 1 1 1 1 1 1;");
        z.days(4);
        due("fails at once", z.plan(0, 1, 3, 1), 1);
        due("nothing is changed", z.now(2), 4);
        due("nothing is to be undone of it", z.count(4), 1);
        // 1 1 5: cut ahead of the secret, then it stays
        BarberJars v = told("p5 1 1 5;");
        due("cut both ones off", v.plan(0, 3, 1, 0), 1);
        due("the secret can stay alone one evening", v.plan(0, 4, 1, 1), 4);
    }

    private static void leastDays() {
        BarberJars x = told("m5;p0 1;");
        x.days(5);
        due("two of five are not most", x.least(0, 2, 2), NONE);
        due("three of five are", x.least(0, 2, 3), 3);
        due("of eight days three", x.least(0, 2, 8), 3);
        due("what he thinks anyway", x.least(0, 1, 8), 0);
        x.minds(0, 2);
        due("one day less, as his mind is made up", x.least(0, 2, 3), 2);
        due("his mind falls out too", x.least(0, 2, 8), 3);
        due("nothing is changed", x.one(0, 3), 2);
        due("n 0", x.least(0, 2, 0), BAD);
        due("n 9", x.least(0, 2, 9), BAD);
        due("thought 10", x.least(0, 10, 1), BAD);
        due("thought -1", x.least(0, -1, 1), BAD);
        due("nobody", x.least(1, 1, 1), BAD);
        BarberJars y = told("p0 1 2;");
        due("a tie is not more", y.least(0, 1, 2), 1);
        due("a day alone", y.least(0, 1, 1), 0);
        due("three of four thoughts of others", y.least(0, 3, 4), 2);
    }

    private static void wigs() {
        BarberJars x = told("p0 1;p0 2;p0 3;p0 1 2 3;");
        due("no thoughts", x.wig(0), 0);
        due("no hair", x.wig(2), NONE);
        x.days(2);
        due("one has 1", x.wig(2), 1);
        due("one has both", x.wig(6), 8);
        due("two have all: the least bits", x.wig(14), 12);
        x.days(1);
        due("one has all", x.wig(14), 8);
        due("a thought of nobody", x.wig(15), NONE);
        due("1023", x.wig(1023), NONE);
        due("1024", x.wig(1024), BAD);
        due("-1", x.wig(-1), BAD);
    }

    private static void odds() {
        BarberJars x = new BarberJars();
        int[][] rows = {{5, 1, 2, 1, 2}, {0, 0, 0, 1, 1}, {0, 0, 7, 1, 1}, {0, 1, 7, 0, 1}, {10, 7, 7, 1, 1},
            {10, 0, 7, 0, 1}, {3, 7, 2, 0, 1}, {1, 7, 7, 1, 10000000}, {1, 0, 7, 4782969, 10000000},
            {5, 3, 7, 35, 128}, {2, 1, 1, 1, 5}, {7, 2, 3, 441, 1000}};
        for (int[] r : rows) {
            due("odds upper", x.odds(r[0], r[1], r[2], 0), r[3]);
            due("odds lower", x.odds(r[0], r[1], r[2], 1), r[4]);
        }
        due("x 11", x.odds(11, 0, 0, 0), BAD);
        due("x -1", x.odds(-1, 0, 0, 0), BAD);
        due("k 8", x.odds(0, 8, 0, 0), BAD);
        due("k -1", x.odds(0, -1, 0, 0), BAD);
        due("n 8", x.odds(0, 0, 8, 0), BAD);
        due("n -1", x.odds(0, 0, -1, 0), BAD);
        due("what 2", x.odds(0, 0, 0, 2), BAD);
    }

    private static void locks() {
        BarberJars x = told("p0 1 2 1 3;p0 1 1;p0 4;");
        due("nothing seen, no hair: all have it", x.lock(0), 7);
        due("nothing is next", x.lock(1), NONE);
        x.days(4);
        due("nothing seen", x.lock(0), 7);
        due("most of all layers", x.lock(1), 1);
        due("saw", x.saw(1), 1);
        due("whose 1", x.lock(0), 3);
        due("next of 1: 1 thrice", x.lock(1), 1);
        due("saw", x.saw(2), 2);
        due("whose 1 2", x.lock(0), 1);
        due("next of 1 2", x.lock(1), 1);
        due("saw", x.saw(1), 3);
        due("saw", x.saw(3), 4);
        due("whose 1 2 1 3", x.lock(0), 1);
        due("nothing is behind it", x.lock(1), NONE);
        due("saw too much", x.saw(3), FULL);
        due("bad is ahead of full", x.saw(10), BAD);
        due("saw -1", x.saw(-1), BAD);
        due("lock 2", x.lock(2), BAD);
        due("lock -1", x.lock(-1), BAD);
        x.forget();
        x.saw(2);
        x.saw(3);
        due("not side by side", x.lock(0), 0);
        due("no place, nothing next", x.lock(1), NONE);
        BarberJars y = told("p0 5 3 5 2;");
        y.days(4);
        y.saw(5);
        due("of like ones the lowest", y.lock(1), 2);
    }

    private static void sums() {
        BarberJars x = told("p0 1;p0 1;p0 2;");
        x.days(3);
        due("all sets", x.sets(0), 8);
        due("the empty one first", x.sets(1), 0);
        due("nobody for sure", x.sets(2), 0);
        due("nobody is out", x.sets(3), 0);
        due("hears", x.hears(1, 3), 1);
        due("either", x.sets(0), 4);
        due("the first", x.sets(1), 1);
        due("hears", x.hears(2, 0), 2);
        due("either, alone", x.sets(0), 2);
        due("in each", x.sets(2), 0);
        due("in none", x.sets(3), 4);
        due("hears", x.hears(9, 0), 3);
        due("hears", x.hears(1, 60), 4);
        for (int i = 0; i < 4; i++) {
            due("no set " + i, x.sets(i), i == 0 ? 0 : NONE);
        }
        due("hears too much", x.hears(0, 0), FULL);
        due("bad is ahead of full", x.hears(0, 61), BAD);
        due("n -1", x.hears(0, -1), BAD);
        due("thought 10", x.hears(10, 0), BAD);
        due("sets 4", x.sets(4), BAD);
        due("sets -1", x.sets(-1), BAD);
        x.forget();
        x.hears(1, 6);
        due("both for sure", x.sets(2), 3);
    }

    private static void forgets() {
        BarberJars x = new BarberJars();
        due("nothing", x.forget(), 0);
        x.saw(1);
        x.saw(2);
        x.hears(3, 4);
        due("both", x.forget(), 3);
        due("no more seen", x.count(2), 0);
        due("no more heard", x.count(3), 0);
    }

    private static void marks() {
        BarberJars x = told("p0 9;p5 7;");
        x.days(4);
        int[] answers = {4, 11, -1, 22, 0, 8};
        long[] traces = {1, 12, 113, 1124, 11225, 111226};
        for (int kind = 0; kind < 6; kind++) {
            due("mark " + kind, x.mark(kind, 1), answers[kind]);
            due("trace " + kind, x.trace(), traces[kind]);
        }
        due("kind 6", x.mark(6, 0), -1000000);
        due("kind -1", x.mark(-1, 0), -1000000);
        due("nobody", x.mark(0, 2), -1000000);
        due("the trace stays", x.trace(), 111226);
        x.cuts(1, 4);
        due("a poet without hair", x.mark(1, 1), -1);
        due("a wig without hair", x.mark(3, 1), -2);
        due("undone", x.undo(), 1);
        due("the trace is not undone", x.trace(), 111226 + 11 + 1011);
    }

    private static void images() {
        BarberJars x = told("p0 1 2;");
        due("keep 2", x.keep(2), BAD);
        due("keep -1", x.keep(-1), BAD);
        due("back 2", x.back(2), BAD);
        due("back -1", x.back(-1), BAD);
        due("none kept", x.back(1), STATE);
        x.days(3);
        x.minds(0, 5);
        x.changes(1);
        x.cuts(0, 1);
        due("keep", x.keep(1), 3);
        x.saw(4);
        x.days(9);
        x.days(9);
        x.empties(1);
        x.changes(2);
        due("back", x.back(1), 3);
        hairIs("hair is back", x, 0, 2, 1);
        due("his mind is back", x.one(0, 3), 5);
        due("the jar is back", x.jar(1, 1), 1);
        due("the chair is back", x.now(1), 1);
        due("what may be undone is back", x.count(4), 4);
        due("what was seen is not of it", x.count(2), 1);
        due("undo behind it", x.undo(), 3);
        hairIs("as ahead of the cut", x, 0, 1, 2, 1);
        due("the image is not undone", x.back(1), 3);
        due("nor what it may undo", x.undo(), 3);
        due("the other is another", x.back(0), STATE);
        x.keep(0);
        x.days(1);
        x.keep(0);
        due("kept anew: the later", x.back(0), 4);
    }

    private static void counts() {
        BarberJars x = told("m7;p0 1;p0 2;");
        x.days(1);
        x.saw(1);
        x.hears(1, 1);
        x.hears(1, 2);
        x.type(32);
        int[] answers = {2, 7, 1, 2, 1, 1};
        for (int i = 0; i < answers.length; i++) {
            due("count " + i, x.count(i), answers[i]);
        }
        due("count 6", x.count(6), BAD);
        due("count -1", x.count(-1), BAD);
    }
}
