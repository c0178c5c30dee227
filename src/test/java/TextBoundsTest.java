import java.util.List;
import java.util.function.Supplier;

/** The edges of THE TEXT (part 1 of the terms) and of promises 1 to 4. */
public final class TextBoundsTest extends Check {
    public static void main(String[] args) {
        aNewObject();
        people();
        thoughtsOfAText();
        weeks();
        longest();
        theJarUnderTheChair();
        mostBytes();
        everyByteByItself();
        blanksBetweenTokens();
        itemsAreEnded();
        onceAtMost();
        lettersThatBeginNoItem();
        numbersThatAreNone();
        endsTooEarly();
        theFirstFaultCounts();
        type();
        clear();
        shop();
        readAnew();
        end();
    }

    /** All kinds of state, so that a faulty text has much to change. */
    private static BarberJars busy() {
        BarberJars x = told("m5;j3;p1 2 3;p4 5;");
        x.days(4);
        x.keep(0);
        x.cuts(0, 2);
        x.minds(1, 7);
        x.keep(1);
        x.changes(1);
        x.cuts(1, 1);
        x.saw(2);
        x.saw(3);
        x.hears(5, 3);
        x.mark(4, 1);
        return x;
    }

    private static final List<String> NONE_TYPED = wholeOf(TextBoundsTest::busy);

    private static void faultAt(int place, String text) {
        BarberJars x = typed(busy(), text);
        due("shop of '" + text + "'", x.shop(), -10 - place);
    }

    /** The same, and that the text, the town, the hair and all else stay. */
    private static void faultChangesNothing(int place, String text) {
        Supplier<BarberJars> made = () -> typed(busy(), text);
        unchanged("shop of '" + text + "'", made, BarberJars::shop, -10 - place);
        List<String> cleared = wholeOf(() -> {
            BarberJars x = made.get();
            x.shop();
            x.clear();
            return x;
        });
        due("but for the text all is as if none was typed", cleared.equals(NONE_TYPED) ? 1 : 0, 1);
    }

    private static BarberJars items(int many, String text) {
        BarberJars x = typed(busy(), text);
        due("shop of '" + text + "'", x.shop(), many);
        due("and the text is empty", x.count(5), 0);
        return x;
    }

    private static void aNewObject() {
        sentence("Promise 1: as told; nobody");
        BarberJars x = new BarberJars();
        int[] counts = {0, 12, 0, 0, 0, 0};
        for (int what = 0; what < 6; what++) {
            due("count " + what, x.count(what), counts[what]);
        }
        for (int what = 0; what < 4; what++) {
            due("now " + what, x.now(what), 0);
        }
        for (int j = 0; j < 4; j++) {
            jarIs("jar " + j, x, j);
        }
        due("the first of nobody", x.one(0, 0), BAD);
        due("nothing to be undone", x.undo(), STATE);
        due("image 0", x.back(0), STATE);
        due("image 1", x.back(1), STATE);
        due("the trace", x.trace(), 0);
        due("a text of nothing", x.shop(), 0);
    }

    private static void people() {
        sentence("PEOPLE 0 .. (5 at most)");
        StringBuilder b = new StringBuilder();
        for (int many = 1; many <= 5; many++) {
            b.append("p").append(many).append(" ").append(many + 1).append(";");
            BarberJars x = items(many, b.toString());
            due("people", x.count(0), many);
            for (int p = 0; p < 6; p++) {
                due(many + " people, secret of " + p, x.one(p, 0), p < many ? p + 1 : BAD);
                due(many + " people, week of " + p, x.week(p, 0), p < many ? p + 2 : BAD);
            }
        }
        sentence("FAULT: a sixth of PEOPLE");
        faultChangesNothing(25, b + "p6 7;");
        faultAt(25, b + "p");
        faultAt(25, b + "p#");
        faultAt(27, b + "  p1 1;");
        faultAt(31, b + "m3;j1;p1 1;");
    }

    private static void thoughtsOfAText() {
        sentence("THOUGHTS 0 .. 9");
        for (int t = 0; t <= 9; t++) {
            BarberJars x = items(1, "p" + t + " " + (9 - t) + ";");
            due("secret", x.one(0, 0), t);
            due("week", x.week(0, 0), 9 - t);
        }
        for (int n = 10; n <= 99; n++) {
            faultAt(1, "p" + n + " 1;");
            faultAt(3, "p1 " + n + ";");
            faultAt(13, "p1 1 1 1 1 1 " + n + ";");
        }
        faultChangesNothing(1, "p10 1;");
        faultChangesNothing(3, "p1 10;");
    }

    private static void weeks() {
        sentence("WEEK (1 to 7 THOUGHTS)");
        StringBuilder b = new StringBuilder("p0");
        for (int many = 1; many <= 7; many++) {
            b.append(" ").append(many);
            BarberJars x = items(1, b + ";");
            due("thoughts of the week", x.one(0, 1), many);
            for (int k = 0; k < 7; k++) {
                due(many + " thoughts, the one at " + k, x.week(0, k), k < many ? k + 1 : NONE);
            }
        }
        faultChangesNothing(2, "p0;");
        faultAt(3, "p0 ;");
        sentence("FAULT: an eighth THOUGHT of a WEEK");
        faultChangesNothing(17, b + " 8;");
        faultAt(17, b + " 99;");
        faultAt(17, b + " 100;");
        faultAt(17, b + " 8");
        faultAt(19, b + "   8;");
        faultAt(18, b + "; 8;");
    }

    private static void longest() {
        sentence("LONGEST (1 .. 12 layers; 12 at first)");
        for (int n = 1; n <= 12; n++) {
            due("longest", items(1, "m" + n + ";").count(1), n);
        }
        due("12 if it isn't told", items(1, "p1 1;").count(1), 12);
        due("12 of an empty text", items(0, "").count(1), 12);
        faultChangesNothing(1, "m0;");
        for (int n = 13; n <= 99; n++) {
            faultAt(1, "m" + n + ";");
        }
        faultChangesNothing(1, "m13;");
    }

    private static void theJarUnderTheChair() {
        sentence("JARS 0 .. 3; the JAR under the chair (0 at first)");
        for (int n = 0; n <= 3; n++) {
            due("chair", items(1, "j" + n + ";").now(1), n);
        }
        due("0 if it isn't told", items(1, "p1 1;").now(1), 0);
        due("0 of an empty text", items(0, "").now(1), 0);
        for (int n = 4; n <= 99; n++) {
            faultAt(1, "j" + n + ";");
        }
        faultChangesNothing(1, "j4;");
    }

    private static void mostBytes() {
        sentence("a text (120 bytes at most)");
        items(1, blanks(115) + "p1 1;");
        items(1, "p1 1;" + blanks(115));
        due("a text of 120 bytes tells its last one", items(1, "p1" + blanks(116) + "7;").week(0, 0), 7);
        faultChangesNothing(119, blanks(119) + "#");
        faultChangesNothing(119, blanks(119) + ";");
        faultChangesNothing(120, blanks(119) + "p");
        faultAt(120, blanks(116) + "p1 1");
        sentence("a byte too many is not in the text");
        faultAt(120, blanks(116) + "p1 1;");
        items(0, blanks(120) + "#");
    }

    /** Each of the 256 bytes, at places where a blank, a letter, a digit, ; and any other mean different things. */
    private static void everyByteByItself() {
        sentence("TOKENS are letters a .. z side by side, NUMBERS and ; (blanks (32) between them)");
        for (int c = 0; c < 256; c++) {
            boolean blank = c == 32;
            boolean letter = c >= 97 && c <= 122;
            boolean digit = c >= 48 && c <= 57;
            boolean opens = c == 'p' || c == 'm' || c == 'j';
            char sign = (char) c;
            answers(c, "p1" + sign + "1;", blank ? 1 : digit ? -11 : -12);
            answers(c, sign + "p1 1;", blank ? 1 : -10);
            answers(c, "p1 1;" + sign, blank ? 1 : opens ? -16 : -15);
            answers(c, "p" + sign, letter ? -10 : blank || digit ? -12 : -11);
            answers(c, "p1 1" + sign, c == ';' ? 1 : blank ? -15 : digit ? -13 : -14);
            answers(c, "p1 " + sign + ";", digit ? 1 : blank ? -14 : -13);
            answers(c, "m1" + sign + ";", blank || c >= 48 && c <= 50 ? 1 : digit ? -11 : c == ';' ? -13 : -12);
        }
    }

    private static void answers(int c, String text, int want) {
        due("byte " + c + ", shop of '" + text + "'", typed(new BarberJars(), text).shop(), want);
    }

    private static void blanksBetweenTokens() {
        sentence("blanks (32) between TOKENS");
        items(3, "p1 1;m2;j3;");
        items(3, "p 1 1 ; m 2 ; j 3 ;");
        items(3, "   p   1   1   ;   m   2   ;   j   3   ;   ");
        due("side by side one NUMBER, apart two", items(1, "m12;").count(1), 12);
        faultAt(3, "m1 2;");
        due("two thoughts", items(1, "p1 1 2;").one(0, 1), 2);
        faultAt(3, "p1 12;");
        faultAt(0, "pp1 1;");
        faultAt(2, "p p1 1;");
    }

    private static void itemsAreEnded() {
        sentence("ITEMS, each ended by ;");
        faultChangesNothing(5, "p1 1 m2;");
        faultAt(4, "p1 1m2;");
        faultAt(3, "m2 p1 1;");
        faultAt(2, "m2p1 1;");
        faultAt(3, "j2 j");
        faultAt(5, "p1 1;;");
        faultAt(3, "m1;;");
        faultAt(0, ";");
        faultAt(0, ";p1 1;");
        faultAt(1, "p;");
        faultAt(1, "m;");
        faultAt(1, "j;");
        faultAt(3, "m1 1;");
        faultAt(3, "j1 1;");
    }

    private static void onceAtMost() {
        sentence("m N, j N (once at most each); FAULT: m, j again");
        items(2, "m2;j2;");
        items(2, "j2;m2;");
        items(4, "p1 1;m2;p1 1;j2;");
        faultChangesNothing(3, "m2;m2;");
        faultAt(3, "m2;m");
        faultAt(8, "m2;p1 1;m3;");
        faultAt(4, "m12;m12;");
        faultChangesNothing(3, "j0;j0;");
        faultAt(3, "j1;j");
        faultAt(6, "j1;m1;j2;");
        faultAt(6, "m2;j2;m2;");
        sentence("a text behind another may have them again");
        BarberJars x = items(2, "m2;j2;");
        typed(x, "m3;j3;");
        due("shop", x.shop(), 2);
        sentence("a faulty text's m, j are not told");
        BarberJars y = typed(new BarberJars(), "m2;j2;#");
        due("shop", y.shop(), -16);
        y.clear();
        typed(y, "m3;j3;");
        due("shop", y.shop(), 2);
        due("longest", y.count(1), 3);
        due("chair", y.now(1), 3);
    }

    private static void lettersThatBeginNoItem() {
        sentence("FAULT: letters that begin no ITEM");
        for (char c = 'a'; c <= 'z'; c++) {
            if (c != 'p' && c != 'm' && c != 'j') {
                faultAt(0, c + "1 1;");
                faultAt(8, "p1 1;   " + c + "1 1;");
            }
            faultAt(0, "p" + c + "1 1;");
            faultAt(0, c + "m1;");
            faultAt(0, "j" + c + "1;");
        }
        faultChangesNothing(0, "x1 1;");
        faultChangesNothing(6, "p1 1; mm3;");
    }

    private static void numbersThatAreNone() {
        sentence("FAULT: a NUMBER above 99 or with a 0 ahead of others");
        String[] none = {"100", "101", "999", "1000", "256", "65536", "65537", "4294967296", "4294967297",
            "18446744073709551617", "99999999999999999999999999", "00", "01", "09", "010", "000", "0000000001"};
        for (String n : none) {
            faultAt(1, "p" + n + " 1;");
            faultAt(4, "p1  " + n + ";");
            faultAt(1, "m" + n + ";");
            faultAt(2, "j " + n + ";");
            faultAt(0, n + ";");
            faultAt(4, "m1; " + n);
        }
        faultChangesNothing(3, "p1 100;");
        faultChangesNothing(3, "p1 01;");
        sentence("a 0 alone is a NUMBER");
        due("secret", items(1, "p0 0;").one(0, 0), 0);
        sentence("FAULT: of a byte that begins none");
        for (String s : new String[] {"#", "A", "Z", "-", "+", ",", "\t", "\n", "" + (char) 0, "" + (char) 255}) {
            faultAt(0, s);
            faultAt(1, "p" + s + "1 1;");
            faultAt(2, "p1" + s + "1;");
            faultAt(5, "p1 1 " + s + ";");
            faultAt(5, "p1 1;" + s);
        }
        faultChangesNothing(3, "p1 -1;");
    }

    private static void endsTooEarly() {
        sentence("FAULT: the text's length, if it ends too early");
        String[] starts = {"p", "p1", "p1 1", "p1 1 1 1 1 1 1 1", "m", "m1", "m12", "j", "j0", "p1 1;p", "m1;j1"};
        for (String s : starts) {
            faultAt(s.length(), s);
            faultAt(s.length() + 1, s + " ");
            faultAt(120, s + blanks(120 - s.length()));
        }
        faultChangesNothing(1, "p");
        faultChangesNothing(9, "m5; p1 1 ");
        sentence("behind ; it may end");
        items(1, "p1 1;");
        items(1, "p1 1; ");
        items(0, "");
        items(0, " ");
        items(0, blanks(120));
    }

    private static void theFirstFaultCounts() {
        sentence("FAULT: the first byte of the first TOKEN that can't stand there");
        faultAt(3, "p1 10;#");
        faultAt(0, "x 100");
        faultAt(2, "p1;x");
        faultAt(3, "p1 #10;");
        faultAt(3, "p1 100 #");
        faultAt(1, "m99 99;");
        faultAt(3, "m1 0;");
    }

    private static void type() {
        sentence("Promise 2: a byte (0 .. 255) comes to THE TEXT: how many it has");
        BarberJars x = new BarberJars();
        due("type 0", x.type(0), 1);
        due("type 255", x.type(255), 2);
        due("count", x.count(5), 2);
        sentence("Promise 2: BAD");
        for (int c : new int[] {-1, 256, Integer.MIN_VALUE, Integer.MAX_VALUE, 256 + 32, -224}) {
            due("type " + c, x.type(c), BAD);
            due("and nothing came", x.count(5), 2);
        }
        sentence("Promise 2: FULL (120 bytes)");
        for (int i = 3; i <= 120; i++) {
            due("type", x.type(32), i);
        }
        for (int c : new int[] {0, 32, 255}) {
            due("the 121st byte", x.type(c), FULL);
            due("and nothing came", x.count(5), 120);
        }
        sentence("BAD ahead of FULL");
        due("type -1", x.type(-1), BAD);
        due("type 256", x.type(256), BAD);
        due("and nothing came", x.clear(), 120);
        due("then there is room again", x.type(1), 1);
        for (int c : new int[] {-1, 256}) {
            unchanged("type " + c, () -> typed(busy(), "p9 8;"), y -> y.type(c), BAD);
        }
        unchanged("type at 120", () -> typed(busy(), blanks(115) + "p9 8;"), y -> y.type(32), FULL);
    }

    private static void clear() {
        sentence("Promise 3: THE TEXT is empty: how many bytes it had");
        BarberJars x = new BarberJars();
        due("none", x.clear(), 0);
        x.type(35);
        due("one", x.clear(), 1);
        due("none again", x.clear(), 0);
        typed(x, blanks(120));
        due("120", x.clear(), 120);
        due("empty", x.count(5), 0);
        typed(x, "m3;");
        due("what was cleared is not told", x.shop(), 1);
        due("clear behind shop", x.clear(), 0);
        due("all else stays", wholeOf(() -> {
            BarberJars y = typed(busy(), "p9 8;");
            y.clear();
            return y;
        }).equals(NONE_TYPED) ? 1 : 0, 1);
        unchanged("clear of nothing", TextBoundsTest::busy, BarberJars::clear, 0);
    }

    private static void shop() {
        sentence("Promise 4: THE TEXT tells all, and is empty then: how many ITEMS");
        items(0, "");
        items(0, blanks(3));
        items(1, "p1 1;");
        BarberJars x = items(7, "p1 1;p1 1;m4;p1 1;j1;p1 1;p1 1;");
        due("told behind it: nothing, so nobody", x.shop(), 0);
        due("people", x.count(0), 0);
        sentence("Promise 4: -10 less FAULT: nothing changes");
        faultChangesNothing(0, "#");
        faultChangesNothing(30, "p1 1;p1 1;m4;p1 1;j1;p1 1;p1 1");
        sentence("a text with a fault may be typed on");
        BarberJars y = typed(new BarberJars(), "p1");
        due("too early", y.shop(), -12);
        typed(y, " 2");
        due("still too early", y.shop(), -14);
        y.type(';');
        due("now it tells", y.shop(), 1);
    }

    private static void readAnew() {
        sentence("(Read anew: as told, nothing SEEN, HEARD or to be UNDONE, IMAGES are gone.)");
        for (String text : new String[] {"p7 8 9;m3;", "", "  "}) {
            BarberJars x = items(text.isBlank() ? 0 : 2, text);
            due("day", x.now(0), 0);
            due("layers", x.now(2), 0);
            due("swept", x.now(3), 0);
            for (int j = 0; j < 4; j++) {
                jarIs("jar " + j, x, j);
            }
            due("seen", x.count(2), 0);
            due("heard", x.count(3), 0);
            due("undone", x.count(4), 0);
            due("undo", x.undo(), STATE);
            due("image 0", x.back(0), STATE);
            due("image 1", x.back(1), STATE);
            due("nothing seen, heard to forget", x.forget(), 0);
            due("the trace is not among it", x.trace(), 10101);
        }
        BarberJars x = items(2, "p7 8 9;p6 5 4;");
        for (int p = 0; p <= 1; p++) {
            due("no mind", x.one(p, 3), NONE);
            hairIs("no hair", x, p);
        }
        x.days(1);
        hairIs("the week begins anew", x, 0, 8);
        hairIs("the week begins anew, whatever his mind was", x, 1, 5);
    }
}
