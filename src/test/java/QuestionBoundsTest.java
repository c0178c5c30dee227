import java.math.BigInteger;

/** The edges of what is asked (part 3 of the terms) and of promises 16 to 25. */
public final class QuestionBoundsTest extends Check {
    private static final int[] WILD = {Integer.MIN_VALUE, Integer.MAX_VALUE, NO, NONE, -1};

    public static void main(String[] args) {
        reads();
        blushes();
        planWithoutSecrets();
        planOfSecretsAlone();
        planMeetsASecret();
        planAndTheLongest();
        planAndHisMind();
        planAndTheDay();
        planOfTheFifth();
        planBad();
        leastByTable();
        leastMustBeMore();
        leastAndTheLongest();
        leastAndHisMind();
        leastOfTheFifth();
        leastAskedBefore();
        leastBad();
        wig();
        oddsByTable();
        oddsBad();
        seenAtMost();
        whose();
        next();
        nothingSeen();
        heardAtMost();
        setsOfAll();
        sets();
        forget();
        end();
    }

    /** As many people as rows, who think 0 in their weeks, with hair as told, a digit a layer, from the tip on. */
    private static BarberJars withHair(String... rows) {
        int longest = 0;
        StringBuilder town = new StringBuilder();
        for (String row : rows) {
            town.append("p0 0;");
            longest = Math.max(longest, row.length());
        }
        BarberJars x = told(town.toString());
        for (int day = 0; day < longest; day++) {
            for (int p = 0; p < rows.length; p++) {
                int at = rows[p].length() - longest + day;
                if (at >= 0) {
                    x.minds(p, rows[p].charAt(at) - '0');
                }
            }
            x.days(1);
        }
        for (int p = 0; p < rows.length; p++) {
            x.cuts(p, longest - rows[p].length());
            due("hair of " + rows[p], x.one(p, 2), rows[p].length());
        }
        for (int j = 0; j < 4; j++) {
            x.empties(j);
        }
        return x;
    }

    /** One whose layers, a digit each, were all swept into a jar. */
    private static BarberJars swept(int j, String layers) {
        BarberJars x = withHair(layers);
        x.changes(j);
        x.cuts(0, layers.length());
        return x;
    }

    private static void reads() {
        sentence("A JAR READS the THOUGHT of which it has most, of like ones the lowest; NONE (it is empty)");
        for (int j = 0; j <= 3; j++) {
            due("empty jar " + j, new BarberJars().reads(j, 0), NONE);
            for (int t = 0; t <= 9; t++) {
                BarberJars x = swept(j, "" + t);
                for (int i = 0; i <= 3; i++) {
                    due("jar " + i + " with a " + t + " in " + j, x.reads(i, 0), i == j ? t : NONE);
                }
            }
        }
        due("like ones", swept(0, "90").reads(0, 0), 0);
        due("like ones", swept(0, "09").reads(0, 0), 0);
        due("like ones", swept(0, "9889").reads(0, 0), 8);
        due("all like", swept(0, "9876543210").reads(0, 0), 0);
        due("one more", swept(0, "0990").reads(0, 0), 0);
        due("one more", swept(0, "09909").reads(0, 0), 9);
        due("one more in the middle", swept(0, "0549945").reads(0, 0), 4);
        BarberJars x = swept(2, "577");
        due("ahead", x.reads(2, 0), 7);
        x.empties(2);
        due("emptied", x.reads(2, 0), NONE);
        sentence("(99 at most): what is lost makes like ones");
        BarberJars y = told("p0 3;p0 2;");
        for (int i = 0; i < 12; i++) {
            y.days(9);
            y.cuts(0, 9);
            y.cuts(1, i < 11 ? 9 : 1);
        }
        due("3", y.jar(0, 3), 99);
        due("2", y.jar(0, 2), 99);
        due("of like ones the lowest", y.reads(0, 0), 2);
        sentence("Promise 16: BAD");
        for (int j : new int[] {-1, 4, Integer.MIN_VALUE, Integer.MAX_VALUE}) {
            due("jar " + j, x.reads(j, 0), BAD);
            due("jar " + j, x.reads(j, 1), BAD);
        }
        for (int what : new int[] {-1, 2, Integer.MIN_VALUE, Integer.MAX_VALUE}) {
            due("what " + what, x.reads(0, what), BAD);
        }
    }

    private static void blushes() {
        sentence("BLUSHES for a JAR: PEOPLE (bits) whose SECRET it has");
        due("nobody is there", new BarberJars().reads(0, 1), 0);
        BarberJars x = told("p1 0;p1 0;p0 0;p9 0;p1 0;");
        due("it has nothing", x.reads(0, 1), 0);
        x.days(1);
        x.cuts(0, 1);
        due("another's secret, by his hair", x.reads(0, 1), 4);
        x.minds(3, 1);
        x.days(1);
        x.cuts(3, 2);
        due("the like secret of three", x.reads(0, 1), 1 + 2 + 4 + 16);
        x.minds(0, 9);
        x.days(1);
        x.cuts(0, 2);
        due("all", x.reads(0, 1), 31);
        for (int j = 1; j <= 3; j++) {
            due("another jar", x.reads(j, 1), 0);
        }
        x.changes(3);
        x.minds(4, 9);
        x.days(1);
        x.cuts(4, 3);
        due("what is under the chair now", x.reads(3, 1), 4);
        x.cuts(4, 1);
        due("and the last one", x.reads(3, 1), 4 + 8);
    }

    private static void planWithoutSecrets() {
        sentence("PLAN for n (1 .. 20) days and w (1 .. 12): then no more than w layers must be left: the fewest CUT");
        for (int n = 1; n <= 20; n++) {
            for (int w = 1; w <= 12; w++) {
                BarberJars x = told("p9 1;");
                int fewest = w == 12 ? 0 : n / (w + 1);
                due("no hair, n " + n + ", w " + w, x.plan(0, n, w, 0), fewest);
                due("never fails", x.plan(0, n, w, 1), NONE);
                x.days(9);
                x.days(3);
                int more = w == 12 ? 0 : 1 + (n - 1) / (w + 1);
                due("12 layers, n " + n + ", w " + w, x.plan(0, n, w, 0), more);
                due("never fails", x.plan(0, n, w, 1), NONE);
            }
        }
    }

    private static void planOfSecretsAlone() {
        sentence("no layer that is his SECRET (may be CUT); NONE (it can't be). FAILS: the first evening (1 .. n); NONE");
        for (int n = 1; n <= 20; n++) {
            for (int w = 1; w <= 12; w++) {
                BarberJars x = told("p1 1;");
                boolean fails = w < 12 && n > w;
                due("no hair, n " + n + ", w " + w, x.plan(0, n, w, 0), fails ? NONE : 0);
                due("no hair, n " + n + ", w " + w, x.plan(0, n, w, 1), fails ? w + 1 : NONE);
                x.days(4);
                int first = Math.max(1, w + 1 - 4);
                boolean soon = w < 12 && n >= first;
                due("4 layers, n " + n + ", w " + w, x.plan(0, n, w, 0), soon ? NONE : 0);
                due("4 layers, n " + n + ", w " + w, x.plan(0, n, w, 1), soon ? first : NONE);
            }
        }
    }

    private static void planMeetsASecret() {
        sentence("CUT from the tip on, as much as one likes, but no layer that is his SECRET");
        BarberJars x = told("p5 1 1 5 1 1;");
        int[] fewest = {0, 0, 0, 1, 1, NONE, NONE};
        for (int n = 1; n <= 7; n++) {
            due("n " + n, x.plan(0, n, 3, 0), fewest[n - 1]);
            due("n " + n, x.plan(0, n, 3, 1), n < 6 ? NONE : 6);
        }
        x.days(5);
        due("what is behind the secret stays: 5 1 1 1", x.plan(0, 1, 4, 0), 1);
        due("it may be 4", x.plan(0, 1, 4, 1), NONE);
        due("not 3", x.plan(0, 1, 3, 0), NONE);
        due("not 3", x.plan(0, 1, 3, 1), 1);
        sentence("each evening no more than w, not the last alone");
        BarberJars y = told("m4;p5 1;");
        y.minds(0, 5);
        y.days(1);
        due("5 1 1 fails, though it would fall out", y.plan(0, 6, 2, 1), 2);
        due("three may be, but not four", y.plan(0, 6, 3, 1), 3);
        due("four is the longest", y.plan(0, 6, 4, 0), 0);
        sentence("the fewest times: many layers at once are one CUT");
        BarberJars z = told("p5 1 1 1 5 1 1 1;");
        z.days(3);
        due("1 1 1 off at once, then 5 stands alone", z.plan(0, 1, 1, 0), 1);
        due("and can't stay alone", z.plan(0, 2, 1, 1), 2);
        due("nothing must be cut for 4", z.plan(0, 1, 4, 0), 0);
        due("1 1 1 5 is uncut, 1 1 1 5 1 cut once", z.plan(0, 2, 4, 0), 1);
    }

    private static void planAndTheLongest() {
        sentence("PLAN: the DAYS go by: the one at the tip falls out, which is no CUT");
        for (int most = 1; most <= 12; most++) {
            BarberJars x = told("m" + most + ";p1 1;p2 1;");
            for (int w = 1; w <= 12; w++) {
                due("all secret, longest " + most + ", w " + w, x.plan(0, 20, w, 0), w >= most ? 0 : NONE);
                due("all secret, longest " + most + ", w " + w, x.plan(0, 20, w, 1), w >= most ? NONE : w + 1);
                due("no secret, longest " + most + ", w " + w, x.plan(1, 20, w, 0), w >= most ? 0 : 20 / (w + 1));
            }
        }
        for (int most = 5; most <= 6; most++) {
            BarberJars x = told("m" + most + ";p5 1;");
            x.minds(0, 5);
            x.days(5);
            due("the secret at the tip, longest " + most, x.plan(0, 1, 3, 0), most == 5 ? 1 : NONE);
            due("the secret at the tip, longest " + most, x.plan(0, 1, 3, 1), most == 5 ? NONE : 1);
        }
    }

    private static void planAndHisMind() {
        sentence("PLAN: (his MIND as made up for the first)");
        BarberJars x = told("p5 1;p5 5;");
        due("unmade", x.plan(0, 2, 1, 0), 1);
        due("unmade", x.plan(1, 2, 1, 1), 2);
        x.minds(0, 5);
        due("a secret first", x.plan(0, 1, 1, 0), 0);
        due("a secret first", x.plan(0, 2, 1, 0), NONE);
        due("a secret first", x.plan(0, 2, 1, 1), 2);
        x.minds(1, 1);
        due("no secret first", x.plan(1, 2, 1, 0), 1);
        due("on the second his week has it again", x.plan(1, 3, 1, 1), 3);
        due("his mind is as it was", x.one(0, 3), 5);
        due("his mind is as it was", x.one(1, 3), 1);
    }

    private static void planAndTheDay() {
        sentence("PLAN: the WEEK goes on from the DAY");
        BarberJars x = told("p5 1 1 5;");
        x.days(2);
        due("1 1 5", x.plan(0, 1, 1, 0), 1);
        due("1 1 5, then 1", x.plan(0, 2, 1, 1), 2);
        x.days(1);
        due("1 1 5, then 1", x.plan(0, 1, 1, 1), 1);
        due("1 1 5, then 1", x.plan(0, 1, 2, 0), 1);
        BarberJars y = told("p5 5 1 1 1 1 1 1;");
        y.days(6);
        y.cuts(0, 6);
        due("1, then the week begins anew: 5, then 1", y.plan(0, 3, 1, 1), 3);
        due("two are enough for it", y.plan(0, 3, 2, 0), 1);
    }

    private static void planOfTheFifth() {
        sentence("PLAN of the last of 5 PEOPLE, with 12 layers, for 20 days");
        String row = "123412341234";
        BarberJars x = withHair(row, row, row, row, row);
        due("twelve may be left: nothing is cut", x.plan(4, 20, 12, 0), 0);
        due("eleven: 0s are his secret, the first comes at once", x.plan(4, 20, 11, 0), NONE);
        due("eleven evenings go, with one cut", x.plan(4, 11, 11, 0), 1);
        due("twelve 0s", x.plan(4, 20, 11, 1), 12);
        due("one 0", x.plan(4, 20, 1, 1), 2);
    }

    private static void planBad() {
        sentence("Promise 17: BAD");
        BarberJars x = told("p1 1;p2 2;");
        for (int what = 0; what <= 1; what++) {
            for (int p : new int[] {-1, 2, 5, Integer.MIN_VALUE, Integer.MAX_VALUE}) {
                due("one " + p, x.plan(p, 1, 1, what), BAD);
            }
            for (int n : new int[] {0, 21, -1, Integer.MIN_VALUE, Integer.MAX_VALUE}) {
                due("n " + n, x.plan(0, n, 1, what), BAD);
            }
            for (int w : new int[] {0, 13, -1, Integer.MIN_VALUE, Integer.MAX_VALUE}) {
                due("w " + w, x.plan(0, 1, w, what), BAD);
            }
        }
        for (int what : new int[] {-1, 2, Integer.MIN_VALUE, Integer.MAX_VALUE}) {
            due("what " + what, x.plan(0, 1, 1, what), BAD);
        }
        due("nobody", new BarberJars().plan(0, 1, 1, 0), BAD);
    }

    private static void leastByTable() {
        sentence("LEAST, n (1 .. 8) days: more layers of his are that THOUGHT than are any other one: how many; NONE");
        for (int hair = 0; hair <= 12; hair++) {
            BarberJars x = told("p0 1;");
            for (int i = 0; i < hair; i++) {
                x.days(1);
            }
            for (int n = 1; n <= 8; n++) {
                int half = Math.min(12, hair + n) / 2 + 1;
                due(hair + " layers of 1, n " + n, x.least(0, 2, n), half <= n ? half : NONE);
                due("what he thinks all days", x.least(0, 1, n), 0);
            }
        }
        for (int t = 0; t <= 9; t++) {
            due("thought " + t, told("p0 5;").least(0, t, 1), t == 5 ? 0 : 1);
        }
    }

    private static void leastMustBeMore() {
        sentence("LEAST: more, not as many");
        int[][] rows = {{1, 0, 1, 0, 1, 0, 1, 0, 1}, {2, 1, 1, 1, 1, 1, 1, 1, 1}, {3, 1, 2, 2, 2, 3, 3, 3, 4}};
        // by the week 1 2 1 2 ..: of 1 it is more than 2 on each odd day; a third must be above both
        BarberJars x = told("p0 1 2;");
        for (int[] row : rows) {
            for (int n = 1; n <= 8; n++) {
                due("thought " + row[0] + ", n " + n, x.least(0, row[0], n), row[n]);
            }
        }
        sentence("LEAST: on which of the DAYS is free");
        due("two of the three 1s", told("p0 1 1 1 2 3 4 5;").least(0, 9, 7), 2);
        due("wherever they are", told("p0 2 3 1 4 1 5 1;").least(0, 9, 7), 2);
        due("none must be of the first", told("p0 2 3 1 4 1 5 1;").least(0, 9, 6), 2);
        sentence("LEAST: hair that he has counts");
        BarberJars y = withHair("2233");
        due("2 2 3 3 and 0: tie of 2 and 3", y.least(0, 2, 1), 1);
        due("0 has one", y.least(0, 0, 1), NONE);
        due("0 has two", y.least(0, 0, 2), NONE);
        due("0 has three by himself", y.least(0, 0, 3), 0);
        due("5 needs three days", y.least(0, 5, 2), NONE);
        due("5 needs three days", y.least(0, 5, 3), 3);
    }

    private static void leastAndTheLongest() {
        sentence("LEAST: the one at the tip falls out: it is of his no more");
        for (int most = 1; most <= 12; most++) {
            BarberJars x = told("m" + most + ";p0 1;");
            for (int n = 1; n <= 8; n++) {
                due("longest " + most + ", n " + n, x.least(0, 2, n), Math.min(n, most) / 2 + 1);
            }
        }
        BarberJars x = told("m3;p0 2 2 2 1 1 1 1;");
        x.days(3);
        int[] ofOne = {NONE, 0, 0, 0};
        int[] ofTwo = {0, 1, 2, 2};
        for (int n = 1; n <= 4; n++) {
            due("1, n " + n, x.least(0, 1, n), ofOne[n - 1]);
            due("2, n " + n, x.least(0, 2, n), ofTwo[n - 1]);
        }
    }

    private static void leastAndHisMind() {
        sentence("LEAST: (for what his MIND, his WEEK would have)");
        BarberJars x = told("p0 1;");
        x.minds(0, 2);
        due("his mind has it", x.least(0, 2, 1), 0);
        due("for what his mind has", x.least(0, 1, 1), 1);
        due("2 1 is a tie", x.least(0, 2, 2), 1);
        due("2 1 is a tie", x.least(0, 1, 2), 1);
        due("2 1 1", x.least(0, 1, 3), 0);
        due("2 1 1: one more", x.least(0, 2, 3), 1);
        due("his mind is as it was", x.one(0, 3), 2);
        sentence("LEAST: the WEEK goes on from the DAY");
        BarberJars y = told("m1;p0 1 2 3;");
        y.days(2);
        for (int n = 1; n <= 8; n++) {
            due("only the last day counts, n " + n, y.least(0, (1 + n) % 3 + 1, n), 0);
            due("only the last day counts, n " + n, y.least(0, (2 + n) % 3 + 1, n), 1);
        }
    }

    private static void leastOfTheFifth() {
        sentence("LEAST of the last of 5 PEOPLE, with 12 layers");
        String row = "111111112222";
        BarberJars x = withHair(row, row, row, row, row);
        due("2 by eight days: 2 2 2 2, 0s", x.least(4, 2, 8), 3);
        due("0 by eight days", x.least(4, 0, 8), 0);
        due("1 by eight days: all were lost", x.least(4, 1, 8), 5);
        due("9 by a day", x.least(4, 9, 1), NONE);
    }

    private static void leastAskedBefore() {
        sentence("LEAST: an answer is of now, whatever was asked before");
        BarberJars x = told("p0 1 1 1 2 2 2;");
        due("9 for two of 1 1 1", x.least(0, 9, 3), 2);
        x.days(3);
        due("1 1 1 stay: 9 9 9 is a tie", x.least(0, 9, 3), NONE);
        x.undo();
        due("9 for two of 1 1 1", x.least(0, 9, 3), 2);
    }

    private static void leastBad() {
        sentence("Promise 18: BAD");
        BarberJars x = told("p1 1;p2 2;");
        for (int p : new int[] {-1, 2, 5, Integer.MIN_VALUE, Integer.MAX_VALUE}) {
            due("one " + p, x.least(p, 1, 1), BAD);
        }
        for (int t : new int[] {-1, 10, Integer.MIN_VALUE, Integer.MAX_VALUE}) {
            due("thought " + t, x.least(0, t, 1), BAD);
        }
        for (int n : new int[] {0, 9, -1, Integer.MIN_VALUE, Integer.MAX_VALUE}) {
            due("n " + n, x.least(0, 1, n), BAD);
        }
        due("nobody", new BarberJars().least(0, 1, 1), BAD);
    }

    private static void wig() {
        sentence("WIG of a set of THOUGHTS (bits 0 .. 1023)");
        BarberJars nobody = new BarberJars();
        due("no thoughts of nobody", nobody.wig(0), 0);
        BarberJars all = withHair("0123456789");
        for (int set = 0; set <= 1023; set++) {
            // 512 calls are promised of an object
            all = set == 300 || set == 600 || set == 900 ? withHair("0123456789") : all;
            due("one has all, set " + set, all.wig(set), set == 0 ? 0 : 1);
        }
        for (int set : new int[] {1, 512, 1023}) {
            due("nobody", nobody.wig(set), NONE);
            due("two halves, set " + set, withHair("01234", "56789").wig(set), set == 1 ? 1 : set == 512 ? 2 : 3);
            due("no hair, set " + set, told("p1 1;").wig(set), NONE);
        }
        due("all but one", withHair("01234", "5678").wig(1023), NONE);
        due("all but one", withHair("1234", "56789").wig(1023), NONE);
        due("the one is not asked for", withHair("01234", "5678").wig(511), 3);
        sentence("WIG: the fewest of PEOPLE (bits, of several sets the least)");
        due("one for two", withHair("0", "1", "01").wig(3), 4);
        due("the least of two pairs", withHair("0", "1", "0", "1").wig(3), 3);
        due("each pair does", withHair("01", "12", "02").wig(7), 3);
        due("two for three", withHair("0", "1", "2", "01", "12").wig(7), 12);
        due("the last alone", withHair("1", "1", "1", "1", "0").wig(1), 16);
        due("the first alone", withHair("0", "0", "0", "0", "0").wig(1), 1);
        due("all five", withHair("0", "1", "2", "3", "4").wig(31), 31);
        due("a thought too many", withHair("0", "1", "2", "3", "4").wig(63), NONE);
        sentence("WIG: whose hair has them, at the tip and at the root");
        due("the tip", withHair("200000000001").wig(4), 1);
        due("the root", withHair("200000000001").wig(2), 1);
        BarberJars x = withHair("200000000001");
        x.days(1);
        due("it fell out", x.wig(4), NONE);
        sentence("Promise 19: BAD");
        for (int set : new int[] {-1, 1024, 1025, 2048, Integer.MIN_VALUE, Integer.MAX_VALUE}) {
            due("set " + set, x.wig(set), BAD);
            due("set " + set + " of nobody", nobody.wig(set), BAD);
        }
    }

    private static void oddsByTable() {
        sentence("ODDS by x (0 .. 10), k (0 .. 7), n (0 .. 7): just k of n are found: a fraction, in least terms");
        for (int x = 0; x <= 10; x++) {
            BarberJars b = new BarberJars();
            for (int n = 0; n <= 7; n++) {
                BigInteger sum = BigInteger.ZERO;
                for (int k = 0; k <= 7; k++) {
                    BigInteger upper = ways(k, n).multiply(BigInteger.valueOf(x).pow(k))
                            .multiply(BigInteger.valueOf(10 - x).pow(Math.max(0, n - k)));
                    BigInteger lower = BigInteger.TEN.pow(n);
                    BigInteger both = upper.gcd(lower);
                    due("upper of " + x + " " + k + " " + n, b.odds(x, k, n, 0), upper.divide(both).longValue());
                    due("lower of " + x + " " + k + " " + n, b.odds(x, k, n, 1), lower.divide(both).longValue());
                    sum = sum.add(upper);
                }
                due("all k together are sure", sum.equals(BigInteger.TEN.pow(n)) ? 1 : 0, 1);
            }
        }
        BarberJars b = new BarberJars();
        int[][] edges = {{0, 0, 0, 1, 1}, {10, 0, 0, 1, 1}, {0, 1, 0, 0, 1}, {10, 7, 7, 1, 1}, {10, 6, 7, 0, 1},
            {0, 0, 7, 1, 1}, {0, 1, 7, 0, 1}, {5, 7, 6, 0, 1}, {1, 7, 7, 1, 10000000}, {9, 7, 7, 4782969, 10000000}};
        for (int[] e : edges) {
            due("upper of " + e[0] + " " + e[1] + " " + e[2], b.odds(e[0], e[1], e[2], 0), e[3]);
            due("lower of " + e[0] + " " + e[1] + " " + e[2], b.odds(e[0], e[1], e[2], 1), e[4]);
        }
    }

    private static BigInteger ways(int k, int n) {
        if (k > n) {
            return BigInteger.ZERO;
        }
        return k == 0 ? BigInteger.ONE : ways(k - 1, n - 1).add(ways(k, n - 1));
    }

    private static void oddsBad() {
        sentence("Promise 20: BAD");
        BarberJars b = new BarberJars();
        for (int what = 0; what <= 1; what++) {
            for (int v : new int[] {-1, 11, Integer.MIN_VALUE, Integer.MAX_VALUE}) {
                due("x " + v, b.odds(v, 0, 0, what), BAD);
            }
            for (int v : new int[] {-1, 8, Integer.MIN_VALUE, Integer.MAX_VALUE}) {
                due("k " + v, b.odds(0, v, 7, what), BAD);
                due("n " + v, b.odds(0, 0, v, what), BAD);
            }
        }
        for (int v : new int[] {-1, 2, Integer.MIN_VALUE, Integer.MAX_VALUE}) {
            due("what " + v, b.odds(5, 3, 7, v), BAD);
        }
    }

    private static void seenAtMost() {
        sentence("SEEN (4 at most); Promise 21: how much there is. BAD; FULL");
        BarberJars x = withHair("09090");
        for (int i = 1; i <= 4; i++) {
            due("saw", x.saw(i % 2 == 1 ? 0 : 9), i);
            due("seen", x.count(2), i);
            for (int t : WILD) {
                due("saw " + t, x.saw(t), BAD);
            }
            due("saw 10", x.saw(10), BAD);
            due("seen", x.count(2), i);
        }
        for (int t = 0; t <= 9; t++) {
            due("a fifth", x.saw(t), FULL);
        }
        sentence("BAD ahead of FULL");
        due("saw -1", x.saw(-1), BAD);
        due("saw 10", x.saw(10), BAD);
        due("the four stay: 0 9 0 9", x.lock(0), 1);
        due("the four stay: then 0", x.lock(1), 0);
        due("forgotten", x.forget(), 4);
        due("room again", x.saw(9), 1);
    }

    private static void seen(BarberJars x, String row) {
        x.forget();
        for (int i = 0; i < row.length(); i++) {
            x.saw(row.charAt(i) - '0');
        }
    }

    private static void lockIs(BarberJars x, String row, int whose, int next) {
        seen(x, row);
        due("whose " + row, x.lock(0), whose);
        due("next of " + row, x.lock(1), next);
    }

    private static void whose() {
        sentence("WHOSE: PEOPLE (bits) whose hair has them so, side by side, towards the root");
        BarberJars x = withHair("1234");
        lockIs(x, "1234", 1, NONE);
        lockIs(x, "234", 1, NONE);
        lockIs(x, "123", 1, 4);
        lockIs(x, "4", 1, NONE);
        lockIs(x, "1", 1, 2);
        lockIs(x, "43", 0, NONE);
        lockIs(x, "21", 0, NONE);
        lockIs(x, "41", 0, NONE);
        lockIs(x, "341", 0, NONE);
        lockIs(x, "13", 0, NONE);
        lockIs(x, "1233", 0, NONE);
        sentence("WHOSE: hair that is shorter has them not");
        lockIs(withHair("123", "1234", "", "4", "412"), "1234", 2, NONE);
        lockIs(withHair("1", "11", "111", "1111", "11111"), "1111", 24, 1);
        sentence("WHOSE: one's end and another's beginning are not side by side");
        lockIs(withHair("12", "34"), "23", 0, NONE);
        lockIs(withHair("1", "2"), "12", 0, NONE);
        sentence("WHOSE: at both ends of 12 layers");
        lockIs(withHair("123400005678"), "1234", 1, 0);
        lockIs(withHair("123400005678"), "5678", 1, NONE);
        lockIs(withHair("123400005678"), "8123", 0, NONE);
        sentence("WHOSE: all five, the last alone");
        lockIs(withHair("7", "7", "7", "7", "7"), "7", 31, NONE);
        lockIs(withHair("6", "6", "6", "6", "7"), "7", 16, NONE);
        sentence("layers that were cut off are not of the hair");
        BarberJars y = withHair("1234");
        y.cuts(0, 2);
        lockIs(y, "34", 1, NONE);
        lockIs(y, "344", 0, NONE);
        lockIs(y, "12", 0, NONE);
        sentence("Promise 22: BAD");
        for (int what : new int[] {-1, 2, Integer.MIN_VALUE, Integer.MAX_VALUE}) {
            due("what " + what, y.lock(what), BAD);
        }
    }

    private static void next() {
        sentence("NEXT: in most places of all hair where these are (of like ones the lowest); NONE (there is none)");
        lockIs(withHair("12", "12", "13"), "1", 7, 2);
        lockIs(withHair("13", "12", "13"), "1", 7, 3);
        lockIs(withHair("13", "12"), "1", 3, 2);
        lockIs(withHair("19", "10"), "1", 3, 0);
        lockIs(withHair("1213", "13"), "1", 3, 3);
        lockIs(withHair("12121313", "13"), "1", 3, 3);
        sentence("NEXT: places that lie over one another are places each");
        lockIs(withHair("111"), "1", 1, 1);
        lockIs(withHair("111"), "11", 1, 1);
        lockIs(withHair("111"), "111", 1, NONE);
        lockIs(withHair("1110"), "11", 1, 0);
        lockIs(withHair("11112"), "11", 1, 1);
        lockIs(withHair("121213"), "121", 1, 2);
        sentence("NEXT: NONE (at the root alone, nowhere)");
        lockIs(withHair("21", "31", "1"), "1", 7, NONE);
        lockIs(withHair("21", "31", "1"), "4", 0, NONE);
        lockIs(withHair("21", "31", "15"), "1", 7, 5);
        lockIs(new BarberJars(), "1", 0, NONE);
    }

    private static void nothingSeen() {
        sentence("with nothing SEEN every place is one");
        lockIs(new BarberJars(), "", 0, NONE);
        lockIs(withHair("", ""), "", 3, NONE);
        lockIs(withHair("12", "2"), "", 3, 2);
        lockIs(withHair("12", "3"), "", 3, 1);
        lockIs(withHair("12", ""), "", 3, 1);
    }

    private static void heardAtMost() {
        sentence("HEARD (4 at most), n (0 .. 60); Promise 23: how much there is. BAD; FULL");
        BarberJars x = withHair("0", "9");
        int[][] heard = {{0, 0}, {9, 1}, {1, 0}, {2, 0}};
        for (int i = 0; i < 4; i++) {
            for (int n : new int[] {-1, 61, Integer.MIN_VALUE, Integer.MAX_VALUE}) {
                due("n " + n, x.hears(0, n), BAD);
            }
            for (int t : new int[] {-1, 10, Integer.MIN_VALUE, Integer.MAX_VALUE}) {
                due("thought " + t, x.hears(t, 0), BAD);
            }
            due("heard", x.count(3), i);
            due("hears", x.hears(heard[i][0], heard[i][1]), i + 1);
            due("heard", x.count(3), i + 1);
        }
        due("a fifth", x.hears(0, 0), FULL);
        due("a fifth", x.hears(9, 60), FULL);
        sentence("BAD ahead of FULL");
        due("n 61", x.hears(0, 61), BAD);
        due("n -1", x.hears(0, -1), BAD);
        due("thought 10", x.hears(10, 0), BAD);
        due("thought -1", x.hears(-1, 0), BAD);
        due("the four stay", x.count(3), 4);
        setsAre(x, 1, 2, 2, 1);
        due("forgotten", x.forget(), 4);
        due("room again, 60", x.hears(9, 60), 1);
        setsAre(x, 0, NONE, NONE, NONE);
    }

    private static void setsAre(BarberJars x, int... answers) {
        for (int what = 0; what < 4; what++) {
            due("sets " + what, x.sets(what), answers[what]);
        }
    }

    private static BarberJars heard(BarberJars x, int... pairs) {
        x.forget();
        for (int i = 0; i + 1 < pairs.length; i += 2) {
            x.hears(pairs[i], pairs[i + 1]);
        }
        return x;
    }

    private static void setsOfAll() {
        sentence("SETS: nothing HEARD: all sets, nobody's too");
        for (int people = 0; people <= 5; people++) {
            setsAre(told("p1 1;".repeat(people)), 1 << people, 0, 0, 0);
        }
        sentence("SETS of nobody");
        setsAre(heard(new BarberJars(), 0, 0), 1, 0, 0, 0);
        setsAre(heard(new BarberJars(), 0, 1), 0, NONE, NONE, NONE);
        sentence("HEARD n (0 .. 60): all hair of all is one THOUGHT");
        String row = "111111111111";
        BarberJars x = withHair(row, row, row, row, row);
        setsAre(heard(x, 1, 60), 1, 31, 31, 0);
        setsAre(heard(x, 1, 59), 0, NONE, NONE, NONE);
        setsAre(heard(x, 1, 48), 5, 15, 0, 0);
        setsAre(heard(x, 1, 12), 5, 1, 0, 0);
        setsAre(heard(x, 1, 0), 1, 0, 0, 31);
        setsAre(heard(x, 2, 0), 32, 0, 0, 0);
        setsAre(heard(x, 2, 1), 0, NONE, NONE, NONE);
    }

    private static void sets() {
        sentence("SETS: sets of PEOPLE by which all that was HEARD is so: how many; the first (least bits); NONE");
        BarberJars x = withHair("0", "00", "000", "9", "09");
        setsAre(heard(x, 0, 3), 6, 3, 0, 0);
        setsAre(heard(x, 0, 3, 9, 0), 2, 3, 0, 24);
        setsAre(heard(x, 0, 3, 9, 2), 1, 26, 26, 5);
        setsAre(heard(x, 0, 7), 2, 23, 23, 0);
        setsAre(heard(x, 0, 7, 9, 1), 1, 23, 23, 8);
        setsAre(heard(x, 0, 8), 0, NONE, NONE, NONE);
        setsAre(heard(x, 0, 1, 0, 2), 0, NONE, NONE, NONE);
        setsAre(heard(x, 0, 0, 9, 1), 1, 8, 8, 23);
        setsAre(heard(x, 9, 2), 8, 24, 24, 0);
        sentence("all four that were HEARD count");
        setsAre(heard(x, 5, 0, 5, 0, 5, 0, 9, 2), 8, 24, 24, 0);
        setsAre(heard(x, 9, 2, 5, 0, 5, 0, 5, 0), 8, 24, 24, 0);
        setsAre(heard(x, 9, 2, 5, 0, 5, 0, 5, 1), 0, NONE, NONE, NONE);
        sentence("by the hair of now");
        heard(x, 0, 3);
        x.cuts(2, 1);
        setsAre(x, 8, 3, 0, 0);
        sentence("Promise 24: BAD");
        for (int what : new int[] {-1, 4, Integer.MIN_VALUE, Integer.MAX_VALUE}) {
            due("what " + what, x.sets(what), BAD);
        }
    }

    private static void forget() {
        sentence("Promise 25: nothing was SEEN, HEARD: how much both were");
        for (int seen = 0; seen <= 4; seen++) {
            for (int heard = 0; heard <= 4; heard++) {
                BarberJars x = told("p1 1;");
                for (int i = 0; i < seen; i++) {
                    x.saw(i);
                }
                for (int i = 0; i < heard; i++) {
                    x.hears(i, i);
                }
                due(seen + " and " + heard, x.forget(), seen + heard);
                due("seen", x.count(2), 0);
                due("heard", x.count(3), 0);
                due("again", x.forget(), 0);
                due("all sets", x.sets(0), 2);
                due("whose", x.lock(0), 1);
                due("new ones", x.saw(1) + x.hears(1, 1), 2);
            }
        }
        unchanged("forget of nothing", () -> withHair("12", "2"), BarberJars::forget, 0);
    }
}
