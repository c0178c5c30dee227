import java.math.BigInteger;
import java.util.ArrayList;
import java.util.Arrays;
import java.util.HashMap;
import java.util.List;
import java.util.Map;
import java.util.regex.Matcher;
import java.util.regex.Pattern;

/** Long runs of drawn calls, answered by BarberJars and by a second program that was written another way. */
public final class ModelTest {
    private static final int RUNS = 3000;
    private static final int CALLS = 512;
    private static int wrong = 0;

    public static void main(String[] args) {
        for (int run = 0; run < RUNS && wrong < 20; run++) {
            new Run(run).go();
        }
        System.out.println(wrong == 0 ? RUNS + " runs are as the model has them" : wrong + " answers are not the model's");
        if (wrong != 0) {
            System.exit(1);
        }
    }

    /** One run on a fresh object: the seed alone decides on its calls. */
    private static final class Run {
        private final int seed;
        private final BarberJars real = new BarberJars();
        private final Model model = new Model();
        private long state;
        private int calls = 0;

        Run(int seed) {
            this.seed = seed;
            this.state = seed * 7919L + 12345;
        }

        int draw(int bound) {
            state = state * 6364136223846793005L + 1442695040888963407L;
            return (int) ((state >>> 33) % bound);
        }

        /** Mostly a number from low to high; at times one beside them, or far away. */
        int arg(int low, int high) {
            int dice = draw(60);
            if (dice == 0) {
                return low - 1;
            }
            if (dice == 1) {
                return high + 1;
            }
            if (dice == 2) {
                int[] wild = {Integer.MIN_VALUE, Integer.MAX_VALUE, -9, -1000000, 1 << 30, 4096};
                return wild[draw(wild.length)];
            }
            return low + draw(high - low + 1);
        }

        void due(String call, long got, long want) {
            calls++;
            if (got != want) {
                wrong++;
                System.out.println("run " + seed + ", call " + calls + ": " + call + " answered " + got + ", due is " + want);
            }
        }

        void go() {
            tell(goodText());
            int faults = wrong;
            while (calls < CALLS - 1 && wrong == faults) {
                step(draw(100));
            }
        }

        void tell(String text) {
            for (int i = 0; i < text.length() && calls < CALLS - 2; i++) {
                int c = text.charAt(i);
                due("type(" + c + ")", real.type(c), model.type(c));
            }
            due("shop()", real.shop(), model.shop());
            if (draw(3) == 0) {
                due("clear()", real.clear(), model.clear());
            }
        }

        String goodText() {
            StringBuilder b = new StringBuilder();
            int spread = 1 + draw(10);
            boolean longest = draw(3) != 0;
            boolean chair = draw(3) == 0;
            int people = draw(6);
            for (int p = 0; p < people; p++) {
                if (longest && draw(2) == 0) {
                    longest = false;
                    b.append("m").append(1 + draw(12)).append(";");
                }
                b.append(draw(8) == 0 ? "p " : "p").append(draw(spread));
                int week = 1 + draw(7);
                for (int k = 0; k < week; k++) {
                    b.append(' ').append(draw(spread));
                }
                b.append(draw(8) == 0 ? " ; " : ";");
            }
            if (longest) {
                b.append("m ").append(1 + draw(12)).append(";");
            }
            if (chair) {
                b.append("j").append(draw(4)).append(";");
            }
            return b.toString();
        }

        String faultyText() {
            StringBuilder b = new StringBuilder(goodText());
            String bytes = " ;;pmj0123456789xA" + (char) 200 + (char) 0;
            int changes = 1 + draw(2);
            for (int i = 0; i < changes; i++) {
                int at = draw(b.length() + 1);
                if (draw(3) == 0 && at < b.length()) {
                    b.deleteCharAt(at);
                } else {
                    b.insert(at, bytes.charAt(draw(bytes.length())));
                }
            }
            return b.toString();
        }

        void step(int dice) {
            if (dice < 2) {
                tell(draw(4) == 0 ? goodText() : faultyText());
            } else if (dice < 50) {
                deed(dice % 12);
            } else {
                question(dice % 20);
            }
        }

        void deed(int which) {
            int p = arg(0, Math.max(0, model.people.size() - 1));
            int thought = arg(0, 9);
            int j = arg(0, 3);
            int n = arg(1, 9);
            switch (which) {
                case 0: case 1: case 2:
                    due("days(" + n + ")", real.days(n), model.days(n)); break;
                case 3: case 4:
                    due("minds(" + p + ", " + thought + ")", real.minds(p, thought), model.minds(p, thought)); break;
                case 5: case 6:
                    due("cuts(" + p + ", " + n + ")", real.cuts(p, n), model.cuts(p, n)); break;
                case 7:
                    due("changes(" + j + ")", real.changes(j), model.changes(j)); break;
                case 8:
                    due("empties(" + j + ")", real.empties(j), model.empties(j)); break;
                case 9:
                    due("undo()", real.undo(), model.undo()); break;
                case 10: {
                    int i = arg(0, 1);
                    due("keep(" + i + ")", real.keep(i), model.keep(i)); break;
                }
                default: {
                    int i = arg(0, 1);
                    due("back(" + i + ")", real.back(i), model.back(i)); break;
                }
            }
        }

        void question(int which) {
            int p = arg(0, Math.max(0, model.people.size() - 1));
            int t = arg(0, 9);
            int j = arg(0, 3);
            switch (which) {
                case 0: { int w = arg(0, 4); due("one(" + p + ", " + w + ")", real.one(p, w), model.one(p, w)); break; }
                case 1: { int k = arg(0, 6); due("week(" + p + ", " + k + ")", real.week(p, k), model.week(p, k)); break; }
                case 2: { int k = arg(0, 11); due("layer(" + p + ", " + k + ")", real.layer(p, k), model.layer(p, k)); break; }
                case 3: due("jar(" + j + ", " + t + ")", real.jar(j, t), model.jar(j, t)); break;
                case 4: { int w = arg(0, 3); due("now(" + w + ")", real.now(w), model.now(w)); break; }
                case 5: { int w = arg(0, 1); due("reads(" + j + ", " + w + ")", real.reads(j, w), model.reads(j, w)); break; }
                case 6: case 7: {
                    int n = arg(1, 20); int w = arg(1, 12); int what = arg(0, 1);
                    due("plan(" + p + ", " + n + ", " + w + ", " + what + ")", real.plan(p, n, w, what), model.plan(p, n, w, what));
                    break;
                }
                case 8: case 9: {
                    int n = arg(1, 8);
                    due("least(" + p + ", " + t + ", " + n + ")", real.least(p, t, n), model.least(p, t, n)); break;
                }
                case 10: case 11: {
                    int set = arg(0, 1023);
                    set = draw(3) == 0 ? set : set & (draw(1024) & draw(1024));
                    due("wig(" + set + ")", real.wig(set), model.wig(set)); break;
                }
                case 12: {
                    int x = arg(0, 10); int k = arg(0, 7); int n = arg(0, 7); int what = arg(0, 1);
                    due("odds(" + x + ", " + k + ", " + n + ", " + what + ")", real.odds(x, k, n, what), model.odds(x, k, n, what));
                    break;
                }
                case 13: due("saw(" + t + ")", real.saw(t), model.saw(t)); break;
                case 14: case 15: { int w = arg(0, 1); due("lock(" + w + ")", real.lock(w), model.lock(w)); break; }
                case 16: {
                    int n = draw(3) == 0 ? arg(0, 60) : arg(0, 6);
                    due("hears(" + t + ", " + n + ")", real.hears(t, n), model.hears(t, n)); break;
                }
                case 17: { int w = arg(0, 3); due("sets(" + w + ")", real.sets(w), model.sets(w)); break; }
                case 18: {
                    int k = arg(0, 5);
                    due("mark(" + k + ", " + p + ")", real.mark(k, p), model.mark(k, p));
                    due("trace()", real.trace(), model.trace); break;
                }
                default:
                    if (draw(2) == 0) {
                        due("forget()", real.forget(), model.forget());
                    } else {
                        int w = arg(0, 5);
                        due("count(" + w + ")", real.count(w), model.tally(w));
                    }
            }
        }
    }

    private record One(int secret, List<Integer> week) { }

    /** NOW, never changed once made: each deed makes the next. */
    private record Scene(int day, int chair, List<List<Integer>> hair, List<Integer> minds, List<List<Integer>> jars) {
        Scene withHair(int p, List<Integer> h) {
            return new Scene(day, chair, put(hair, p, h), minds, jars);
        }

        Scene withMind(int p, int thought) {
            return new Scene(day, chair, hair, put(minds, p, thought), jars);
        }

        Scene withJar(int j, List<Integer> row) {
            return new Scene(day, chair, hair, minds, put(jars, j, row));
        }
    }

    private static <T> List<T> put(List<T> list, int at, T x) {
        List<T> copy = new ArrayList<>(list);
        copy.set(at, x);
        return copy;
    }

    private record Picture(Scene scene, List<Scene> past) { }

    private static final class Model {
        private static final int BAD = -1, STATE = -2, FULL = -3, NONE = -9;
        private static final Pattern TOKEN = Pattern.compile("[a-z]+|[0-9]+|;");

        private String text = "";
        private List<One> people = new ArrayList<>();
        private int longest = 12;
        private Scene scene = fresh(0, 0);
        private List<Scene> past = new ArrayList<>();
        private Picture[] pictures = new Picture[2];
        private List<Integer> seen = new ArrayList<>();
        private List<int[]> heard = new ArrayList<>();
        private long trace = 0;

        private static Scene fresh(int people, int chair) {
            List<List<Integer>> hair = new ArrayList<>();
            List<Integer> minds = new ArrayList<>();
            for (int p = 0; p < people; p++) {
                hair.add(List.of());
                minds.add(NONE);
            }
            List<List<Integer>> jars = new ArrayList<>();
            for (int j = 0; j < 4; j++) {
                jars.add(List.of(0, 0, 0, 0, 0, 0, 0, 0, 0, 0));
            }
            return new Scene(0, chair, hair, minds, jars);
        }

        private boolean nobody(int p) {
            return p < 0 || p >= people.size();
        }

        private static boolean out(int x, int low, int high) {
            return x < low || x > high;
        }

        int type(int c) {
            if (out(c, 0, 255)) {
                return BAD;
            }
            if (text.length() == 120) {
                return FULL;
            }
            text += (char) c;
            return text.length();
        }

        int clear() {
            int had = text.length();
            text = "";
            return had;
        }

        /** Splits the text into tokens first, then walks over what an item may have at each place. */
        int shop() {
            List<String> tokens = new ArrayList<>();
            List<Integer> places = new ArrayList<>();
            int at = 0;
            Matcher m = TOKEN.matcher(text);
            while (at < text.length()) {
                if (text.charAt(at) == ' ') {
                    at++;
                    continue;
                }
                places.add(at);
                if (!m.find(at) || m.start() != at) {
                    tokens.add("?");
                    break;
                }
                String token = m.group();
                boolean odd = Character.isDigit(token.charAt(0)) && (token.length() > 2 || token.matches("0[0-9]+"));
                tokens.add(odd ? "?" : token);
                at = m.end();
            }
            tokens.add("end");
            places.add(text.length());
            List<One> told = new ArrayList<>();
            int most = 0;
            int chair = -1;
            int items = 0;
            int i = 0;
            while (!tokens.get(i).equals("end")) {
                String word = tokens.get(i);
                boolean p = word.equals("p") && told.size() < 5;
                boolean mm = word.equals("m") && most == 0;
                boolean j = word.equals("j") && chair < 0;
                if (!p && !mm && !j) {
                    return -10 - places.get(i);
                }
                i++;
                List<Integer> numbers = new ArrayList<>();
                int low = mm ? 1 : 0;
                int high = mm ? 12 : j ? 3 : 9;
                while (numbers.size() < (p ? 8 : 1) && tokens.get(i).matches("[0-9]+")) {
                    int v = Integer.parseInt(tokens.get(i));
                    if (out(v, low, high)) {
                        return -10 - places.get(i);
                    }
                    numbers.add(v);
                    i++;
                }
                if (numbers.size() < (p ? 2 : 1) || !tokens.get(i).equals(";")) {
                    return -10 - places.get(i);
                }
                i++;
                items++;
                if (p) {
                    told.add(new One(numbers.get(0), numbers.subList(1, numbers.size())));
                } else if (mm) {
                    most = numbers.get(0);
                } else {
                    chair = numbers.get(0);
                }
            }
            people = told;
            longest = most == 0 ? 12 : most;
            scene = fresh(told.size(), Math.max(chair, 0));
            past = new ArrayList<>();
            pictures = new Picture[2];
            seen = new ArrayList<>();
            heard = new ArrayList<>();
            text = "";
            return items;
        }

        private static int of(List<Integer> hair, int thought) {
            return (int) hair.stream().filter(x -> x == thought).count();
        }

        int one(int p, int what) {
            if (nobody(p) || out(what, 0, 4)) {
                return BAD;
            }
            One o = people.get(p);
            List<Integer> hair = scene.hair().get(p);
            return new int[] {o.secret(), o.week().size(), hair.size(), scene.minds().get(p), of(hair, o.secret())}[what];
        }

        int week(int p, int k) {
            if (nobody(p) || out(k, 0, 6)) {
                return BAD;
            }
            List<Integer> week = people.get(p).week();
            return k < week.size() ? week.get(k) : NONE;
        }

        int layer(int p, int k) {
            if (nobody(p) || out(k, 0, 11)) {
                return BAD;
            }
            List<Integer> hair = scene.hair().get(p);
            return k < hair.size() ? hair.get(k) : NONE;
        }

        int jar(int j, int thought) {
            return out(j, 0, 3) || out(thought, 0, 9) ? BAD : scene.jars().get(j).get(thought);
        }

        private List<Integer> grown(List<Integer> hair, int thought) {
            List<Integer> longer = new ArrayList<>(hair);
            longer.add(thought);
            return longer.size() > longest ? longer.subList(1, longer.size()) : longer;
        }

        private int thinks(int p, int ahead) {
            if (ahead == 0 && scene.minds().get(p) != NONE) {
                return scene.minds().get(p);
            }
            List<Integer> week = people.get(p).week();
            return week.get((scene.day() + ahead) % week.size());
        }

        private void becomes(Scene next) {
            past.add(scene);
            if (past.size() > 10) {
                past.remove(0);
            }
            scene = next;
        }

        int days(int n) {
            if (out(n, 1, 9)) {
                return BAD;
            }
            if (scene.day() + n > 999) {
                return STATE;
            }
            Scene ahead = scene;
            for (int i = 0; i < n; i++) {
                for (int p = 0; p < people.size(); p++) {
                    int thought = thinks(p, 0);
                    scene = scene.withHair(p, grown(scene.hair().get(p), thought)).withMind(p, NONE);
                }
                scene = new Scene(scene.day() + 1, scene.chair(), scene.hair(), scene.minds(), scene.jars());
            }
            Scene next = scene;
            scene = ahead;
            becomes(next);
            return scene.day();
        }

        int minds(int p, int thought) {
            if (nobody(p) || out(thought, 0, 9)) {
                return BAD;
            }
            int till = scene.minds().get(p);
            if (till == thought) {
                return STATE;
            }
            becomes(scene.withMind(p, thought));
            return till;
        }

        int cuts(int p, int n) {
            if (nobody(p) || out(n, 1, 12)) {
                return BAD;
            }
            List<Integer> hair = scene.hair().get(p);
            if (hair.size() < n) {
                return STATE;
            }
            List<Integer> row = new ArrayList<>(scene.jars().get(scene.chair()));
            for (int thought : hair.subList(0, n)) {
                row.set(thought, Math.min(99, row.get(thought) + 1));
            }
            becomes(scene.withHair(p, hair.subList(n, hair.size())).withJar(scene.chair(), row));
            return hair.size() - n;
        }

        int changes(int j) {
            if (out(j, 0, 3)) {
                return BAD;
            }
            int was = scene.chair();
            if (was == j) {
                return STATE;
            }
            becomes(new Scene(scene.day(), j, scene.hair(), scene.minds(), scene.jars()));
            return was;
        }

        private static int sum(List<Integer> row) {
            return row.stream().mapToInt(x -> x).sum();
        }

        int empties(int j) {
            if (out(j, 0, 3)) {
                return BAD;
            }
            int had = sum(scene.jars().get(j));
            if (had == 0) {
                return STATE;
            }
            becomes(scene.withJar(j, List.of(0, 0, 0, 0, 0, 0, 0, 0, 0, 0)));
            return had;
        }

        int undo() {
            if (past.isEmpty()) {
                return STATE;
            }
            scene = past.remove(past.size() - 1);
            return past.size();
        }

        int now(int what) {
            switch (what) {
                case 0: return scene.day();
                case 1: return scene.chair();
                case 2: return scene.hair().stream().mapToInt(List::size).sum();
                case 3: return scene.jars().stream().mapToInt(Model::sum).sum();
                default: return BAD;
            }
        }

        int reads(int j, int what) {
            if (out(j, 0, 3) || out(what, 0, 1)) {
                return BAD;
            }
            List<Integer> row = scene.jars().get(j);
            if (what == 0) {
                int most = row.stream().mapToInt(x -> x).max().orElse(0);
                return most == 0 ? NONE : row.indexOf(most);
            }
            int bits = 0;
            for (int p = 0; p < people.size(); p++) {
                bits += row.get(people.get(p).secret()) > 0 ? 1 << p : 0;
            }
            return bits;
        }

        /** Holds every hair one may have of an evening, with how often he was cut for it. */
        int plan(int p, int n, int w, int what) {
            if (nobody(p) || out(n, 1, 20) || out(w, 1, 12) || out(what, 0, 1)) {
                return BAD;
            }
            int secret = people.get(p).secret();
            Map<List<Integer>, Integer> may = new HashMap<>();
            // a number of its own for each layer, so that like thoughts of other days are told apart
            List<Integer> first = new ArrayList<>();
            for (int k = 0; k < scene.hair().get(p).size(); k++) {
                first.add(scene.hair().get(p).get(k) + 10 * k);
            }
            may.put(first, 0);
            for (int evening = 1; evening <= n; evening++) {
                Map<List<Integer>, Integer> next = new HashMap<>();
                for (Map.Entry<List<Integer>, Integer> e : may.entrySet()) {
                    List<Integer> hair = grown(e.getKey(), thinks(p, evening - 1) + 1000 * evening);
                    for (int off = 0; off <= hair.size(); off++) {
                        boolean swept = hair.subList(0, off).stream().anyMatch(x -> x % 10 == secret);
                        if (!swept && hair.size() - off <= w) {
                            int cost = e.getValue() + (off > 0 ? 1 : 0);
                            next.merge(new ArrayList<>(hair.subList(off, hair.size())), cost, Math::min);
                        }
                    }
                }
                if (next.isEmpty()) {
                    return what == 0 ? NONE : evening;
                }
                may = next;
            }
            return what == 1 ? NONE : may.values().stream().mapToInt(x -> x).min().orElse(NONE);
        }

        int least(int p, int thought, int n) {
            if (nobody(p) || out(thought, 0, 9) || out(n, 1, 8)) {
                return BAD;
            }
            int best = fewestFrom(p, thought, n, 0, scene.hair().get(p));
            return best > n ? NONE : best;
        }

        private int fewestFrom(int p, int thought, int n, int day, List<Integer> hair) {
            if (day == n) {
                int mine = of(hair, thought);
                for (int t = 0; t < 10; t++) {
                    if (t != thought && of(hair, t) >= mine) {
                        return 100;
                    }
                }
                return 0;
            }
            int asEver = fewestFrom(p, thought, n, day + 1, grown(hair, thinks(p, day)));
            int made = 1 + fewestFrom(p, thought, n, day + 1, grown(hair, thought));
            return Math.min(asEver, made);
        }

        int wig(int set) {
            if (out(set, 0, 1023)) {
                return BAD;
            }
            for (int size = 0; size <= people.size(); size++) {
                for (int bits = 0; bits < 1 << people.size(); bits++) {
                    if (Integer.bitCount(bits) == size && covers(bits, set)) {
                        return bits;
                    }
                }
            }
            return NONE;
        }

        private boolean covers(int bits, int set) {
            for (int t = 0; t < 10; t++) {
                if ((set >> t & 1) == 1 && together(bits, t) == 0) {
                    return false;
                }
            }
            return true;
        }

        private int together(int bits, int thought) {
            int sum = 0;
            for (int p = 0; p < people.size(); p++) {
                sum += (bits >> p & 1) * of(scene.hair().get(p), thought);
            }
            return sum;
        }

        /** By Pascal's rule, layer by layer, in whole numbers over 10 to the n. */
        int odds(int x, int k, int n, int what) {
            if (out(x, 0, 10) || out(k, 0, 7) || out(n, 0, 7) || out(what, 0, 1)) {
                return BAD;
            }
            long[] ways = new long[9];
            ways[0] = 1;
            for (int i = 0; i < n; i++) {
                for (int f = 8; f >= 0; f--) {
                    ways[f] = ways[f] * (10 - x) + (f > 0 ? ways[f - 1] * x : 0);
                }
            }
            BigInteger upper = BigInteger.valueOf(ways[k]);
            BigInteger lower = BigInteger.TEN.pow(n);
            return (what == 0 ? upper : lower).divide(upper.gcd(lower)).intValueExact();
        }

        int saw(int thought) {
            if (out(thought, 0, 9)) {
                return BAD;
            }
            if (seen.size() == 4) {
                return FULL;
            }
            seen.add(thought);
            return seen.size();
        }

        int lock(int what) {
            if (out(what, 0, 1)) {
                return BAD;
            }
            int whose = 0;
            int[] next = new int[10];
            for (int p = 0; p < people.size(); p++) {
                List<Integer> hair = scene.hair().get(p);
                for (int end = seen.size(); end <= hair.size(); end++) {
                    if (hair.subList(end - seen.size(), end).equals(seen)) {
                        whose |= 1 << p;
                        if (end < hair.size()) {
                            next[hair.get(end)]++;
                        }
                    }
                }
            }
            if (what == 0) {
                return whose;
            }
            int most = Arrays.stream(next).max().orElse(0);
            for (int t = 0; t < 10; t++) {
                if (most > 0 && next[t] == most) {
                    return t;
                }
            }
            return NONE;
        }

        int hears(int thought, int n) {
            if (out(thought, 0, 9) || out(n, 0, 60)) {
                return BAD;
            }
            if (heard.size() == 4) {
                return FULL;
            }
            heard.add(new int[] {thought, n});
            return heard.size();
        }

        int sets(int what) {
            if (out(what, 0, 3)) {
                return BAD;
            }
            List<Integer> right = new ArrayList<>();
            for (int bits = 0; bits < 1 << people.size(); bits++) {
                int tried = bits;
                if (heard.stream().allMatch(h -> together(tried, h[0]) == h[1])) {
                    right.add(bits);
                }
            }
            if (what == 0) {
                return right.size();
            }
            if (right.isEmpty()) {
                return NONE;
            }
            if (what == 1) {
                return right.get(0);
            }
            int answer = 0;
            for (int p = 0; p < people.size(); p++) {
                int bit = 1 << p;
                boolean fits = what == 2
                        ? right.stream().allMatch(b -> (b & bit) != 0) : right.stream().noneMatch(b -> (b & bit) != 0);
                answer += fits ? bit : 0;
            }
            return answer;
        }

        int forget() {
            int much = seen.size() + heard.size();
            seen.clear();
            heard.clear();
            return much;
        }

        int mark(int kind, int p) {
            if (nobody(p) || out(kind, 0, 5)) {
                return -1000000;
            }
            List<Integer> hair = scene.hair().get(p);
            int size = hair.size();
            int root = size == 0 ? -1 : hair.get(size - 1);
            int secret = people.get(p).secret();
            trace += new int[] {1, 11, 101, 1011, 10101, 100001}[kind];
            return new int[] {size, size + root, size - secret, 2 * (size + root), size - secret + p, size + scene.day()}[kind];
        }

        int keep(int image) {
            if (out(image, 0, 1)) {
                return BAD;
            }
            pictures[image] = new Picture(scene, new ArrayList<>(past));
            return scene.day();
        }

        int back(int image) {
            if (out(image, 0, 1)) {
                return BAD;
            }
            if (pictures[image] == null) {
                return STATE;
            }
            scene = pictures[image].scene();
            past = new ArrayList<>(pictures[image].past());
            return scene.day();
        }

        int tally(int what) {
            return out(what, 0, 5) ? BAD
                    : new int[] {people.size(), longest, seen.size(), heard.size(), past.size(), text.length()}[what];
        }
    }
}
