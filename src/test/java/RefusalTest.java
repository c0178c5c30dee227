import java.lang.reflect.Method;
import java.util.ArrayList;
import java.util.Arrays;
import java.util.List;
import java.util.function.Supplier;

/**
 * Every call with every argument at the last value that is allowed and at the first that is not, on both sides, in
 * towns that are empty, busy and full: what is refused, in the order BAD, STATE, FULL, and that nothing changes then;
 * and that nothing changes where only something is asked.
 */
public final class RefusalTest extends Check {
    /** A call's name and, for each argument, the least and the greatest that is allowed; -5 stands for one of people. */
    private record Row(String name, int... bounds) { }

    private static final int P = -5;
    private static final Row[] DEEDS = {
        new Row("type", 0, 255), new Row("days", 1, 9), new Row("minds", P, P, 0, 9), new Row("cuts", P, P, 1, 12),
        new Row("changes", 0, 3), new Row("empties", 0, 3), new Row("saw", 0, 9), new Row("hears", 0, 9, 0, 60),
        new Row("mark", 0, 5, P, P), new Row("keep", 0, 1), new Row("back", 0, 1)};
    private static final Row[] QUESTIONS = {
        new Row("one", P, P, 0, 4), new Row("week", P, P, 0, 6), new Row("layer", P, P, 0, 11),
        new Row("jar", 0, 3, 0, 9), new Row("now", 0, 3), new Row("reads", 0, 3, 0, 1),
        new Row("plan", P, P, 1, 20, 1, 12, 0, 1), new Row("least", P, P, 0, 9, 1, 8), new Row("wig", 0, 1023),
        new Row("odds", 0, 10, 0, 7, 0, 7, 0, 1), new Row("lock", 0, 1), new Row("sets", 0, 3), new Row("count", 0, 5),
        new Row("trace")};

    public static void main(String[] args) throws Exception {
        String[] names = {"a new object", "a busy town", "a full town", "a town on its last day"};
        List<Supplier<BarberJars>> towns = List.of(BarberJars::new, RefusalTest::busy, RefusalTest::full, RefusalTest::last);
        for (int i = 0; i < names.length; i++) {
            List<String> whole = wholeOf(towns.get(i));
            for (Row row : DEEDS) {
                sentence("Refused, and nothing changes: " + row.name() + " in " + names[i]);
                outside(row, towns.get(i), whole);
                inside(row, towns.get(i), whole);
            }
            for (Row row : QUESTIONS) {
                sentence("(Nothing is changed): " + row.name() + " in " + names[i]);
                outside(row, towns.get(i), whole);
                asked(row, towns.get(i), whole);
            }
            sentence("(Nothing is changed): a question ahead of another in " + names[i]);
            inTurn(towns.get(i));
        }
        refusedInAFullTown();
        refusedOnTheLastDay();
        end();
    }

    private static BarberJars busy() {
        BarberJars x = told("m5;j3;p1 2 3;p4 5;");
        x.days(4);
        x.keep(0);
        x.cuts(0, 2);
        x.minds(1, 7);
        x.changes(1);
        x.cuts(1, 1);
        x.saw(2);
        x.hears(5, 3);
        x.mark(4, 1);
        return typed(x, "p8 8;");
    }

    /** Five people, ten deeds to be undone and more that are lost, both images, four seen and heard, 120 bytes. */
    private static BarberJars full() {
        BarberJars x = told("m9;j2;p1 1 2 3;p0 4;p9 9 8 7 6 5 4 3;p5 1 2;p2 2 0;");
        x.days(9);
        x.cuts(0, 3);
        x.minds(2, 0);
        x.days(2);
        x.changes(1);
        x.cuts(1, 9);
        x.keep(0);
        x.cuts(2, 4);
        x.changes(3);
        x.empties(2);
        x.cuts(3, 5);
        x.days(1);
        x.minds(0, 6);
        x.keep(1);
        x.minds(4, 2);
        x.cuts(4, 9);
        int[] seen = {1, 2, 3, 1};
        for (int i = 0; i < 4; i++) {
            x.saw(seen[i]);
            x.hears(i + 1, i);
        }
        for (int kind = 0; kind < 6; kind++) {
            x.mark(kind, 2);
        }
        return typed(x, "m3;p7 8 9;" + blanks(105) + "p6 5;");
    }

    private static BarberJars last() {
        BarberJars x = told("m2;p1 2 3;p4 5;");
        for (int i = 0; i < 111; i++) {
            x.days(9);
        }
        return x;
    }

    private static int low(Row row, int i) {
        return row.bounds()[2 * i] == P ? 0 : row.bounds()[2 * i];
    }

    private static int high(Row row, int i, BarberJars x) {
        return row.bounds()[2 * i + 1] == P ? x.count(0) - 1 : row.bounds()[2 * i + 1];
    }

    private static long answer(Row row, BarberJars x, int[] arguments) {
        Class<?>[] types = new Class<?>[arguments.length];
        Arrays.fill(types, int.class);
        try {
            Method method = BarberJars.class.getMethod(row.name(), types);
            Object[] boxed = Arrays.stream(arguments).boxed().toArray();
            return ((Number) method.invoke(x, boxed)).longValue();
        } catch (ReflectiveOperationException e) {
            throw new IllegalStateException(row.name(), e);
        }
    }

    /** All ways to have each argument at its least or its greatest. */
    private static List<int[]> edges(Row row, BarberJars x) {
        int many = row.bounds().length / 2;
        List<int[]> all = new ArrayList<>();
        for (int ways = 0; ways < 1 << many; ways++) {
            int[] arguments = new int[many];
            for (int i = 0; i < many; i++) {
                arguments[i] = (ways >> i & 1) == 0 ? low(row, i) : high(row, i, x);
            }
            all.add(arguments);
        }
        return all;
    }

    /** One argument, or two, beyond what is allowed: BAD, whatever else would refuse the call. */
    private static void outside(Row row, Supplier<BarberJars> made, List<String> whole) {
        BarberJars x = made.get();
        for (int[] edge : edges(row, x)) {
            for (int i = 0; i < edge.length; i++) {
                for (int v : new int[] {low(row, i) - 1, high(row, i, x) + 1, Integer.MIN_VALUE, Integer.MAX_VALUE}) {
                    int[] arguments = edge.clone();
                    arguments[i] = v;
                    refused(row, made, whole, arguments);
                    arguments[(i + 1) % edge.length] = v;
                    refused(row, made, whole, arguments);
                }
            }
        }
    }

    private static void refused(Row row, Supplier<BarberJars> made, List<String> whole, int[] arguments) {
        int want = row.name().equals("mark") ? NO : BAD;
        BarberJars x = made.get();
        boolean within = true;
        for (int i = 0; i < arguments.length; i++) {
            within &= low(row, i) <= arguments[i] && arguments[i] <= high(row, i, x);
        }
        if (!within) {
            unchanged(row.name() + Arrays.toString(arguments), made, whole, y -> answer(row, y, arguments), want);
        }
    }

    /** At the edges no call is BAD; where it is STATE or FULL, nothing changes. */
    private static void inside(Row row, Supplier<BarberJars> made, List<String> whole) {
        if (nobodyIsThere(row, made)) {
            return;
        }
        for (int[] arguments : edges(row, made.get())) {
            long got = answer(row, made.get(), arguments);
            String call = row.name() + Arrays.toString(arguments);
            boolean bad = row.name().equals("mark") ? got == NO : got == BAD;
            due(call + " is allowed, but " + got, bad ? 1 : 0, 0);
            if (!row.name().equals("mark") && (got == STATE || got == FULL)) {
                unchanged(call, made, whole, y -> answer(row, y, arguments), got);
            }
        }
    }

    private static void asked(Row row, Supplier<BarberJars> made, List<String> whole) {
        if (nobodyIsThere(row, made)) {
            return;
        }
        for (int[] arguments : edges(row, made.get())) {
            long got = answer(row, made.get(), arguments);
            String call = row.name() + Arrays.toString(arguments);
            due(call + " is allowed, but " + got, got == BAD || got == STATE || got == FULL ? 1 : 0, 0);
            unchanged(call, made, whole, y -> answer(row, y, arguments), got);
            unchanged(call + " twice", made, whole, y -> answer(row, y, arguments) + answer(row, y, arguments), 2 * got);
        }
    }

    /** Each question behind each other one answers as it does alone. */
    private static void inTurn(Supplier<BarberJars> made) {
        List<Call> calls = new ArrayList<>();
        List<String> names = new ArrayList<>();
        for (Row row : QUESTIONS) {
            for (int[] arguments : edges(row, made.get())) {
                calls.add(x -> answer(row, x, arguments));
                names.add(row.name() + Arrays.toString(arguments));
            }
        }
        for (int second = 0; second < calls.size(); second++) {
            long alone = calls.get(second).on(made.get());
            for (int first = 0; first < calls.size(); first++) {
                BarberJars x = made.get();
                calls.get(first).on(x);
                due(names.get(first) + ", " + names.get(second), calls.get(second).on(x), alone);
            }
        }
    }

    private static boolean nobodyIsThere(Row row, Supplier<BarberJars> made) {
        boolean ofOne = Arrays.stream(row.bounds()).anyMatch(b -> b == P);
        return ofOne && made.get().count(0) == 0;
    }

    private static void refusedInAFullTown() {
        sentence("FULL in a full town");
        List<String> whole = wholeOf(RefusalTest::full);
        int[] counts = {5, 9, 4, 4, 10, 120};
        for (int what = 0; what < 6; what++) {
            due("it is full, " + what, full().count(what), counts[what]);
        }
        for (int v : new int[] {0, 1, 9}) {
            unchanged("type " + v, RefusalTest::full, whole, x -> x.type(v), FULL);
            unchanged("saw " + v, RefusalTest::full, whole, x -> x.saw(v), FULL);
            unchanged("hears " + v, RefusalTest::full, whole, x -> x.hears(v, v), FULL);
        }
        sentence("STATE in a full town: nothing of the ten is lost");
        unchanged("minds", RefusalTest::full, whole, x -> x.minds(0, 6), STATE);
        unchanged("minds", RefusalTest::full, whole, x -> x.minds(4, 2), STATE);
        unchanged("cuts", RefusalTest::full, whole, x -> x.cuts(4, 1), STATE);
        unchanged("cuts", RefusalTest::full, whole, x -> x.cuts(0, 10), STATE);
        unchanged("changes", RefusalTest::full, whole, x -> x.changes(3), STATE);
        unchanged("empties", RefusalTest::full, whole, x -> x.empties(0), STATE);
        unchanged("empties", RefusalTest::full, whole, x -> x.empties(2), STATE);
    }

    private static void refusedOnTheLastDay() {
        sentence("STATE on the last day");
        List<String> whole = wholeOf(RefusalTest::last);
        due("999", last().now(0), 999);
        for (int n = 1; n <= 9; n++) {
            int days = n;
            unchanged("days " + n, RefusalTest::last, whole, x -> x.days(days), STATE);
        }
        unchanged("back", RefusalTest::last, whole, x -> x.back(0), STATE);
        unchanged("back", RefusalTest::last, whole, x -> x.back(1), STATE);
    }
}
