import java.util.ArrayList;
import java.util.List;
import java.util.function.Supplier;

/** What the tests share. They extend it, since nothing can be imported from a class without a package. */
abstract class Check {
    static final int BAD = -1, STATE = -2, FULL = -3, NONE = -9, NO = -1000000;
    private static final int MOST_UNDONE = 10;
    private static int wrong = 0;
    private static int asked = 0;
    private static String sentence = "";

    /** A call whose answer is looked at. */
    interface Call {
        long on(BarberJars x);
    }

    /** The words of the document that the answers below are due by. */
    static void sentence(String words) {
        sentence = words;
    }

    static void due(String what, long got, long want) {
        asked++;
        if (got != want) {
            fault(what + " answered " + got + ", due is " + want);
        }
    }

    private static void fault(String what) {
        wrong++;
        System.out.println((sentence.isEmpty() ? "" : "[" + sentence + "] ") + what);
    }

    static void end() {
        System.out.println(wrong == 0 ? asked + " answers are as promised" : wrong + " answers are not as promised");
        if (wrong != 0) {
            System.exit(1);
        }
    }

    static BarberJars typed(BarberJars x, String text) {
        for (int i = 0; i < text.length(); i++) {
            x.type(text.charAt(i));
        }
        return x;
    }

    /** A new object that was told a text without a fault. */
    static BarberJars told(String text) {
        BarberJars x = typed(new BarberJars(), text);
        int answer = x.shop();
        if (answer < 0) {
            fault("shop of '" + text + "' answered " + answer);
        }
        return x;
    }

    static void hairIs(String what, BarberJars x, int p, int... layers) {
        due(what + ": size", x.one(p, 2), layers.length);
        for (int k = 0; k < 12; k++) {
            due(what + ": layer " + k, x.layer(p, k), k < layers.length ? layers[k] : NONE);
        }
    }

    static void jarIs(String what, BarberJars x, int j, int... counts) {
        for (int t = 0; t < 10; t++) {
            due(what + ": thought " + t, x.jar(j, t), t < counts.length ? counts[t] : 0);
        }
    }

    static String blanks(int n) {
        return " ".repeat(n);
    }

    /** That a call answers so, and that nothing which any call tells is another for it. */
    static void unchanged(String what, Supplier<BarberJars> made, Call call, long want) {
        unchanged(what, made, wholeOf(made), call, want);
    }

    /** The same, for many calls on the like objects: what they tell without the call is handed in. */
    static void unchanged(String what, Supplier<BarberJars> made, List<String> whole, Call call, long want) {
        due(what, call.on(made.get()), want);
        List<String> behind = wholeOf(() -> {
            BarberJars x = made.get();
            call.on(x);
            return x;
        });
        asked++;
        for (int i = 0; i < whole.size(); i++) {
            if (!whole.get(i).equals(behind.get(i))) {
                fault(what + " changed something:\n  ahead  " + whole.get(i) + "\n  behind " + behind.get(i));
                return;
            }
        }
    }

    /**
     * All that calls tell of an object, in parts. Each part is asked of an object of its own: one answers 512 calls,
     * and the text, an image and what may be undone are seen only by going there.
     */
    static List<String> wholeOf(Supplier<BarberJars> made) {
        List<String> parts = new ArrayList<>();
        parts.add(townOf(made.get()));
        parts.add(cluesOf(made.get()));
        parts.add(textOf(made.get()));
        for (int undos = 0; undos <= MOST_UNDONE; undos++) {
            parts.add(pastOf(made.get(), undos));
            parts.add(imageOf(made.get(), 0, undos));
            parts.add(imageOf(made.get(), 1, undos));
        }
        return parts;
    }

    private static String townOf(BarberJars x) {
        StringBuilder b = new StringBuilder("town:");
        for (int what = 0; what < 6; what++) {
            b.append(' ').append(x.count(what));
        }
        int people = x.count(0);
        for (int p = 0; p < people; p++) {
            b.append(" / ").append(x.one(p, 0)).append(' ').append(x.one(p, 1)).append(':');
            for (int k = 0; k < 7; k++) {
                b.append(' ').append(x.week(p, k));
            }
        }
        return b.append(" trace ").append(x.trace()).toString();
    }

    /** What was seen and heard is told by its answers, in the hair of now and of four days more. */
    private static String cluesOf(BarberJars x) {
        StringBuilder b = new StringBuilder("clues:");
        for (int day = 0; day < 5; day++) {
            for (int what = 0; what < 4; what++) {
                b.append(' ').append(what < 2 ? x.lock(what) + "," : "").append(x.sets(what));
            }
            x.days(1);
        }
        return b.append(" both ").append(x.forget()).toString();
    }

    private static String textOf(BarberJars x) {
        int size = x.count(5);
        int answer = x.shop();
        return "text: " + size + " " + answer + " " + townOf(x) + " chair " + x.now(1);
    }

    private static String pastOf(BarberJars x, int undos) {
        StringBuilder b = new StringBuilder("undone:");
        for (int i = 0; i < undos; i++) {
            b.append(' ').append(x.undo());
        }
        return b.append(nowOf(x)).toString();
    }

    private static String imageOf(BarberJars x, int image, int undos) {
        return "image " + image + ": " + x.back(image) + " " + pastOf(x, undos);
    }

    private static String nowOf(BarberJars x) {
        StringBuilder b = new StringBuilder(" now:");
        for (int what = 0; what < 4; what++) {
            b.append(' ').append(x.now(what));
        }
        int people = x.count(0);
        for (int p = 0; p < people; p++) {
            b.append(" / ").append(x.one(p, 3)).append(':');
            int size = x.one(p, 2);
            for (int k = 0; k < size; k++) {
                b.append(' ').append(x.layer(p, k));
            }
        }
        for (int j = 0; j < 4; j++) {
            b.append(" jar");
            for (int t = 0; t < 10; t++) {
                b.append(' ').append(x.jar(j, t));
            }
        }
        return b.toString();
    }
}
