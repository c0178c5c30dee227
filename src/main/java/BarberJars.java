import java.util.Arrays;

/**
 * The barber keeps what you were thinking: hair that grows a thought a day, and the jars it is swept into.
 * Every row is made in the constructor and used again, since all calls of a run share one room.
 */
public final class BarberJars {
    public static final int BAD = -1, STATE = -2, FULL = -3, NONE = -9;
    public static final int NO = -1000000;

    private static final int THOUGHTS = 10;
    private static final int MOST_PEOPLE = 5;
    private static final int MOST_WEEK = 7;
    private static final int MOST_LAYERS = 12;
    private static final int JARS = 4;
    private static final int MOST_SWEPT = 99;
    private static final int MOST_BYTES = 120;
    private static final int MOST_UNDONE = 10;
    private static final int MOST_CLUES = 4;
    private static final int MOST_HEARD = 60;
    private static final int IMAGES = 2;
    private static final int LAST_DAY = 999;
    private static final int MOST_DAYS_AT_ONCE = 9;
    private static final int MOST_EVENINGS = 20;
    private static final int MOST_DAYS_OF_LEAST = 8;
    private static final int SIEVE_TENTHS = 10;
    private static final int MOST_SIEVED = 7;

    private final Text text;
    private final Reader reader;
    private final Times times;
    private final Times[] images;
    private final boolean[] kept;
    private final Clues clues;
    private final Strand strand;
    private final Town town;
    private final int[] places;
    private final int[] shares;
    private long traced;

    public BarberJars() {
        reader = new Reader();
        text = reader.text;
        times = new Times();
        images = new Times[IMAGES];
        for (int i = 0; i < IMAGES; i++) {
            images[i] = new Times();
        }
        kept = new boolean[IMAGES];
        clues = new Clues();
        strand = new Strand();
        town = new Town();
        places = new int[THOUGHTS];
        shares = new int[MOST_CLUES * MOST_PEOPLE];
    }

    // ---- the town

    public int type(int c) {
        if (!within(c, 0, 255)) {
            return BAD;
        }
        if (text.size >= MOST_BYTES) {
            return FULL;
        }
        text.bytes[text.size] = c;
        text.size++;
        return text.size;
    }

    public int clear() {
        int had = text.size;
        text.size = 0;
        return had;
    }

    public int shop() {
        int answer = reader.tellAll();
        if (answer < 0) {
            return answer;
        }
        town.copyFrom(reader.draft);
        text.size = 0;
        times.begin(town.chair);
        clues.drop();
        for (int i = 0; i < IMAGES; i++) {
            kept[i] = false;
        }
        return answer;
    }

    public int one(int p, int what) {
        if (!isOne(p)) {
            return BAD;
        }
        Moment present = times.present;
        switch (what) {
            case 0:
                return town.secrets[p];
            case 1:
                return town.weekSizes[p];
            case 2:
                return present.sizes[p];
            case 3:
                return present.made[p];
            case 4:
                return present.layersOf(p, town.secrets[p]);
            default:
                return BAD;
        }
    }

    public int week(int p, int k) {
        if (!isOne(p) || !within(k, 0, MOST_WEEK - 1)) {
            return BAD;
        }
        return k < town.weekSizes[p] ? town.weeks[p * MOST_WEEK + k] : NONE;
    }

    public int layer(int p, int k) {
        if (!isOne(p) || !within(k, 0, MOST_LAYERS - 1)) {
            return BAD;
        }
        return k < times.present.sizes[p] ? times.present.layerAt(p, k) : NONE;
    }

    public int jar(int j, int thought) {
        if (!isJar(j) || !isThought(thought)) {
            return BAD;
        }
        return times.present.sweptOf(j, thought);
    }

    // ---- what is done

    public int days(int n) {
        if (!within(n, 1, MOST_DAYS_AT_ONCE)) {
            return BAD;
        }
        if (times.present.day + n > LAST_DAY) {
            return STATE;
        }
        times.remember();
        for (int i = 0; i < n; i++) {
            times.present.passDay(town);
        }
        return times.present.day;
    }

    public int minds(int p, int thought) {
        if (!isOne(p) || !isThought(thought)) {
            return BAD;
        }
        int till = times.present.made[p];
        if (till == thought) {
            return STATE;
        }
        times.remember();
        times.present.made[p] = thought;
        return till;
    }

    public int cuts(int p, int n) {
        if (!isOne(p) || !within(n, 1, MOST_LAYERS)) {
            return BAD;
        }
        if (n > times.present.sizes[p]) {
            return STATE;
        }
        times.remember();
        times.present.sweep(p, n);
        return times.present.sizes[p];
    }

    public int changes(int j) {
        if (!isJar(j)) {
            return BAD;
        }
        int was = times.present.chair;
        if (was == j) {
            return STATE;
        }
        times.remember();
        times.present.chair = j;
        return was;
    }

    public int empties(int j) {
        if (!isJar(j)) {
            return BAD;
        }
        int had = times.present.sweptInto(j);
        if (had == 0) {
            return STATE;
        }
        times.remember();
        times.present.pourOut(j);
        return had;
    }

    public int undo() {
        if (times.known == 0) {
            return STATE;
        }
        times.goBack();
        return times.known;
    }

    public int now(int what) {
        Moment present = times.present;
        switch (what) {
            case 0:
                return present.day;
            case 1:
                return present.chair;
            case 2:
                return layersOfAll();
            case 3:
                return sweptIntoAll();
            default:
                return BAD;
        }
    }

    // ---- jars, plans

    public int reads(int j, int what) {
        if (!isJar(j)) {
            return BAD;
        }
        switch (what) {
            case 0:
                return mostIn(j);
            case 1:
                return blushes(j);
            default:
                return BAD;
        }
    }

    public int plan(int p, int n, int w, int what) {
        if (!isOne(p) || !within(n, 1, MOST_EVENINGS) || !within(w, 1, MOST_LAYERS) || !within(what, 0, 1)) {
            return BAD;
        }
        strand.grow(town, times.present, p, n);
        int fails = strand.firstFailingEvening(town.secrets[p], n, w);
        if (what == 1) {
            return fails;
        }
        return fails == NONE ? strand.fewestCuts() : NONE;
    }

    public int least(int p, int thought, int n) {
        if (!isOne(p) || !isThought(thought) || !within(n, 1, MOST_DAYS_OF_LEAST)) {
            return BAD;
        }
        strand.grow(town, times.present, p, n);
        return strand.fewestDays(thought);
    }

    public int wig(int set) {
        if (!within(set, 0, (1 << THOUGHTS) - 1)) {
            return BAD;
        }
        for (int p = 0; p < town.people; p++) {
            shares[p] = times.present.thoughtsIn(p);
        }
        int best = NONE;
        int fewest = MOST_PEOPLE + 1;
        for (int people = 0; people < 1 << town.people; people++) {
            int much = Integer.bitCount(people);
            if (much < fewest && (thoughtsOf(people) & set) == set) {
                best = people;
                fewest = much;
            }
        }
        return best;
    }

    public int odds(int x, int k, int n, int what) {
        if (!within(x, 0, SIEVE_TENTHS) || !within(k, 0, MOST_SIEVED) || !within(n, 0, MOST_SIEVED)
                || !within(what, 0, 1)) {
            return BAD;
        }
        int upper = 0;
        if (k <= n) {
            upper = choose(n, k) * power(x, k) * power(SIEVE_TENTHS - x, n - k);
        }
        int lower = power(SIEVE_TENTHS, n);
        int shared = commonDivisor(upper, lower);
        if (shared <= 0) {
            return BAD;
        }
        return (what == 0 ? upper : lower) / shared;
    }

    // ---- locks, sums

    public int saw(int thought) {
        if (!isThought(thought)) {
            return BAD;
        }
        if (clues.seenSize >= MOST_CLUES) {
            return FULL;
        }
        clues.seen[clues.seenSize] = thought;
        clues.seenSize++;
        return clues.seenSize;
    }

    public int lock(int what) {
        switch (what) {
            case 0:
                return whoseLock();
            case 1:
                return nextInLock();
            default:
                return BAD;
        }
    }

    public int hears(int thought, int n) {
        if (!isThought(thought) || !within(n, 0, MOST_HEARD)) {
            return BAD;
        }
        if (clues.heardSize >= MOST_CLUES) {
            return FULL;
        }
        clues.heardThoughts[clues.heardSize] = thought;
        clues.heardLayers[clues.heardSize] = n;
        clues.heardSize++;
        return clues.heardSize;
    }

    public int sets(int what) {
        if (!within(what, 0, 3)) {
            return BAD;
        }
        shareOutHeard();
        int all = (1 << town.people) - 1;
        int much = 0;
        int first = NONE;
        int inEach = all;
        int inSome = 0;
        for (int people = 0; people <= all; people++) {
            if (allHeardIsSo(people)) {
                first = much == 0 ? people : first;
                inEach &= people;
                inSome |= people;
                much++;
            }
        }
        if (what == 0) {
            return much;
        }
        if (much == 0 || what == 1) {
            return first;
        }
        return what == 2 ? inEach : all & ~inSome;
    }

    public int forget() {
        int much = clues.seenSize + clues.heardSize;
        clues.drop();
        return much;
    }

    // ---- kinds, images

    public int mark(int kind, int p) {
        if (!isOne(p)) {
            return NO;
        }
        switch (kind) {
            case 0:
                return markOne(p);
            case 1:
                return markPoet(p);
            case 2:
                return markBride(p);
            case 3:
                return markWig(p);
            case 4:
                return markNun(p);
            case 5:
                return markBald(p);
            default:
                return NO;
        }
    }

    public int keep(int image) {
        if (!within(image, 0, IMAGES - 1)) {
            return BAD;
        }
        images[image].copyFrom(times);
        kept[image] = true;
        return times.present.day;
    }

    public int back(int image) {
        if (!within(image, 0, IMAGES - 1)) {
            return BAD;
        }
        if (!kept[image]) {
            return STATE;
        }
        times.copyFrom(images[image]);
        return times.present.day;
    }

    public int count(int what) {
        switch (what) {
            case 0:
                return town.people;
            case 1:
                return town.longest;
            case 2:
                return clues.seenSize;
            case 3:
                return clues.heardSize;
            case 4:
                return times.known;
            case 5:
                return text.size;
            default:
                return BAD;
        }
    }

    public long trace() {
        return traced;
    }

    // ---- what the calls above share

    private static boolean within(int x, int low, int high) {
        return low <= x && x <= high;
    }

    private static boolean isThought(int thought) {
        return within(thought, 0, THOUGHTS - 1);
    }

    private static boolean isJar(int j) {
        return within(j, 0, JARS - 1);
    }

    private boolean isOne(int p) {
        return within(p, 0, town.people - 1);
    }

    private static boolean has(int people, int p) {
        return (people >> p & 1) != 0;
    }

    /** The lowest of the thoughts that a row counts most often; NONE if it counts nothing. */
    private static int mostOf(int[] counts) {
        int best = NONE;
        int most = 0;
        for (int t = 0; t < counts.length; t++) {
            if (counts[t] > most) {
                most = counts[t];
                best = t;
            }
        }
        return best;
    }

    private int mostIn(int j) {
        for (int t = 0; t < THOUGHTS; t++) {
            places[t] = times.present.sweptOf(j, t);
        }
        return mostOf(places);
    }

    private int layersOfAll() {
        int sum = 0;
        for (int p = 0; p < town.people; p++) {
            sum += times.present.sizes[p];
        }
        return sum;
    }

    private int sweptIntoAll() {
        int sum = 0;
        for (int j = 0; j < JARS; j++) {
            sum += times.present.sweptInto(j);
        }
        return sum;
    }

    private int blushes(int j) {
        int people = 0;
        for (int p = 0; p < town.people; p++) {
            if (times.present.sweptOf(j, town.secrets[p]) > 0) {
                people |= 1 << p;
            }
        }
        return people;
    }

    /** The thoughts of a set of people, if the shares hold those of each. */
    private int thoughtsOf(int people) {
        int thoughts = 0;
        for (int p = 0; p < town.people; p++) {
            if (has(people, p)) {
                thoughts |= shares[p];
            }
        }
        return thoughts;
    }

    // ---- the sieve: no product goes beyond 10 to the 7th, as it is a part of it

    private static int power(int base, int exponent) {
        int product = 1;
        for (int i = 0; i < exponent; i++) {
            product *= base;
        }
        return product;
    }

    private static int choose(int n, int k) {
        int ways = 1;
        for (int i = 1; i <= k; i++) {
            ways = ways * (n - k + i) / i;
        }
        return ways;
    }

    private static int commonDivisor(int a, int b) {
        int larger = a;
        int smaller = b;
        for (int i = 0; i < 64 && smaller != 0; i++) {
            int left = larger % smaller;
            larger = smaller;
            smaller = left;
        }
        return larger;
    }

    // ---- what was seen and heard

    private int whoseLock() {
        int people = 0;
        for (int p = 0; p < town.people; p++) {
            for (int from = 0; from <= times.present.sizes[p]; from++) {
                if (clues.fitAt(times.present, p, from)) {
                    people |= 1 << p;
                }
            }
        }
        return people;
    }

    private int nextInLock() {
        Arrays.fill(places, 0);
        for (int p = 0; p < town.people; p++) {
            int size = times.present.sizes[p];
            for (int from = 0; from + clues.seenSize < size; from++) {
                if (clues.fitAt(times.present, p, from)) {
                    places[times.present.layerAt(p, from + clues.seenSize)]++;
                }
            }
        }
        return mostOf(places);
    }

    /** What each has of each heard thought is the same for all sets, so it is told once. */
    private void shareOutHeard() {
        for (int i = 0; i < clues.heardSize; i++) {
            for (int p = 0; p < town.people; p++) {
                shares[i * MOST_PEOPLE + p] = times.present.layersOf(p, clues.heardThoughts[i]);
            }
        }
    }

    private boolean allHeardIsSo(int people) {
        for (int i = 0; i < clues.heardSize; i++) {
            int sum = 0;
            for (int p = 0; p < town.people; p++) {
                if (has(people, p)) {
                    sum += shares[i * MOST_PEOPLE + p];
                }
            }
            if (sum != clues.heardLayers[i]) {
                return false;
            }
        }
        return true;
    }

    // ---- kinds: each body leaves its number in the trace and asks the kind above it

    private int markOne(int p) {
        traced += 1;
        return times.present.sizes[p];
    }

    private int markPoet(int p) {
        traced += 10;
        return markOne(p) + times.present.rootOf(p);
    }

    private int markBride(int p) {
        traced += 100;
        return markOne(p) - town.secrets[p];
    }

    private int markWig(int p) {
        traced += 1000;
        return markPoet(p) * 2;
    }

    private int markNun(int p) {
        traced += 10000;
        return markBride(p) + p;
    }

    private int markBald(int p) {
        traced += 100000;
        return markOne(p) + times.present.day;
    }

    /** The bytes that were typed. */
    private static final class Text {
        final int[] bytes = new int[MOST_BYTES];
        int size;
    }

    /** What a text tells, and no call but shop changes. */
    private static final class Town {
        final int[] secrets = new int[MOST_PEOPLE];
        final int[] weekSizes = new int[MOST_PEOPLE];
        final int[] weeks = new int[MOST_PEOPLE * MOST_WEEK];
        int people;
        int longest = MOST_LAYERS;
        int chair;

        void begin() {
            people = 0;
            longest = MOST_LAYERS;
            chair = 0;
        }

        void copyFrom(Town other) {
            people = other.people;
            longest = other.longest;
            chair = other.chair;
            System.arraycopy(other.secrets, 0, secrets, 0, secrets.length);
            System.arraycopy(other.weekSizes, 0, weekSizes, 0, weekSizes.length);
            System.arraycopy(other.weeks, 0, weeks, 0, weeks.length);
        }

        int usualThought(int p, int day) {
            int size = weekSizes[p];
            return size > 0 ? weeks[p * MOST_WEEK + day % size] : 0;
        }
    }

    /** Reads a text, a token at a time, into a draft of the town: a faulty text must leave the town as it is. */
    private static final class Reader {
        private static final int END = 0, LETTER = 1, NUMBER = 2, STOP = 3, WRONG = 4;
        private static final int BLANK = 32;
        private static final int MOST_NUMBER = 99;
        private static final int FAULT_BASE = -10;

        final Text text = new Text();
        final Town draft = new Town();
        private int place;
        private int start;
        private int sort;
        private int value;
        private boolean longestTold;
        private boolean chairTold;

        /** How many items the text has, or -10 less the fault. */
        int tellAll() {
            draft.begin();
            longestTold = false;
            chairTold = false;
            place = 0;
            advance();
            int items = 0;
            while (items < MOST_BYTES && sort != END) {
                if (!tellItem() || sort != STOP) {
                    return FAULT_BASE - start;
                }
                advance();
                items++;
            }
            return items;
        }

        /** Stands at the token behind the item, or, if it answers false, at the one that can't be there. */
        private boolean tellItem() {
            int letter = value;
            if (sort != LETTER || !mayBegin(letter)) {
                return false;
            }
            advance();
            switch (letter) {
                case 'p':
                    return tellOne(draft.people);
                case 'm':
                    return tellLongest();
                default:
                    return tellChair();
            }
        }

        private boolean mayBegin(int letter) {
            switch (letter) {
                case 'p':
                    return draft.people < MOST_PEOPLE;
                case 'm':
                    return !longestTold;
                case 'j':
                    return !chairTold;
                default:
                    return false;
            }
        }

        private boolean tellOne(int p) {
            if (!isNumber(0, THOUGHTS - 1)) {
                return false;
            }
            draft.secrets[p] = value;
            advance();
            int told = 0;
            while (told < MOST_WEEK && isNumber(0, THOUGHTS - 1)) {
                draft.weeks[p * MOST_WEEK + told] = value;
                told++;
                advance();
            }
            draft.weekSizes[p] = told;
            draft.people++;
            return told > 0;
        }

        private boolean tellLongest() {
            if (!isNumber(1, MOST_LAYERS)) {
                return false;
            }
            draft.longest = value;
            longestTold = true;
            advance();
            return true;
        }

        private boolean tellChair() {
            if (!isNumber(0, JARS - 1)) {
                return false;
            }
            draft.chair = value;
            chairTold = true;
            advance();
            return true;
        }

        private boolean isNumber(int low, int high) {
            return sort == NUMBER && within(value, low, high);
        }

        /** Goes on to the next token; behind the last one it starts at the text's length, where a fault would be. */
        private void advance() {
            while (place < text.size && text.bytes[place] == BLANK) {
                place++;
            }
            start = place;
            if (place >= text.size) {
                sort = END;
            } else if (text.bytes[place] == ';') {
                place++;
                sort = STOP;
            } else if (isSmallLetter(text.bytes[place])) {
                scanLetters();
            } else if (isDigit(text.bytes[place])) {
                scanNumber();
            } else {
                sort = WRONG;
            }
        }

        /** Every item begins with a single letter, so more of them side by side are wrong everywhere. */
        private void scanLetters() {
            value = text.bytes[start];
            while (place < text.size && isSmallLetter(text.bytes[place])) {
                place++;
            }
            sort = place - start == 1 ? LETTER : WRONG;
        }

        private void scanNumber() {
            value = 0;
            while (place < text.size && isDigit(text.bytes[place])) {
                // held just above the greatest number, lest many digits wrap around
                value = Math.min(value * 10 + text.bytes[place] - '0', MOST_NUMBER + 1);
                place++;
            }
            boolean zeroAhead = text.bytes[start] == '0' && place - start > 1;
            sort = zeroAhead || value > MOST_NUMBER ? WRONG : NUMBER;
        }

        private static boolean isSmallLetter(int c) {
            return 'a' <= c && c <= 'z';
        }

        private static boolean isDigit(int c) {
            return '0' <= c && c <= '9';
        }
    }

    /** All that a deed may change. One's hair lies from the tip on. */
    private static final class Moment {
        final int[] sizes = new int[MOST_PEOPLE];
        final int[] made = new int[MOST_PEOPLE];
        private final int[] hair = new int[MOST_PEOPLE * MOST_LAYERS];
        private final int[] swept = new int[JARS * THOUGHTS];
        int day;
        int chair;

        Moment() {
            Arrays.fill(made, NONE);
        }

        void begin(int jarAtFirst) {
            day = 0;
            chair = jarAtFirst;
            Arrays.fill(sizes, 0);
            Arrays.fill(made, NONE);
            Arrays.fill(swept, 0);
        }

        void copyFrom(Moment other) {
            day = other.day;
            chair = other.chair;
            System.arraycopy(other.sizes, 0, sizes, 0, sizes.length);
            System.arraycopy(other.made, 0, made, 0, made.length);
            System.arraycopy(other.hair, 0, hair, 0, hair.length);
            System.arraycopy(other.swept, 0, swept, 0, swept.length);
        }

        int layerAt(int p, int k) {
            return hair[p * MOST_LAYERS + k];
        }

        int sweptOf(int j, int thought) {
            return swept[j * THOUGHTS + thought];
        }

        /** What one will think when so many days more have gone by; a mind is made up for the first day alone. */
        int thoughtAhead(Town town, int p, int ahead) {
            if (ahead == 0 && made[p] != NONE) {
                return made[p];
            }
            return town.usualThought(p, day + ahead);
        }

        void passDay(Town town) {
            for (int p = 0; p < town.people; p++) {
                int thought = thoughtAhead(town, p, 0);
                made[p] = NONE;
                if (sizes[p] >= town.longest) {
                    dropTips(p, 1);
                }
                hair[p * MOST_LAYERS + sizes[p]] = thought;
                sizes[p]++;
            }
            day++;
        }

        void sweep(int p, int n) {
            for (int k = 0; k < n; k++) {
                int cell = chair * THOUGHTS + layerAt(p, k);
                swept[cell] = Math.min(swept[cell] + 1, MOST_SWEPT);
            }
            dropTips(p, n);
        }

        private void dropTips(int p, int n) {
            int tip = p * MOST_LAYERS;
            sizes[p] -= n;
            for (int k = 0; k < sizes[p]; k++) {
                hair[tip + k] = hair[tip + n + k];
            }
        }

        void pourOut(int j) {
            for (int t = 0; t < THOUGHTS; t++) {
                swept[j * THOUGHTS + t] = 0;
            }
        }

        int layersOf(int p, int thought) {
            int sum = 0;
            for (int k = 0; k < sizes[p]; k++) {
                if (layerAt(p, k) == thought) {
                    sum++;
                }
            }
            return sum;
        }

        int thoughtsIn(int p) {
            int thoughts = 0;
            for (int k = 0; k < sizes[p]; k++) {
                thoughts |= 1 << layerAt(p, k);
            }
            return thoughts;
        }

        int rootOf(int p) {
            return sizes[p] > 0 ? layerAt(p, sizes[p] - 1) : -1;
        }

        int sweptInto(int j) {
            int sum = 0;
            for (int t = 0; t < THOUGHTS; t++) {
                sum += sweptOf(j, t);
            }
            return sum;
        }
    }

    /** The present, and the moments ahead of the latest deeds, oldest first. */
    private static final class Times {
        final Moment present = new Moment();
        final Moment[] past = new Moment[MOST_UNDONE];
        int known;

        Times() {
            for (int i = 0; i < MOST_UNDONE; i++) {
                past[i] = new Moment();
            }
        }

        void begin(int jarAtFirst) {
            present.begin(jarAtFirst);
            known = 0;
        }

        void remember() {
            if (known >= MOST_UNDONE) {
                loseOldest();
            }
            past[known].copyFrom(present);
            known++;
        }

        /** The lost moment's rows go to the end, to be used again. */
        private void loseOldest() {
            Moment lost = past[0];
            for (int i = 1; i < MOST_UNDONE; i++) {
                past[i - 1] = past[i];
            }
            past[MOST_UNDONE - 1] = lost;
            known = MOST_UNDONE - 1;
        }

        void goBack() {
            if (known > 0) {
                known--;
                present.copyFrom(past[known]);
            }
        }

        void copyFrom(Times other) {
            present.copyFrom(other.present);
            known = other.known;
            for (int i = 0; i < known; i++) {
                past[i].copyFrom(other.past[i]);
            }
        }
    }

    /** What was seen of a lock, and heard of layers. */
    private static final class Clues {
        final int[] seen = new int[MOST_CLUES];
        final int[] heardThoughts = new int[MOST_CLUES];
        final int[] heardLayers = new int[MOST_CLUES];
        int seenSize;
        int heardSize;

        void drop() {
            seenSize = 0;
            heardSize = 0;
        }

        /** Whether what was seen lies in one's hair from a layer on. */
        boolean fitAt(Moment moment, int p, int from) {
            if (from + seenSize > moment.sizes[p]) {
                return false;
            }
            for (int i = 0; i < seenSize; i++) {
                if (moment.layerAt(p, from + i) != seen[i]) {
                    return false;
                }
            }
            return true;
        }
    }

    /** One's hair and what will grow behind it: whatever is cut or falls out, what is left is an end of this row. */
    private static final class Strand {
        private static final int NEVER = 1000;

        private final int[] counts = new int[THOUGHTS];
        private final int[] coming = new int[THOUGHTS];
        private final int[] thoughts = new int[MOST_LAYERS + MOST_EVENINGS];
        private int[] fewest = new int[MOST_LAYERS + 1];
        private int[] later = new int[MOST_LAYERS + 1];
        private int hairSize;
        private int wholeSize;
        private int longest;

        void grow(Town town, Moment moment, int p, int n) {
            longest = town.longest;
            hairSize = moment.sizes[p];
            wholeSize = hairSize + n;
            for (int k = 0; k < hairSize; k++) {
                thoughts[k] = moment.layerAt(p, k);
            }
            for (int i = 0; i < n; i++) {
                thoughts[hairSize + i] = moment.thoughtAhead(town, p, i);
            }
        }

        /** Leaves in fewest, for each number of layers, how often one must be cut to have so many at the end. */
        int firstFailingEvening(int secret, int n, int w) {
            Arrays.fill(fewest, NEVER);
            fewest[hairSize] = 0;
            for (int evening = 1; evening <= n; evening++) {
                Arrays.fill(later, NEVER);
                for (int layers = 0; layers <= MOST_LAYERS; layers++) {
                    if (fewest[layers] < NEVER) {
                        spend(evening, layers, secret, w);
                    }
                }
                int[] spent = fewest;
                fewest = later;
                later = spent;
                if (fewestCuts() == NONE) {
                    return evening;
                }
            }
            return NONE;
        }

        /** A day and its evening, from so many layers on: uncut, or cut behind the tip until a secret is met. */
        private void spend(int evening, int layers, int secret, int w) {
            int grown = Math.min(layers + 1, longest);
            int end = hairSize + evening;
            for (int left = grown; left >= 0; left--) {
                if (left < grown && thoughts[end - left - 1] == secret) {
                    return;
                }
                if (left <= w) {
                    int cut = left < grown ? 1 : 0;
                    later[left] = Math.min(later[left], fewest[layers] + cut);
                }
            }
        }

        int fewestCuts() {
            int best = NEVER;
            for (int layers = 0; layers <= MOST_LAYERS; layers++) {
                best = Math.min(best, fewest[layers]);
            }
            return best < NEVER ? best : NONE;
        }

        /** On how few of the days a thought must be thought to be most of the hair that is left on the last. */
        int fewestDays(int thought) {
            countWhatIsLeft();
            for (int days = 0; days <= wholeSize - hairSize; days++) {
                if (suffices(thought, days)) {
                    return days;
                }
            }
            return NONE;
        }

        private void countWhatIsLeft() {
            Arrays.fill(counts, 0);
            Arrays.fill(coming, 0);
            for (int i = wholeSize - Math.min(wholeSize, longest); i < wholeSize; i++) {
                counts[thoughts[i]]++;
                if (i >= hairSize) {
                    coming[thoughts[i]]++;
                }
            }
        }

        /**
         * Which days of another thought are given up is free, so it is enough to look how many each thought must
         * give up to have fewer layers, and to give up any others for the days that are left over.
         */
        private boolean suffices(int thought, int days) {
            int reached = counts[thought] + days;
            int due = 0;
            int open = 0;
            for (int t = 0; t < THOUGHTS; t++) {
                if (t != thought) {
                    int over = Math.max(0, counts[t] - reached + 1);
                    if (over > coming[t]) {
                        return false;
                    }
                    due += over;
                    open += coming[t];
                }
            }
            return due <= days && days <= open;
        }
    }
}
