import java.util.Arrays;

/** Heaps and the lots of them that part evenly; ../shared/DOC.md says what each call answers. */
public final class EvenTen {
    public static final int NONE = -1, UNKNOWN = -2, OUTSIDE = -3, NOT = -4, FULL = -5;

    private static final int MOST_HEAPS = 20;
    private static final int MOST_PARTS = 10;
    private static final int MOST_BYTES = 200;
    private static final int MOST_LINES = 10;
    private static final int MOST_SALES = 12;
    private static final int IMAGES = 2;
    private static final int MOST_HANDED = 9;
    private static final int MOST_PARTS_HANDED = 5;
    private static final int MOST_PARTS_BADLY = 6;
    private static final int MOST_HEAPS_APART = 12;
    private static final int MOST_HEAPS_BY_TURNS = 8;

    private static final int TEN = 0, ANY = 1, RUN = 2, BOTH = 3, RED = 4, KINDS = 8;
    private static final int MOST_AS = 6;
    /** For each KIND a bit for each number that it may be taken as: its own and those over it. */
    private static final int[] TAKEN_AS = {
        0b0000111, 0b0001001, 0b0011001, 0b0100111, 0b1000111, 0b1000111, 0b1000111, 0b1000111
    };

    /** The widest work: TURNS tell 3 to the 8th states apart (free, mine, the other's). */
    private static final int ROOM = 6561;

    private final Heaps heaps;
    private final Text text;
    private final Reader reader;
    private final Book book;
    private final Finder finder;
    private final Tally tally;
    private final Lightest lightest;
    private final Whatever whatever;
    private final Coming coming;
    private final Apart packing;
    private final Turns game;

    public EvenTen() {
        heaps = new Heaps();
        text = new Text();
        reader = new Reader(text);
        book = new Book();
        // No two of these work at once, so one row serves them all.
        int[] room = new int[ROOM];
        finder = new Finder(heaps, room);
        tally = new Tally(heaps);
        lightest = new Lightest(heaps);
        whatever = new Whatever();
        coming = new Coming(heaps);
        packing = new Apart(heaps, room);
        game = new Turns(heaps, room);
    }

    // ---- what is told

    public int write(long bytes, int n) {
        if (!within(n, 1, 8)) {
            return OUTSIDE;
        }
        return text.put(bytes, n) ? text.length : FULL;
    }

    public int erase() {
        int had = text.length;
        text.length = 0;
        return had;
    }

    public int fault() {
        return reader.faultIn(heaps.size);
    }

    public int market() {
        if (reader.faultIn(heaps.size) != NONE) {
            return NOT;
        }
        for (int line = 0; line < reader.lines; line++) {
            heaps.obey(reader.words[line], reader.told[line]);
        }
        text.length = 0;
        book.forget();
        return reader.lines;
    }

    public long heap(int heap, int what) {
        if (!within(heap, 0, heaps.size - 1)) {
            return UNKNOWN;
        }
        switch (what) {
            case 0: return heaps.numbers[heap];
            case 1: return heaps.seconds[heap];
            case 2: return heaps.colours[heap];
            case 3: return heaps.costs[heap];
            case 4: return heaps.restOfNumber(heap);
            case 5: return heaps.restOfSecond(heap);
            default: return OUTSIDE;
        }
    }

    public int rest(int lot, int what) {
        if (!heaps.know(lot)) {
            return UNKNOWN;
        }
        switch (what) {
            case 0: return heaps.restOfNumbers(lot);
            case 1: return heaps.restOfSeconds(lot);
            case 2: return Integer.bitCount(lot);
            default: return OUTSIDE;
        }
    }

    public int as(int kind, int as, int lot, int k) {
        if (!within(kind, 0, KINDS - 1) || !heaps.know(lot)) {
            return UNKNOWN;
        }
        if (!within(as, 0, MOST_AS) || !isSize(k)) {
            return OUTSIDE;
        }
        if ((TAKEN_AS[kind] >> as & 1) == 0) {
            return NOT;
        }
        return finder.fits(kind, lot, k) ? 1 : 0;
    }

    // ---- lots

    public int find(int kind, int k) {
        if (!within(kind, 0, KINDS - 1)) {
            return UNKNOWN;
        }
        return isSize(k) ? finder.firstOf(kind, k) : OUTSIDE;
    }

    public int many(int k, int rest) {
        if (!within(k, NONE, MOST_HEAPS) || !within(rest, 0, heaps.parts - 1)) {
            return OUTSIDE;
        }
        return tally.lotsOf(k, rest);
    }

    public long light(int k, int what) {
        if (!isSize(k) || !within(what, 0, 1)) {
            return OUTSIDE;
        }
        return lightest.answer(heaps.numbers, k, what);
    }

    public int cheap(int k, int what) {
        if (!isSize(k) || !within(what, 0, 1)) {
            return OUTSIDE;
        }
        return (int) lightest.answer(heaps.costs, k, what);
    }

    public int mends(int lot) {
        if (!heaps.know(lot)) {
            return UNKNOWN;
        }
        return turned(heaps.parts - heaps.restOfNumbers(lot), heaps.parts);
    }

    public int swap(int lot, int what) {
        if (!heaps.know(lot)) {
            return UNKNOWN;
        }
        if (!within(what, 0, 1)) {
            return OUTSIDE;
        }
        int missing = turned(heaps.parts - heaps.restOfNumbers(lot), heaps.parts);
        if (missing == 0) {
            return NONE;
        }
        for (int given = 0; given < heaps.size; given++) {
            int got = (lot >> given & 1) == 1 ? heaps.firstInstead(lot, given, missing) : NONE;
            if (got != NONE) {
                return what == 0 ? given : got;
            }
        }
        return NONE;
    }

    // ---- whatever heaps

    public int always(int parts, int m, int k) {
        if (!isHanded(parts, k) || !within(m, 0, MOST_HANDED)) {
            return OUTSIDE;
        }
        return whatever.isAlways(parts, m, k) ? 1 : 0;
    }

    public int need(int parts, int k) {
        if (!isHanded(parts, k)) {
            return OUTSIDE;
        }
        for (int m = 0; m <= MOST_HANDED; m++) {
            if (whatever.isAlways(parts, m, k)) {
                return m;
            }
        }
        return NONE;
    }

    public int worst(int parts, int m, int k, int i) {
        if (!isHanded(parts, k) || !within(m, 0, MOST_HANDED) || i < NONE) {
            return OUTSIDE;
        }
        return i == NONE ? whatever.howMany(parts, m, k) : whatever.without(parts, m, k, i);
    }

    // ---- heaps that come, lots apart, turns

    public int come(int k) {
        return isSize(k) ? coming.firstWith(k) : OUTSIDE;
    }

    public int badly(int k) {
        if (!isSize(k)) {
            return OUTSIDE;
        }
        return heaps.parts > MOST_PARTS_BADLY ? NOT : coming.mostWithout(k);
    }

    public int apart(int k, int i) {
        if (!isSize(k) || i < NONE) {
            return OUTSIDE;
        }
        if (heaps.size > MOST_HEAPS_APART) {
            return NOT;
        }
        int most = packing.mostOf(k);
        if (i == NONE) {
            return most;
        }
        return i < most ? packing.lotOfRow(k, i) : NONE;
    }

    public int turns(int k, int what) {
        if (!isSize(k) || !within(what, 0, 1)) {
            return OUTSIDE;
        }
        if (heaps.size > MOST_HEAPS_BY_TURNS) {
            return NOT;
        }
        game.open(k);
        return what == 0 ? game.firstComesTo() + 1 : game.leastBest();
    }

    // ---- sales, images

    public int sale(int lot) {
        if (!heaps.know(lot)) {
            return UNKNOWN;
        }
        return book.enter(lot) ? book.size : FULL;
    }

    public int burn() {
        int had = book.size;
        book.size = 0;
        return had;
    }

    public int judge(int k) {
        if (!isSize(k)) {
            return OUTSIDE;
        }
        int sold = 0;
        for (int row = 0; row < book.size; row++) {
            int lot = book.lots[row];
            if (!finder.fits(TEN, lot, k) || (lot & sold) != 0) {
                return row;
            }
            sold |= lot;
        }
        return NONE;
    }

    public int keep(int k) {
        if (!within(k, 0, IMAGES - 1)) {
            return UNKNOWN;
        }
        book.save(k);
        return heaps.size;
    }

    public int back(int k) {
        if (!within(k, 0, IMAGES - 1)) {
            return UNKNOWN;
        }
        return book.restore(k) ? heaps.size : NOT;
    }

    public int count(int what) {
        switch (what) {
            case 0: return heaps.size;
            case 1: return heaps.parts;
            case 2: return text.length;
            case 3: return book.size;
            default: return OUTSIDE;
        }
    }

    // ---- what several of them need

    private static boolean within(int number, int least, int most) {
        return number >= least && number <= most;
    }

    private static boolean isSize(int k) {
        return within(k, 1, MOST_HEAPS);
    }

    private static boolean isHanded(int parts, int k) {
        return within(parts, 2, MOST_PARTS_HANDED) && within(k, 1, MOST_HANDED);
    }

    /** A sum of two RESTS as a REST: cheaper than a division, and without a divisor to look at. */
    private static int turned(int sum, int parts) {
        return sum >= parts ? sum - parts : sum;
    }

    /** Whether a LOT comes ahead of another one. */
    private static boolean isAhead(int lot, int other) {
        int apart = lot ^ other;
        return (lot & apart & -apart) != 0;
    }

    /** HEAPS and PARTS; all of a HEAP is long, so that LIGHT and CHEAP weigh in one way. */
    private static final class Heaps {
        final long[] numbers = new long[MOST_HEAPS];
        final long[] seconds = new long[MOST_HEAPS];
        final long[] colours = new long[MOST_HEAPS];
        final long[] costs = new long[MOST_HEAPS];
        int size = 0;
        int parts = MOST_PARTS;

        boolean know(int lot) {
            return lot >>> size == 0;
        }

        int restOfNumber(int heap) {
            return restOf(numbers[heap]);
        }

        int restOfSecond(int heap) {
            return restOf(seconds[heap]);
        }

        int restOfNumbers(int lot) {
            return restOf(together(numbers, lot));
        }

        int restOfSeconds(int lot) {
            return restOf(together(seconds, lot));
        }

        boolean hasColour(int lot, int colour) {
            for (int heap = 0; heap < size; heap++) {
                if ((lot >> heap & 1) == 1 && colours[heap] == colour) {
                    return true;
                }
            }
            return false;
        }

        /** The least HEAP outside a LOT that, for the given one, brings what is missing. */
        int firstInstead(int lot, int given, int missing) {
            int due = turned(restOfNumber(given) + missing, parts);
            for (int heap = 0; heap < size; heap++) {
                if ((lot >> heap & 1) == 0 && restOfNumber(heap) == due) {
                    return heap;
                }
            }
            return NONE;
        }

        /** A LINE that was read without a FAULT. */
        void obey(int word, long[] told) {
            switch (word) {
                case Reader.PARTS:
                    parts = (int) told[0];
                    break;
                case Reader.HEAP:
                    add(told);
                    break;
                case Reader.AWAY:
                    takeAway((int) told[0]);
                    break;
                default:
                    size = 0;
                    break;
            }
        }

        private void add(long[] told) {
            if (size >= MOST_HEAPS) {
                return;
            }
            numbers[size] = told[0];
            colours[size] = told[1];
            seconds[size] = told[2];
            costs[size] = told[3];
            size++;
        }

        private void takeAway(int heap) {
            if (heap < 0 || heap >= size) {
                return;
            }
            int behind = size - heap - 1;
            System.arraycopy(numbers, heap + 1, numbers, heap, behind);
            System.arraycopy(colours, heap + 1, colours, heap, behind);
            System.arraycopy(seconds, heap + 1, seconds, heap, behind);
            System.arraycopy(costs, heap + 1, costs, heap, behind);
            size--;
        }

        private long together(long[] row, int lot) {
            long sum = 0;
            for (int heap = 0; heap < size; heap++) {
                if ((lot >> heap & 1) == 1) {
                    sum += row[heap];
                }
            }
            return sum;
        }

        private int restOf(long number) {
            return parts < 1 ? 0 : (int) (number % parts);
        }
    }

    /** The bytes of THE TEXT. */
    private static final class Text {
        private final int[] bytes = new int[MOST_BYTES];
        int length = 0;

        boolean put(long more, int n) {
            if (length + n > MOST_BYTES) {
                return false;
            }
            for (int i = 0; i < n; i++) {
                bytes[length + i] = (int) (more >> 8 * i & 255);
            }
            length += n;
            return true;
        }

        /** The byte at a place; NONE at the end. */
        int at(int place) {
            return place >= 0 && place < length ? bytes[place] : NONE;
        }
    }

    /** Reads THE TEXT to its first FAULT, and holds the LINES that it has read. */
    private static final class Reader {
        static final int PARTS = 0, HEAP = 1, AWAY = 2, SWEEP = 3;
        private static final String COLOURS = "rgby";
        private static final int BLANK = 32, SEMICOLON = 59;
        private static final int DIGITS_OF_NUMBER = 15, DIGITS = 3;
        private static final long MOST_NUMBER = 999999999999999L;
        private static final int MOST_SECOND = 999, MOST_COST = 99;

        final int[] words = new int[MOST_LINES];
        /** Of a heap: NUMBER, COLOUR, SECOND, COST; of another LINE its number first. */
        final long[][] told = new long[MOST_LINES][4];
        int lines = 0;
        private final Text text;
        private int from = 0;
        private int to = 0;
        private int there = 0;

        Reader(Text text) {
            this.text = text;
        }

        /** The place of the FAULT or NONE, if so many HEAPS are there ahead of THE TEXT. */
        int faultIn(int heapsAhead) {
            there = heapsAhead;
            lines = 0;
            to = 0;
            nextToken();
            for (int line = 0; line < MOST_LINES; line++) {
                if (!readLine(line)) {
                    return from;
                }
                if (from >= text.length) {
                    lines = line + 1;
                    return NONE;
                }
                if (text.at(from) != SEMICOLON || line == MOST_LINES - 1) {
                    return from;
                }
                nextToken();
            }
            return from;
        }

        private boolean readLine(int line) {
            Arrays.fill(told[line], 0L);
            words[line] = wordHere();
            switch (words[line]) {
                case PARTS:
                    nextToken();
                    return readNumber(line, 0, DIGITS, 2, MOST_PARTS);
                case HEAP:
                    return readHeap(line);
                case AWAY:
                    nextToken();
                    there--;
                    return readNumber(line, 0, DIGITS, 0, there);
                case SWEEP:
                    nextToken();
                    there = 0;
                    return true;
                default:
                    return false;
            }
        }

        private boolean readHeap(int line) {
            if (there >= MOST_HEAPS) {
                return false;
            }
            there++;
            nextToken();
            return readNumber(line, 0, DIGITS_OF_NUMBER, 0, MOST_NUMBER)
                && readColour(line)
                && (!isDigitHere() || readNumber(line, 2, DIGITS, 0, MOST_SECOND))
                && (!isDigitHere() || readNumber(line, 3, DIGITS, 0, MOST_COST));
        }

        private boolean readNumber(int line, int slot, int digits, long least, long most) {
            if (!isDigitHere() || to - from > digits) {
                return false;
            }
            long number = 0;
            for (int place = from; place < to; place++) {
                number = number * 10 + text.at(place) - '0';
            }
            if (number < least || number > most) {
                return false;
            }
            told[line][slot] = number;
            nextToken();
            return true;
        }

        private boolean readColour(int line) {
            int colour = to - from == 1 ? COLOURS.indexOf((char) text.at(from)) : NONE;
            if (colour < 0) {
                return false;
            }
            told[line][1] = colour;
            nextToken();
            return true;
        }

        private int wordHere() {
            if (isHere("parts")) {
                return PARTS;
            }
            if (isHere("heap")) {
                return HEAP;
            }
            if (isHere("away")) {
                return AWAY;
            }
            return isHere("sweep") ? SWEEP : NONE;
        }

        private boolean isHere(String word) {
            if (to - from != word.length()) {
                return false;
            }
            for (int i = 0; i < word.length(); i++) {
                if (text.at(from + i) != word.charAt(i)) {
                    return false;
                }
            }
            return true;
        }

        /** Goes on to the next TOKEN; at the end it is an empty one. */
        private void nextToken() {
            from = to;
            while (from < text.length && text.at(from) == BLANK) {
                from++;
            }
            to = from;
            if (from >= text.length) {
                return;
            }
            to++;
            boolean letters = isLetter(text.at(from));
            if (!letters && !isDigit(text.at(from))) {
                return;
            }
            while (to < text.length && (letters ? isLetter(text.at(to)) : isDigit(text.at(to)))) {
                to++;
            }
        }

        private boolean isDigitHere() {
            return isDigit(text.at(from));
        }

        private static boolean isDigit(int sign) {
            return sign >= '0' && sign <= '9';
        }

        private static boolean isLetter(int sign) {
            return sign >= 'a' && sign <= 'z';
        }
    }

    /** KINDS: whether a LOT is of one, and the first LOT of one. */
    private static final class Finder {
        private static final int STATES = MOST_PARTS * MOST_PARTS;

        private final Heaps heaps;
        /**
         * For each HEAP and state (REST of what was taken ahead of it, and a side: REST of the
         * SECONDS, or whether the COLOUR is there) the sizes, as bits, of what can be taken from
         * it on so that a LOT of the KIND comes of it.
         */
        private final int[] sizes;
        private int kind = TEN;
        private int sides = 1;

        Finder(Heaps heaps, int[] room) {
            this.heaps = heaps;
            this.sizes = room;
        }

        boolean fits(int ofKind, int lot, int k) {
            if (heaps.restOfNumbers(lot) != 0) {
                return false;
            }
            int size = Integer.bitCount(lot);
            switch (ofKind) {
                case TEN:
                    return size == k;
                case ANY:
                    return within(size, 1, k);
                case RUN:
                    return within(size, 1, k) && isUnbroken(lot);
                case BOTH:
                    return size == k && heaps.restOfSeconds(lot) == 0;
                default:
                    return size == k && heaps.hasColour(lot, ofKind - RED);
            }
        }

        int firstOf(int ofKind, int k) {
            if (ofKind == RUN) {
                return firstRun(k);
            }
            kind = ofKind;
            sides = kind == BOTH ? heaps.parts : kind >= RED ? 2 : 1;
            fillSizes();
            return pick(kind == ANY ? (2 << k) - 2 : 1 << k);
        }

        /** Adding the lowest bit carries through an unbroken row of bits and leaves none of it. */
        private static boolean isUnbroken(int lot) {
            return (lot + (lot & -lot) & lot) == 0;
        }

        /** Of two RUNS from one HEAP on the longer one is the first. */
        private int firstRun(int k) {
            for (int start = 0; start < heaps.size; start++) {
                int longest = 0;
                int sum = 0;
                for (int end = start; end < heaps.size && end - start < k; end++) {
                    sum = turned(sum + heaps.restOfNumber(end), heaps.parts);
                    longest = sum == 0 ? end - start + 1 : longest;
                }
                if (longest > 0) {
                    return (1 << longest) - 1 << start;
                }
            }
            return NONE;
        }

        private void fillSizes() {
            int last = heaps.size * STATES;
            Arrays.fill(sizes, last, last + STATES, 0);
            sizes[last + (kind >= RED ? 1 : 0)] = 1;
            for (int heap = heaps.size - 1; heap >= 0; heap--) {
                for (int rest = 0; rest < heaps.parts; rest++) {
                    int restWith = turned(rest + heaps.restOfNumber(heap), heaps.parts);
                    for (int side = 0; side < sides; side++) {
                        int without = sizes[place(heap + 1, rest, side)];
                        int with = sizes[place(heap + 1, restWith, sideWith(side, heap))];
                        sizes[place(heap, rest, side)] = without | with << 1;
                    }
                }
            }
        }

        /** Takes each HEAP with which one of the allowed sizes (bits) can still be come to. */
        private int pick(int allowed) {
            if ((sizes[place(0, 0, 0)] & allowed) == 0) {
                return NONE;
            }
            int left = allowed;
            int lot = 0;
            int rest = 0;
            int side = 0;
            for (int heap = 0; heap < heaps.size; heap++) {
                int restWith = turned(rest + heaps.restOfNumber(heap), heaps.parts);
                int sideWith = sideWith(side, heap);
                if ((sizes[place(heap + 1, restWith, sideWith)] << 1 & left) != 0) {
                    lot |= 1 << heap;
                    left >>= 1;
                    rest = restWith;
                    side = sideWith;
                }
            }
            return lot;
        }

        private int place(int heap, int rest, int side) {
            return heap * STATES + rest * sides + side;
        }

        private int sideWith(int side, int heap) {
            if (kind == BOTH) {
                return turned(side + heaps.restOfSecond(heap), heaps.parts);
            }
            return kind >= RED && heaps.colours[heap] == kind - RED ? 1 : side;
        }
    }

    /** MANY. */
    private static final class Tally {
        private final Heaps heaps;
        private final int[][] lots = new int[MOST_HEAPS + 1][MOST_PARTS];

        Tally(Heaps heaps) {
            this.heaps = heaps;
        }

        /** LOTS of a REST with k HEAPS, or with any number of them (k NONE). */
        int lotsOf(int k, int rest) {
            fillLots(k == NONE ? heaps.size : k);
            if (k != NONE) {
                return lots[k][rest];
            }
            int all = 0;
            for (int size = 0; size <= heaps.size; size++) {
                all += lots[size][rest];
            }
            return all;
        }

        private void fillLots(int most) {
            for (int size = 0; size <= most; size++) {
                Arrays.fill(lots[size], 0);
            }
            lots[0][0] = 1;
            for (int heap = 0; heap < heaps.size; heap++) {
                int number = heaps.restOfNumber(heap);
                // From the greatest size down, so that no LOT gets the same HEAP twice.
                for (int size = Math.min(most, heap + 1); size >= 1; size--) {
                    for (int rest = 0; rest < heaps.parts; rest++) {
                        int with = turned(rest + number, heaps.parts);
                        lots[size][with] += lots[size - 1][rest];
                    }
                }
            }
        }
    }

    /** LIGHT and CHEAP: by size and REST the LOT of the least sum, of several the first. */
    private static final class Lightest {
        private final Heaps heaps;
        private final int[][] lots = new int[MOST_HEAPS + 1][MOST_PARTS];
        private final long[][] sums = new long[MOST_HEAPS + 1][MOST_PARTS];

        Lightest(Heaps heaps) {
            this.heaps = heaps;
        }

        long answer(long[] weights, int k, int what) {
            fillLots(weights, k);
            if (lots[k][0] == NONE) {
                return NONE;
            }
            return what == 0 ? lots[k][0] : sums[k][0];
        }

        private void fillLots(long[] weights, int most) {
            for (int size = 0; size <= most; size++) {
                Arrays.fill(lots[size], NONE);
            }
            lots[0][0] = 0;
            sums[0][0] = 0;
            for (int heap = 0; heap < heaps.size; heap++) {
                // From the greatest size down, so that no LOT gets the same HEAP twice.
                for (int size = Math.min(most, heap + 1); size >= 1; size--) {
                    extend(size, heap, weights[heap]);
                }
            }
        }

        /** The same HEAP behind all others changes nothing in which of two LOTS is the first. */
        private void extend(int size, int heap, long weight) {
            int number = heaps.restOfNumber(heap);
            for (int rest = 0; rest < heaps.parts; rest++) {
                int lot = lots[size - 1][rest];
                int with = turned(rest + number, heaps.parts);
                if (lot != NONE) {
                    offer(size, with, lot | 1 << heap, sums[size - 1][rest] + weight);
                }
            }
        }

        private void offer(int size, int rest, int lot, long sum) {
            int held = lots[size][rest];
            long least = sums[size][rest];
            if (held == NONE || sum < least || sum == least && isAhead(lot, held)) {
                lots[size][rest] = lot;
                sums[size][rest] = sum;
            }
        }
    }

    /** ALWAYS, NEED, WORST: goes through the multisets of RESTS that have no TEN. */
    private static final class Whatever {
        /** More than there are multisets. */
        private static final int BEYOND_ALL = 1000000;

        private final long[] staying = new long[MOST_PARTS_HANDED];
        private int parts = 2;
        private int k = 1;
        private int wanted = 0;
        private int found = 0;
        private int answer = NONE;

        boolean isAlways(int byParts, int m, int size) {
            return without(byParts, m, size, 0) == NONE;
        }

        int howMany(int byParts, int m, int size) {
            without(byParts, m, size, BEYOND_ALL);
            return found;
        }

        /** The i-th multiset without a TEN; NONE. */
        int without(int byParts, int m, int size, int i) {
            parts = byParts;
            k = size;
            wanted = i;
            found = 0;
            answer = NONE;
            fillStaying();
            hand(parts - 1, m, 0, 1L);
            return answer;
        }

        /**
         * Which sums stay below PARTS when a REST is added to them: sums are bits, PARTS of them
         * for each number of HEAPS from 0 to k.
         */
        private void fillStaying() {
            for (int rest = 0; rest < parts; rest++) {
                long group = (1L << parts - rest) - 1;
                staying[rest] = 0;
                for (int size = 0; size <= k; size++) {
                    staying[rest] |= group << size * parts;
                }
            }
        }

        /** The greatest REST comes first, being the highest figure, so that the numbers rise. */
        private void hand(int rest, int left, int told, long sums) {
            if (found > wanted) {
                return;
            }
            if (rest < 1) {
                handLast(left, told, sums);
                return;
            }
            long with = sums;
            for (int taken = 0; taken <= left && !hasTen(with); taken++) {
                hand(rest - 1, left - taken, told * 10 + taken, with);
                with = withOneMore(with, rest);
            }
        }

        private void handLast(int left, int told, long sums) {
            long with = sums;
            for (int taken = 0; taken < left; taken++) {
                with = withOneMore(with, 0);
            }
            if (hasTen(with)) {
                return;
            }
            if (found == wanted) {
                answer = told * 10 + left;
            }
            found++;
        }

        private long withOneMore(long sums, int rest) {
            long up = (sums & staying[rest]) << rest;
            long down = (sums & ~staying[rest]) >>> parts - rest;
            return (sums | (up | down) << parts) & staying[0];
        }

        private boolean hasTen(long sums) {
            return (sums >> k * parts & 1) == 1;
        }
    }

    /** HEAPS COME, and BADLY. */
    private static final class Coming {
        private final Heaps heaps;
        /** For so many HEAPS, by REST: the sizes, as bits, of the LOTS of that REST among them. */
        private final int[][] sizes = new int[MOST_HEAPS + 1][MOST_PARTS];
        private final int[] supply = new int[MOST_PARTS];
        private int most = 0;

        Coming(Heaps heaps) {
            this.heaps = heaps;
            // Of no HEAPS there is the empty LOT alone.
            sizes[0][0] = 1;
        }

        int firstWith(int k) {
            for (int heap = 0; heap < heaps.size; heap++) {
                addOne(heap, heaps.restOfNumber(heap));
                if (hasTen(heap + 1, k)) {
                    return heap + 1;
                }
            }
            return NONE;
        }

        int mostWithout(int k) {
            Arrays.fill(supply, 0);
            for (int heap = 0; heap < heaps.size; heap++) {
                supply[heaps.restOfNumber(heap)]++;
            }
            most = 0;
            hand(k, 0, 0, heaps.size);
            return most;
        }

        /**
         * HEAPS of one REST are alike, so they are handed by RESTS that rise; left tells how many
         * of this REST and of those above it can still come.
         */
        private void hand(int k, int rest, int handed, int left) {
            most = Math.max(most, handed);
            if (handed >= MOST_HEAPS) {
                return;
            }
            int above = left;
            int here = left - supplyAbove(rest);
            for (int next = rest; next < heaps.parts && handed + above > most; next++) {
                if (here > 0) {
                    addOne(handed, next);
                    if (!hasTen(handed + 1, k)) {
                        hand(k, next, handed + 1, above - 1);
                    }
                }
                above -= here;
                here = next + 1 < heaps.parts ? supply[next + 1] : 0;
            }
        }

        private int supplyAbove(int rest) {
            int above = 0;
            for (int next = rest + 1; next < heaps.parts; next++) {
                above += supply[next];
            }
            return above;
        }

        private void addOne(int before, int rest) {
            int[] old = sizes[before];
            int[] now = sizes[before + 1];
            for (int sum = 0; sum < heaps.parts; sum++) {
                int from = turned(sum - rest + heaps.parts, heaps.parts);
                now[sum] = old[sum] | old[from] << 1;
            }
        }

        private boolean hasTen(int among, int k) {
            return (sizes[among][0] >> k & 1) == 1;
        }
    }

    /**
     * APART. Sets are told here with the last HEAP as the lowest bit: of two LOTS the first one is
     * then the greater number.
     */
    private static final class Apart {
        private final Heaps heaps;
        /**
         * For each set twice the most TENS apart in it, and 1 if all of it is laid out: TENS and
         * the beginning of one more.
         */
        private final int[] packed;
        private final int[] rests = new int[MOST_HEAPS_APART];

        Apart(Heaps heaps, int[] room) {
            this.heaps = heaps;
            this.packed = room;
        }

        int mostOf(int k) {
            for (int bit = 0; bit < heaps.size; bit++) {
                rests[bit] = heaps.restOfNumber(heaps.size - 1 - bit);
            }
            packed[0] = 1;
            int sets = 1 << heaps.size;
            for (int set = 1; set < sets; set++) {
                packed[set] = pack(set, k);
            }
            return packed[sets - 1] >> 1;
        }

        /** The i-th LOT of the first row of as many, behind mostOf, for an i below that. */
        int lotOfRow(int k, int i) {
            int left = (1 << heaps.size) - 1;
            int more = packed[left] >> 1;
            int row = 0;
            for (int lot = left; lot > 0; lot--) {
                if ((lot & ~left) == 0 && Integer.bitCount(lot) == k
                        && packed[left ^ lot] >> 1 == more - 1 && restOf(lot) == 0) {
                    if (row == i) {
                        return asLot(lot);
                    }
                    row++;
                    more--;
                    left ^= lot;
                }
            }
            return NONE;
        }

        /** TENS have REST 0, so the REST of a set that is laid out is that of the one begun. */
        private int pack(int set, int k) {
            int most = 0;
            int laid = 0;
            for (int bit = 0; bit < heaps.size; bit++) {
                if ((set >> bit & 1) == 1) {
                    int without = packed[set ^ 1 << bit];
                    most = Math.max(most, without >> 1);
                    laid |= without & 1;
                }
            }
            int size = Integer.bitCount(set);
            if (laid == 0 || k < 1 || size % k != 0) {
                return most << 1 | laid;
            }
            return restOf(set) == 0 ? size / k << 1 | 1 : most << 1;
        }

        private int restOf(int set) {
            int sum = 0;
            for (int bit = 0; bit < heaps.size; bit++) {
                if ((set >> bit & 1) == 1) {
                    sum = turned(sum + rests[bit], heaps.parts);
                }
            }
            return sum;
        }

        private int asLot(int set) {
            int lot = 0;
            for (int bit = 0; bit < heaps.size; bit++) {
                lot |= (set >> bit & 1) << heaps.size - 1 - bit;
            }
            return lot;
        }
    }

    /** TURNS, from the side of the one whose turn it is. */
    private static final class Turns {
        private static final int WON = 1;

        private final Heaps heaps;
        private final boolean[] hasTen = new boolean[1 << MOST_HEAPS_BY_TURNS];
        private final int[] figures = new int[1 << MOST_HEAPS_BY_TURNS];
        /** For each state what it comes to, and 2; 0: not known yet. */
        private final int[] known;

        Turns(Heaps heaps, int[] room) {
            this.heaps = heaps;
            this.known = room;
        }

        void open(int k) {
            Arrays.fill(known, 0);
            int sets = 1 << heaps.size;
            hasTen[0] = false;
            figures[0] = 0;
            for (int set = 1; set < sets; set++) {
                hasTen[set] = Integer.bitCount(set) == k && heaps.restOfNumbers(set) == 0;
                int figure = 1;
                for (int heap = 0; heap < heaps.size; heap++) {
                    if ((set >> heap & 1) == 1) {
                        hasTen[set] |= hasTen[set ^ 1 << heap];
                        figures[set] = figures[set ^ 1 << heap] + figure;
                    }
                    figure *= 3;
                }
            }
        }

        int firstComesTo() {
            return comesTo(0, 0, heaps.size);
        }

        int leastBest() {
            int best = firstComesTo();
            for (int heap = 0; heap < heaps.size; heap++) {
                if (afterTaking(heap, 0, 0, heaps.size) == best) {
                    return heap;
                }
            }
            return NONE;
        }

        private int comesTo(int own, int others, int free) {
            if (free < 1) {
                return 0;
            }
            int state = figures[own] + 2 * figures[others];
            if (known[state] == 0) {
                known[state] = 2 + bestOf(own, others, free);
            }
            return known[state] - 2;
        }

        private int bestOf(int own, int others, int free) {
            int best = -WON;
            for (int heap = 0; heap < heaps.size && best < WON; heap++) {
                if (((own | others) >> heap & 1) == 0) {
                    best = Math.max(best, afterTaking(heap, own, others, free));
                }
            }
            return best;
        }

        private int afterTaking(int heap, int own, int others, int free) {
            int now = own | 1 << heap;
            return hasTen[now] ? WON : -comesTo(others, now, free - 1);
        }
    }

    /** SALES and what is kept. */
    private static final class Book {
        final int[] lots = new int[MOST_SALES];
        int size = 0;
        /** HEAPS and PARTS change by a text alone, behind which nothing is kept: SALES are all. */
        private final int[][] keptLots = new int[IMAGES][MOST_SALES];
        private final int[] keptSizes = {NONE, NONE};

        boolean enter(int lot) {
            if (size >= MOST_SALES) {
                return false;
            }
            lots[size] = lot;
            size++;
            return true;
        }

        void save(int k) {
            System.arraycopy(lots, 0, keptLots[k], 0, size);
            keptSizes[k] = size;
        }

        boolean restore(int k) {
            if (keptSizes[k] == NONE) {
                return false;
            }
            size = keptSizes[k];
            System.arraycopy(keptLots[k], 0, lots, 0, size);
            return true;
        }

        void forget() {
            size = 0;
            Arrays.fill(keptSizes, NONE);
        }
    }
}
