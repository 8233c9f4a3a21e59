import java.util.ArrayList;
import java.util.Arrays;
import java.util.List;
import java.util.Random;
import java.util.regex.Matcher;
import java.util.regex.Pattern;

/** Long runs of calls, compared with a model that goes through all lots one by one. */
public final class EvenTenAgainstPlain {
    private static final int NONE = -1, UNKNOWN = -2, OUTSIDE = -3, NOT = -4, FULL = -5;
    /** What an object is used for at most; the longest step is a text of some 50 writes. */
    private static final int CALLS = 512, LONGEST_STEP = 60;
    private static int wrong = 0;

    private record Heap(long number, int second, int colour, int cost) { }

    private record Image(List<Heap> heaps, int parts, List<Integer> sales) { }

    /** The document's words, as plainly as they can be followed. */
    private static final class Plain {
        List<Heap> heaps = new ArrayList<>();
        int parts = 10;
        List<Integer> sales = new ArrayList<>();
        final Image[] kept = new Image[2];
        String text = "";

        boolean outsideSize(int k) {
            return k < 1 || k > 20;
        }

        boolean unknown(int lot) {
            return lot < 0 || lot >= 1 << heaps.size();
        }

        long sum(int lot, int what) {
            long sum = 0;
            for (int i = 0; i < heaps.size(); i++) {
                if ((lot & 1 << i) != 0) {
                    Heap heap = heaps.get(i);
                    sum += what == 0 ? heap.number : what == 1 ? heap.second : heap.cost;
                }
            }
            return sum;
        }

        static boolean ahead(int lot, int other) {
            for (int i = 0; i < 31; i++) {
                boolean inLot = (lot & 1 << i) != 0;
                boolean inOther = (other & 1 << i) != 0;
                if (inLot != inOther) {
                    return inLot;
                }
            }
            return false;
        }

        boolean of(int kind, int lot, int k) {
            int size = Integer.bitCount(lot);
            boolean sized = kind == 1 || kind == 2 ? size >= 1 && size <= k : size == k;
            if (!sized || sum(lot, 0) % parts != 0) {
                return false;
            }
            if (kind == 2) {
                String bits = Integer.toBinaryString(lot);
                return bits.matches("1+0*");
            }
            if (kind == 3) {
                return sum(lot, 1) % parts == 0;
            }
            if (kind >= 4) {
                boolean there = false;
                for (int i = 0; i < heaps.size(); i++) {
                    there |= (lot & 1 << i) != 0 && heaps.get(i).colour == kind - 4;
                }
                return there;
            }
            return true;
        }

        int write(long bytes, int n) {
            if (n < 1 || n > 8) {
                return OUTSIDE;
            }
            if (text.length() + n > 200) {
                return FULL;
            }
            for (int i = 0; i < n; i++) {
                text += (char) (bytes >> 8 * i & 255);
            }
            return text.length();
        }

        int erase() {
            int had = text.length();
            text = "";
            return had;
        }

        private static final Pattern TOKEN = Pattern.compile("[a-z]+|[0-9]+|[^ ]", Pattern.DOTALL);

        /** Does the lines on a list of heaps; the place of the fault or NONE. */
        int read(List<Heap> list, int[] partsAndLines) {
            List<String> tokens = new ArrayList<>();
            List<Integer> places = new ArrayList<>();
            Matcher matcher = TOKEN.matcher(text);
            while (matcher.find()) {
                tokens.add(matcher.group());
                places.add(matcher.start());
            }
            tokens.add("");
            places.add(text.length());
            int at = 0;
            while (true) {
                String word = tokens.get(at);
                if (word.equals("parts")) {
                    at++;
                    if (!number(tokens.get(at), 3, 2, 10)) {
                        return places.get(at);
                    }
                    partsAndLines[0] = Integer.parseInt(tokens.get(at));
                    at++;
                } else if (word.equals("away")) {
                    at++;
                    if (!number(tokens.get(at), 3, 0, list.size() - 1)) {
                        return places.get(at);
                    }
                    list.remove(Integer.parseInt(tokens.get(at)));
                    at++;
                } else if (word.equals("sweep")) {
                    list.clear();
                    at++;
                } else if (word.equals("heap") && list.size() < 20) {
                    at++;
                    if (!number(tokens.get(at), 15, 0, 999999999999999L)) {
                        return places.get(at);
                    }
                    long number = Long.parseLong(tokens.get(at));
                    at++;
                    if (!tokens.get(at).matches("[rgby]")) {
                        return places.get(at);
                    }
                    int colour = "rgby".indexOf(tokens.get(at));
                    at++;
                    int[] more = new int[2];
                    for (int i = 0; i < 2 && tokens.get(at).matches("[0-9]+"); i++) {
                        if (!number(tokens.get(at), 3, 0, i == 0 ? 999 : 99)) {
                            return places.get(at);
                        }
                        more[i] = Integer.parseInt(tokens.get(at));
                        at++;
                    }
                    list.add(new Heap(number, more[0], colour, more[1]));
                } else {
                    return places.get(at);
                }
                partsAndLines[1]++;
                if (tokens.get(at).isEmpty()) {
                    return NONE;
                }
                if (!tokens.get(at).equals(";") || partsAndLines[1] == 10) {
                    return places.get(at);
                }
                at++;
            }
        }

        static boolean number(String token, int digits, long least, long most) {
            if (!token.matches("[0-9]{1," + digits + "}")) {
                return false;
            }
            long number = Long.parseLong(token);
            return number >= least && number <= most;
        }

        int fault() {
            return read(new ArrayList<>(heaps), new int[] {parts, 0});
        }

        int market() {
            List<Heap> list = new ArrayList<>(heaps);
            int[] partsAndLines = {parts, 0};
            if (read(list, partsAndLines) != NONE) {
                return NOT;
            }
            heaps = list;
            parts = partsAndLines[0];
            text = "";
            sales.clear();
            Arrays.fill(kept, null);
            return partsAndLines[1];
        }

        long heap(int heap, int what) {
            if (heap < 0 || heap >= heaps.size()) {
                return UNKNOWN;
            }
            Heap one = heaps.get(heap);
            long[] all = {one.number, one.second, one.colour, one.cost,
                one.number % parts, one.second % parts};
            return what < 0 || what > 5 ? OUTSIDE : all[what];
        }

        int rest(int lot, int what) {
            if (unknown(lot)) {
                return UNKNOWN;
            }
            if (what < 0 || what > 2) {
                return OUTSIDE;
            }
            return what == 2 ? Integer.bitCount(lot) : (int) (sum(lot, what) % parts);
        }

        int as(int kind, int as, int lot, int k) {
            if (kind < 0 || kind > 7 || unknown(lot)) {
                return UNKNOWN;
            }
            if (as < 0 || as > 6 || outsideSize(k)) {
                return OUTSIDE;
            }
            int[] own = {2, 3, 4, 5, 6, 6, 6, 6};
            int[] over = {NONE, 0, 1, 0, 3, 2, 2};
            int at = own[kind];
            while (at != NONE && at != as) {
                at = over[at];
            }
            return at == NONE ? NOT : of(kind, lot, k) ? 1 : 0;
        }

        int find(int kind, int k) {
            if (kind < 0 || kind > 7) {
                return UNKNOWN;
            }
            if (outsideSize(k)) {
                return OUTSIDE;
            }
            int best = NONE;
            for (int lot = 1; lot < 1 << heaps.size(); lot++) {
                if ((best == NONE || ahead(lot, best)) && of(kind, lot, k)) {
                    best = lot;
                }
            }
            return best;
        }

        int many(int k, int rest) {
            if (k < NONE || k > 20 || rest < 0 || rest >= parts) {
                return OUTSIDE;
            }
            int many = 0;
            for (int lot = 0; lot < 1 << heaps.size(); lot++) {
                if ((k == NONE || Integer.bitCount(lot) == k) && sum(lot, 0) % parts == rest) {
                    many++;
                }
            }
            return many;
        }

        long least(int k, int by, int what) {
            if (outsideSize(k) || what < 0 || what > 1) {
                return OUTSIDE;
            }
            int best = NONE;
            for (int lot = 1; lot < 1 << heaps.size(); lot++) {
                if (Integer.bitCount(lot) == k && of(0, lot, k)) {
                    long less = best == NONE ? -1 : sum(lot, by) - sum(best, by);
                    if (less < 0 || less == 0 && ahead(lot, best)) {
                        best = lot;
                    }
                }
            }
            return best == NONE ? NONE : what == 0 ? best : sum(best, by);
        }

        int mends(int lot) {
            if (unknown(lot)) {
                return UNKNOWN;
            }
            int more = 0;
            while ((sum(lot, 0) + more) % parts != 0) {
                more++;
            }
            return more;
        }

        int swap(int lot, int what) {
            if (unknown(lot)) {
                return UNKNOWN;
            }
            if (what < 0 || what > 1) {
                return OUTSIDE;
            }
            if (sum(lot, 0) % parts == 0) {
                return NONE;
            }
            for (int gives = 0; gives < heaps.size(); gives++) {
                for (int gets = 0; gets < heaps.size(); gets++) {
                    if ((lot & 1 << gives) != 0 && (lot & 1 << gets) == 0
                            && sum(lot ^ 1 << gives ^ 1 << gets, 0) % parts == 0) {
                        return what == 0 ? gives : gets;
                    }
                }
            }
            return NONE;
        }

        /** All multisets without such a lot, as numbers that rise. */
        static List<Integer> worstOnes(int parts, int m, int k) {
            List<Integer> all = new ArrayList<>();
            int end = (int) Math.pow(10, parts);
            for (int told = 0; told < end; told++) {
                List<Integer> rests = new ArrayList<>();
                for (int rest = 0, rests10 = told; rest < parts; rest++, rests10 /= 10) {
                    for (int i = 0; i < rests10 % 10; i++) {
                        rests.add(rest);
                    }
                }
                if (rests.size() == m && !hasTen(rests, parts, k)) {
                    all.add(told);
                }
            }
            return all;
        }

        static boolean hasTen(List<Integer> rests, int parts, int k) {
            for (int lot = 0; lot < 1 << rests.size(); lot++) {
                int sum = 0;
                for (int i = 0; i < rests.size(); i++) {
                    sum += (lot & 1 << i) != 0 ? rests.get(i) : 0;
                }
                if (Integer.bitCount(lot) == k && sum % parts == 0) {
                    return true;
                }
            }
            return false;
        }

        /** Which sets of heaps have a ten of k among them. */
        boolean[] withTen(int k) {
            boolean[] with = new boolean[1 << heaps.size()];
            for (int set = 1; set < with.length; set++) {
                with[set] = Integer.bitCount(set) == k && of(0, set, k);
                for (int i = 0; i < heaps.size() && !with[set]; i++) {
                    with[set] = (set & 1 << i) != 0 && with[set ^ 1 << i];
                }
            }
            return with;
        }

        int come(int k) {
            if (outsideSize(k)) {
                return OUTSIDE;
            }
            boolean[] with = withTen(k);
            for (int n = 1; n <= heaps.size(); n++) {
                if (with[(1 << n) - 1]) {
                    return n;
                }
            }
            return NONE;
        }

        int badly(int k) {
            if (outsideSize(k)) {
                return OUTSIDE;
            }
            if (parts > 6) {
                return NOT;
            }
            boolean[] with = withTen(k);
            int most = 0;
            for (int set = 0; set < with.length; set++) {
                most = with[set] ? most : Math.max(most, Integer.bitCount(set));
            }
            return most;
        }

        private List<Integer> bestRow;

        int apart(int k, int i) {
            if (outsideSize(k) || i < NONE) {
                return OUTSIDE;
            }
            if (heaps.size() > 12) {
                return NOT;
            }
            List<Integer> tens = new ArrayList<>();
            for (int lot = 1; lot < 1 << heaps.size(); lot++) {
                if (of(0, lot, k)) {
                    tens.add(lot);
                }
            }
            tens.sort((a, b) -> a.equals(b) ? 0 : ahead(a, b) ? -1 : 1);
            bestRow = new ArrayList<>();
            rows(tens, 0, 0, new ArrayList<>(), heaps.size() / k);
            return i == NONE ? bestRow.size() : i < bestRow.size() ? bestRow.get(i) : NONE;
        }

        /** Rows come up from the first one on, so the first of the longest is the one that stays. */
        private void rows(List<Integer> tens, int from, int taken, List<Integer> row, int end) {
            if (row.size() > bestRow.size()) {
                bestRow = new ArrayList<>(row);
            }
            int free = heaps.size() - Integer.bitCount(taken);
            int size = tens.isEmpty() ? 1 : Integer.bitCount(tens.get(0));
            for (int i = from; i < tens.size() && bestRow.size() < end; i++) {
                if (row.size() + free / size <= bestRow.size()) {
                    return;
                }
                if ((tens.get(i) & taken) == 0) {
                    row.add(tens.get(i));
                    rows(tens, i + 1, taken | tens.get(i), row, end);
                    row.remove(row.size() - 1);
                }
            }
        }

        int turns(int k, int what) {
            if (outsideSize(k) || what < 0 || what > 1) {
                return OUTSIDE;
            }
            if (heaps.size() > 8) {
                return NOT;
            }
            boolean[] with = withTen(k);
            int best = NONE;
            int bestHeap = NONE;
            for (int i = 0; i < heaps.size(); i++) {
                int comes = after(with, 1 << i, 0, true);
                if (bestHeap == NONE || comes > best) {
                    best = comes;
                    bestHeap = i;
                }
            }
            return what == 1 ? bestHeap : bestHeap == NONE ? 1 : best + 1;
        }

        /** What the first one comes to, just after one of them has taken a heap. */
        private int after(boolean[] with, int first, int second, boolean firstTook) {
            if (with[firstTook ? first : second]) {
                return firstTook ? 1 : -1;
            }
            int free = (1 << heaps.size()) - 1 & ~(first | second);
            if (free == 0) {
                return 0;
            }
            int best = firstTook ? 1 : -1;
            for (int i = 0; i < heaps.size(); i++) {
                if ((free & 1 << i) != 0) {
                    best = firstTook ? Math.min(best, after(with, first, second | 1 << i, false))
                        : Math.max(best, after(with, first | 1 << i, second, true));
                }
            }
            return best;
        }

        int sale(int lot) {
            if (unknown(lot)) {
                return UNKNOWN;
            }
            if (sales.size() == 12) {
                return FULL;
            }
            sales.add(lot);
            return sales.size();
        }

        int burn() {
            int had = sales.size();
            sales.clear();
            return had;
        }

        int judge(int k) {
            if (outsideSize(k)) {
                return OUTSIDE;
            }
            for (int row = 0; row < sales.size(); row++) {
                boolean sold = false;
                for (int ahead = 0; ahead < row; ahead++) {
                    sold |= (sales.get(ahead) & sales.get(row)) != 0;
                }
                if (sold || !of(0, sales.get(row), k)) {
                    return row;
                }
            }
            return NONE;
        }

        int keep(int k) {
            if (k < 0 || k > 1) {
                return UNKNOWN;
            }
            kept[k] = new Image(new ArrayList<>(heaps), parts, new ArrayList<>(sales));
            return heaps.size();
        }

        int back(int k) {
            if (k < 0 || k > 1) {
                return UNKNOWN;
            }
            if (kept[k] == null) {
                return NOT;
            }
            heaps = new ArrayList<>(kept[k].heaps);
            parts = kept[k].parts;
            sales = new ArrayList<>(kept[k].sales);
            return heaps.size();
        }

        int count(int what) {
            int[] all = {heaps.size(), parts, text.length(), sales.size()};
            return what < 0 || what > 3 ? OUTSIDE : all[what];
        }
    }

    private static final int[] EDGES = {
        Integer.MIN_VALUE, -3, -2, -1, 21, 22, 31, 32, 33, 64, 1 << 20, 1 << 21, Integer.MAX_VALUE
    };

    /** One run on a new object and on a new model. */
    private static final class Run {
        final EvenTen x = new EvenTen();
        final Plain plain = new Plain();
        final Random random;
        final String name;
        final int mostHeaps;
        int calls = 0;

        Run(String name, long seed, int mostHeaps) {
            this.name = name;
            this.random = new Random(seed);
            this.mostHeaps = mostHeaps;
        }

        void due(String call, long got, long want) {
            calls++;
            same(name + ": a call that an object is still used for", calls <= CALLS ? 1 : 0, 1);
            if (got != want) {
                wrong++;
                System.out.println(name + ", call " + calls + ": " + call + " answered " + got
                    + ", due is " + want + "; parts " + plain.parts + ", " + plain.heaps
                    + ", sales " + plain.sales + ", text '" + plain.text + "'");
            }
        }

        /** Mostly a number of a range, now and then one outside. */
        int number(int least, int most) {
            if (random.nextInt(25) == 0) {
                return EDGES[random.nextInt(EDGES.length)];
            }
            if (random.nextInt(12) == 0) {
                return random.nextBoolean() ? least - 1 : most + 1;
            }
            return least + random.nextInt(most - least + 1);
        }

        int size() {
            int heaps = Math.max(1, plain.heaps.size());
            return random.nextInt(4) == 0 ? number(1, 20) : number(1, Math.min(20, heaps + 1));
        }

        int lot() {
            int all = (1 << plain.heaps.size()) - 1;
            if (random.nextInt(3) == 0) {
                int found = plain.heaps.size() > 14 ? NONE : plain.find(random.nextInt(8), 3);
                return found == NONE ? 0 : found;
            }
            return random.nextInt(20) == 0 ? number(0, all) : random.nextInt() & all;
        }

        String heapLine() {
            long number = random.nextInt(5) == 0 ? Math.abs(random.nextLong()) % 1000000000000000L
                : random.nextInt(60);
            String line = "heap " + number + " " + "rgby".charAt(random.nextInt(4));
            if (random.nextBoolean()) {
                line += " " + random.nextInt(random.nextBoolean() ? 1000 : 20);
                line += random.nextBoolean() ? " " + random.nextInt(random.nextBoolean() ? 100 : 4) : "";
            }
            return line;
        }

        String line(int heaps) {
            int kind = random.nextInt(16);
            if (kind == 0) {
                return "parts " + (2 + random.nextInt(random.nextBoolean() ? 9 : 4));
            }
            if (kind <= 2 || heaps >= mostHeaps) {
                return "away " + random.nextInt(Math.max(1, heaps));
            }
            return kind == 3 && random.nextInt(5) == 0 ? "sweep" : heapLine();
        }

        String text() {
            StringBuilder text = new StringBuilder();
            int lines = 1 + random.nextInt(random.nextInt(8) == 0 ? 12 : 6);
            int heaps = plain.heaps.size();
            for (int i = 0; i < lines; i++) {
                String line = line(heaps);
                heaps += line.startsWith("heap") ? 1 : line.startsWith("away") ? -1 : 0;
                heaps = line.equals("sweep") ? 0 : heaps;
                text.append(i == 0 ? "" : ";").append(line);
            }
            return text.toString();
        }

        String spoilt(String text) {
            StringBuilder spoilt = new StringBuilder(text);
            int times = random.nextInt(3);
            String signs = "  ;;0123456789rgbyahepswtx.A" + (char) 0 + (char) 200 + (char) 255;
            for (int i = 0; i < times && spoilt.length() > 0; i++) {
                int place = random.nextInt(spoilt.length());
                char sign = signs.charAt(random.nextInt(signs.length()));
                switch (random.nextInt(4)) {
                    case 0 -> spoilt.insert(place, sign);
                    case 1 -> spoilt.deleteCharAt(place);
                    case 2 -> spoilt.setCharAt(place, sign);
                    default -> spoilt.setLength(place);
                }
            }
            return spoilt.toString();
        }

        void tell(String text) {
            for (int from = 0; from < text.length(); from += 8) {
                int n = Math.min(8, text.length() - from);
                long bytes = random.nextLong();
                for (int i = 0; i < n; i++) {
                    bytes &= ~(255L << 8 * i);
                    bytes |= (long) text.charAt(from + i) << 8 * i;
                }
                due("write(" + bytes + ", " + n + ")", x.write(bytes, n), plain.write(bytes, n));
            }
            due("fault()", x.fault(), plain.fault());
            due("market()", x.market(), plain.market());
            due("erase()", x.erase(), plain.erase());
            for (int what = 0; what < 4; what++) {
                due("count", x.count(what), plain.count(what));
            }
        }

        void checkHeaps() {
            for (int heap = 0; heap < plain.heaps.size(); heap++) {
                int what = random.nextInt(6);
                due("heap(" + heap + ", " + what + ")", x.heap(heap, what), plain.heap(heap, what));
            }
        }

        void askWhatIsTold() {
            int lot = lot();
            int what = number(0, 2);
            int kind = number(0, 7);
            int as = number(0, 6);
            int k = size();
            int heap = number(0, Math.max(0, plain.heaps.size() - 1));
            int of = number(0, 5);
            due("heap(" + heap + ", " + of + ")", x.heap(heap, of), plain.heap(heap, of));
            due("rest(" + lot + ", " + what + ")", x.rest(lot, what), plain.rest(lot, what));
            due("as(" + kind + ", " + as + ", " + lot + ", " + k + ")",
                x.as(kind, as, lot, k), plain.as(kind, as, lot, k));
            int bits = Integer.bitCount(lot);
            due("as(" + kind + ", " + as + ", " + lot + ", " + bits + ")",
                x.as(kind, as, lot, bits), plain.as(kind, as, lot, bits));
        }

        void askLots() {
            int k = size();
            int kind = number(0, 7);
            int rest = number(0, plain.parts - 1);
            int what = number(0, 1);
            int many = random.nextInt(3) == 0 ? NONE : k;
            int lot = lot();
            due("find(" + kind + ", " + k + ")", x.find(kind, k), plain.find(kind, k));
            due("many(" + many + ", " + rest + ")", x.many(many, rest), plain.many(many, rest));
            due("light(" + k + ", " + what + ")", x.light(k, what), plain.least(k, 0, what));
            due("cheap(" + k + ", " + what + ")", x.cheap(k, what), plain.least(k, 2, what));
            due("mends(" + lot + ")", x.mends(lot), plain.mends(lot));
            due("swap(" + lot + ", " + what + ")", x.swap(lot, what), plain.swap(lot, what));
        }

        void askComing() {
            int k = size();
            int what = number(0, 1);
            int i = number(0, 3);
            due("come(" + k + ")", x.come(k), plain.come(k));
            due("badly(" + k + ")", x.badly(k), plain.badly(k));
            due("apart(" + k + ", " + i + ")", x.apart(k, i), plain.apart(k, i));
            due("apart(" + k + ", NONE)", x.apart(k, NONE), plain.apart(k, NONE));
            if (plain.heaps.size() != 8 || random.nextInt(4) == 0) {
                due("turns(" + k + ", " + what + ")", x.turns(k, what), plain.turns(k, what));
            }
        }

        void askSales() {
            for (int i = random.nextInt(6); i > 0; i--) {
                int lot = lot();
                due("sale(" + lot + ")", x.sale(lot), plain.sale(lot));
            }
            int k = random.nextBoolean() ? 3 : size();
            due("judge(" + k + ")", x.judge(k), plain.judge(k));
            int image = number(0, 1);
            switch (random.nextInt(5)) {
                case 0 -> due("burn()", x.burn(), plain.burn());
                case 1, 2 -> due("keep(" + image + ")", x.keep(image), plain.keep(image));
                default -> due("back(" + image + ")", x.back(image), plain.back(image));
            }
            due("judge(" + k + ")", x.judge(k), plain.judge(k));
            due("count(3)", x.count(3), plain.count(3));
        }

        void go(int most) {
            while (calls + LONGEST_STEP <= most) {
                switch (random.nextInt(9)) {
                    case 0 -> tell(text());
                    case 1 -> tell(spoilt(text()));
                    case 2 -> checkHeaps();
                    case 3 -> askWhatIsTold();
                    case 4, 5 -> askLots();
                    case 6 -> askComing();
                    default -> askSales();
                }
            }
        }
    }

    private static void whateverHeaps() {
        for (int parts = 2; parts <= 5; parts++) {
            for (int k = 1; k <= 9; k++) {
                EvenTen x = new EvenTen();
                int need = NONE;
                for (int m = 9; m >= 0; m--) {
                    List<Integer> all = Plain.worstOnes(parts, m, k);
                    need = all.isEmpty() ? m : need;
                    String call = "(" + parts + ", " + m + ", " + k + ")";
                    same("always" + call, x.always(parts, m, k), all.isEmpty() ? 1 : 0);
                    same("worst how many" + call, x.worst(parts, m, k, NONE), all.size());
                    same("worst behind" + call, x.worst(parts, m, k, all.size()), NONE);
                    for (int i = 0; i < all.size(); i += 1 + all.size() / 40) {
                        same("worst " + i + call, x.worst(parts, m, k, i), all.get(i));
                    }
                }
                same("need(" + parts + ", " + k + ")", x.need(parts, k), need);
            }
        }
    }

    private static void same(String call, long got, long want) {
        if (got != want) {
            wrong++;
            System.out.println(call + " answered " + got + ", due is " + want);
        }
    }

    public static void main(String[] args) {
        int[] mostHeaps = {5, 8, 8, 9, 12, 12, 12};
        for (int seed = 0; seed < 210; seed++) {
            int most = mostHeaps[seed % mostHeaps.length];
            new Run("run " + seed, seed, most).go(CALLS);
        }
        for (int seed = 0; seed < 4; seed++) {
            new Run("great run " + seed, seed, 20).go(210);
        }
        whateverHeaps();
        System.out.println(wrong == 0 ? "as the plain model" : wrong + " answers are not as due");
        if (wrong != 0) {
            System.exit(1);
        }
    }
}
