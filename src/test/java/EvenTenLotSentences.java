/** Each sentence with an edge in what the document says of heaps and lots (promises 6 to 14). */
public final class EvenTenLotSentences extends Telling {
    /** Lots that no number of heaps makes known. */
    private static final int[] NO_LOTS = {LOW, LOW + 1, -2, -1, 1 << 20, 1 << 30, HIGH};
    /** Numbers of heaps that a lot cannot be asked for. */
    private static final int[] NO_SIZES = {LOW, -20, -1, 0, 21, 33, HIGH};

    private static EvenTen twentyAtTheGreatest() {
        EvenTen x = after("parts 10");
        for (int i = 0; i < 20; i++) {
            tell(x, "heap 999999999999999 y 999 99");
        }
        return x;
    }

    private static void heap() {
        sentence("Of a HEAP: NUMBER (what 0), SECOND (1), COLOUR (2), COST (3), "
            + "REST of the NUMBER (4), of the SECOND (5). UNKNOWN; OUTSIDE.");
        EvenTen x = after("parts 7;heap 16 y 24 99;heap 0 r;heap 999999999999999 g 999 1");
        long[][] due = {{16, 24, 3, 99, 2, 3}, {0, 0, 0, 0, 0, 0},
            {999999999999999L, 999, 1, 1, 999999999999999L % 7, 5}};
        for (int heap = 0; heap < 3; heap++) {
            for (int what = 0; what < 6; what++) {
                due("heap(" + heap + ", " + what + ")", x.heap(heap, what), due[heap][what]);
            }
        }
        for (int heap : new int[] {LOW, -1, 3, 4, 19, 20, 32, HIGH}) {
            due("heap(" + heap + ", 0)", x.heap(heap, 0), UNKNOWN);
            due("heap(" + heap + ", 6)", x.heap(heap, 6), UNKNOWN);
        }
        for (int what : new int[] {LOW, -1, 6, 7, HIGH}) {
            due("heap(2, " + what + ")", x.heap(2, what), OUTSIDE);
        }
        due("without heaps", new EvenTen().heap(0, 0), UNKNOWN);
        tell(x, "away 2");
        due("no more", x.heap(2, 0), UNKNOWN);
        EvenTen twenty = twentyAtTheGreatest();
        due("the twentieth", twenty.heap(19, 0), 999999999999999L);
        due("no 21st", twenty.heap(20, 0), UNKNOWN);
    }

    private static void rest() {
        sentence("REST of the NUMBERS of a LOT together (what 0), of its SECONDS (1), "
            + "how many HEAPS it has (2). UNKNOWN; OUTSIDE.");
        EvenTen x = after("parts 7;heap 16 y 24;heap 5 r 4;heap 6 g");
        int[][] due = {{0, 0, 0}, {2, 3, 1}, {5, 4, 1}, {0, 0, 2}, {6, 0, 1}, {1, 3, 2},
            {4, 4, 2}, {6, 0, 3}};
        for (int lot = 0; lot < 8; lot++) {
            for (int what = 0; what < 3; what++) {
                due("rest(" + lot + ", " + what + ")", x.rest(lot, what), due[lot][what]);
            }
        }
        due("a heap too many", x.rest(8, 0), UNKNOWN);
        due("a heap too many", x.rest(15, 0), UNKNOWN);
        due("unknown goes ahead", x.rest(8, 3), UNKNOWN);
        for (int lot : NO_LOTS) {
            due("rest(" + lot + ", 0)", x.rest(lot, 0), UNKNOWN);
            due("rest(" + lot + ", -1)", x.rest(lot, -1), UNKNOWN);
        }
        for (int what : new int[] {LOW, -1, 3, 4, HIGH}) {
            due("rest(7, " + what + ")", x.rest(7, what), OUTSIDE);
            due("rest(0, " + what + ")", x.rest(0, what), OUTSIDE);
        }
        EvenTen none = new EvenTen();
        due("the empty lot", none.rest(0, 2), 0);
        due("no heap 0", none.rest(1, 2), UNKNOWN);
        EvenTen twenty = twentyAtTheGreatest();
        tell(twenty, "parts 7");
        due("the greatest sum", twenty.rest(TWENTY, 0), 19999999999999980L % 7);
        due("the greatest seconds", twenty.rest(TWENTY, 1), 19980 % 7);
        due("twenty", twenty.rest(TWENTY, 2), 20);
        due("no 21st", twenty.rest(1 << 20, 2), UNKNOWN);
        due("below 0", twenty.rest(-1, 2), UNKNOWN);
    }

    private static void lotsAreBits() {
        sentence("A LOT is a set of HEAPS (bits).");
        EvenTen x = alike(10, 20, 1);
        for (int heap = 0; heap < 20; heap++) {
            due("heap " + heap + " alone", x.rest(1 << heap, 2), 1);
            due("all up to " + heap, x.rest((2 << heap) - 1, 0), (heap + 1) % 10);
        }
        due("none", x.rest(0, 2), 0);
        for (int bit = 20; bit < 32; bit++) {
            due("no heap " + bit, x.rest(1 << bit, 2), UNKNOWN);
            due("heap 0 with no heap " + bit, x.rest(1 | 1 << bit, 2), UNKNOWN);
        }
    }

    private static void kindsAreEven() {
        sentence("KINDS of LOTS (EVEN ones all) for k (1 .. 20)");
        EvenTen x = after("parts 2;heap 1 r;heap 1 g;heap 1 b;heap 1 y");
        for (int kind = 0; kind < 8; kind++) {
            due("one odd heap of each kind", x.as(kind, 0, 1 << Math.max(0, kind - 4), 1), 0);
            due("three odd heaps", x.as(kind, 0, 7, 3), 0);
            due("four odd heaps", x.as(kind, 0, 15, 4), 1);
            due("found", x.find(kind, 4), 15);
            due("none of 1", x.find(kind, 1), NONE);
            due("k 20 is one", x.find(kind, 20), kind == 1 || kind == 2 ? 15 : NONE);
            for (int k : NO_SIZES) {
                due("k " + k + " is none", x.as(kind, 0, 15, k), OUTSIDE);
            }
        }
        sentence("whether a LOT is one of k HEAPS (1, 0).");
        for (int kind = 0; kind < 8; kind++) {
            for (int k = 1; k <= 20; k++) {
                boolean is = k == 4 || k > 4 && (kind == 1 || kind == 2);
                due("kind " + kind + " of " + k, x.as(kind, 0, 15, k), is ? 1 : 0);
            }
        }
    }

    private static void even() {
        sentence("It is EVEN, if its NUMBERS together have REST 0.");
        EvenTen x = withHeaps(10, 3, 7, 10, 0);
        due("no number is 0", x.as(1, 0, 3, 20), 1);
        due("once n", x.as(0, 0, 4, 1), 1);
        due("0", x.as(0, 0, 8, 1), 1);
        due("3", x.as(0, 0, 1, 1), 0);
        due("13", x.as(0, 0, 5, 2), 0);
    }

    private static void kindTen() {
        sentence("0 TEN: just k HEAPS");
        EvenTen x = alike(2, 4, 0);
        for (int k = 1; k <= 20; k++) {
            due("three of " + k, x.as(0, 2, 7, k), k == 3 ? 1 : 0);
            due("none of " + k, x.as(0, 2, 0, k), 0);
            due("find of " + k, x.find(0, k), k <= 4 ? (1 << k) - 1 : NONE);
        }
    }

    private static void kindAny() {
        sentence("1 ANY: 1 to k HEAPS");
        EvenTen x = alike(2, 4, 0);
        for (int k = 1; k <= 20; k++) {
            due("three of " + k, x.as(1, 3, 7, k), k >= 3 ? 1 : 0);
            due("one of " + k, x.as(1, 3, 8, k), 1);
            due("none of " + k, x.as(1, 3, 0, k), 0);
            due("with a gap of " + k, x.as(1, 3, 9, k), k >= 2 ? 1 : 0);
            due("find of " + k, x.find(1, k), (1 << Math.min(k, 4)) - 1);
        }
        due("odd alone", withHeaps(2, 1).find(1, 20), NONE);
    }

    private static void kindRun() {
        sentence("2 RUN: 1 to k HEAPS that are one behind the other");
        EvenTen x = alike(2, 5, 0);
        for (int k = 1; k <= 20; k++) {
            due("three of " + k, x.as(2, 4, 14, k), k >= 3 ? 1 : 0);
            due("the last of " + k, x.as(2, 4, 16, k), 1);
            due("none of " + k, x.as(2, 4, 0, k), 0);
            due("with a gap of " + k, x.as(2, 4, 5, k), 0);
            due("with a gap of " + k, x.as(2, 4, 27, k), 0);
            due("find of " + k, x.find(2, k), (1 << Math.min(k, 5)) - 1);
        }
        EvenTen twenty = alike(2, 20, 1);
        due("all of twenty", twenty.as(2, 4, TWENTY, 20), 1);
        due("the last two", twenty.as(2, 4, 3 << 18, 2), 1);
        due("the first and the last", twenty.as(2, 4, 1 | 1 << 19, 20), 0);
        due("odd ones by one", twenty.find(2, 1), NONE);
        EvenTen last = withHeaps(7, 1, 1, 1, 3, 4);
        due("the last two alone", last.find(2, 4), 24);
        due("not so many", last.find(2, 1), NONE);
    }

    private static void kindBoth() {
        sentence("3 BOTH: TEN, and its SECONDS together have REST 0, too");
        EvenTen x = after("parts 5;heap 5 r 1;heap 5 r 4;heap 4 r 5;heap 1 r 5;heap 2 r 5");
        due("even and even", x.as(3, 5, 3, 2), 1);
        due("seconds not", x.as(3, 5, 1, 1), 0);
        due("numbers not", x.as(3, 5, 4, 1), 0);
        due("neither", x.as(3, 5, 5, 2), 0);
        due("another k", x.as(3, 5, 3, 3), 0);
        due("two", x.find(3, 2), 3);
        due("one", x.find(3, 1), NONE);
        due("four", x.find(3, 4), 15);
        due("six", x.find(3, 6), NONE);
    }

    private static void kindsOfColours() {
        sentence("4 TO 7 RED .. : TEN, with a HEAP of COLOUR KIND less 4 at least");
        EvenTen x = after("parts 2;heap 2 r;heap 2 g;heap 2 b;heap 2 y;heap 2 y;heap 1 g");
        for (int colour = 0; colour < 4; colour++) {
            int one = 1 << colour;
            due("one", x.as(4 + colour, 6, one, 1), 1);
            due("another k", x.as(4 + colour, 6, one, 2), 0);
            due("first of 1", x.find(4 + colour, 1), one);
            due("first of 2", x.find(4 + colour, 2), colour == 0 ? 3 : 1 | one);
            due("first of 5", x.find(4 + colour, 5), 31);
            for (int lot = 1; lot < 16; lot++) {
                int size = Integer.bitCount(lot);
                due("of " + lot, x.as(4 + colour, 2, lot, size), (lot & one) != 0 ? 1 : 0);
            }
        }
        due("two of them", x.as(7, 6, 24, 2), 1);
        due("not even", x.as(5, 6, 32, 1), 0);
        due("not even", x.as(5, 6, 33, 2), 0);
        due("no blue", alike(2, 3, 0).find(6, 1), NONE);
    }

    private static void firstOfTwo() {
        sentence("Of two LOTS that is the first one that has the least HEAP "
            + "that is of one of them alone (ANY, RUN: so likewise).");
        due("0 and 3 ahead of 1 and 2", withHeaps(10, 1, 2, 8, 9).find(0, 2), 9);
        due("a longer one ahead of its beginning", withHeaps(10, 5, 5, 5, 5).find(1, 4), 15);
        due("so many at most", withHeaps(10, 5, 5, 5, 5).find(1, 3), 3);
        due("0 and 3 ahead of 1", withHeaps(10, 1, 10, 3, 9).find(1, 2), 9);
        due("with 1 still ahead", withHeaps(10, 1, 10, 3, 9).find(1, 3), 11);
        due("a longer run", withHeaps(10, 10, 3, 7, 5).find(2, 3), 7);
        due("a shorter run", withHeaps(10, 10, 3, 7, 5).find(2, 2), 1);
        due("a run from 0 on ahead", withHeaps(10, 3, 7, 10, 10).find(2, 2), 3);
    }

    private static void as() {
        sentence("KINDS are over one another: LOT (0); SIZED (1) under it; TEN (2) is SIZED; "
            + "ANY (3) is a LOT; RUN (4) is ANY; BOTH (5) is TEN; RED (6) is TEN.");
        EvenTen x = alike(2, 2, 0);
        String[] such = {"012", "03", "034", "0125", "0126", "0126", "0126", "0126"};
        for (int kind = 0; kind < 8; kind++) {
            for (int as = 0; as <= 6; as++) {
                boolean is = such[kind].indexOf('0' + as) >= 0;
                int lot = kind <= 4 ? 1 : 0;
                due("as(" + kind + ", " + as + ")", x.as(kind, as, lot, 1), is ? lot : NOT);
            }
        }
        sentence("A KIND of LOT (0 .. 7) taken as (0 .. 6, as they are over one another)");
        for (int kind : new int[] {LOW, -1, 8, 9, HIGH}) {
            due("kind " + kind, x.as(kind, 0, 1, 1), UNKNOWN);
        }
        for (int as : new int[] {LOW, -1, 7, 8, 32, HIGH}) {
            due("as " + as, x.as(0, as, 1, 1), OUTSIDE);
        }
        sentence("UNKNOWN; OUTSIDE: as, k; NOT: that KIND is none such.");
        for (int lot : NO_LOTS) {
            due("lot " + lot, x.as(0, 0, lot, 1), UNKNOWN);
            due("lot " + lot + " goes ahead", x.as(0, 7, lot, 0), UNKNOWN);
        }
        due("a heap too many", x.as(0, 0, 4, 1), UNKNOWN);
        for (int k : NO_SIZES) {
            due("k " + k, x.as(0, 0, 1, k), OUTSIDE);
            due("k " + k + " goes ahead of not", x.as(0, 3, 1, k), OUTSIDE);
            due("kind goes ahead of k " + k, x.as(8, 3, 1, k), UNKNOWN);
        }
        due("k 1", x.as(0, 0, 1, 1), 1);
        due("k 20", x.as(1, 0, 1, 20), 1);
        due("not", x.as(0, 3, 1, 1), NOT);
        due("not, whatever the lot is", x.as(0, 3, 0, 20), NOT);
    }

    private static void find() {
        sentence("The first LOT of a KIND for k; NONE. UNKNOWN; OUTSIDE.");
        EvenTen none = new EvenTen();
        EvenTen odd = alike(2, 1, 1);
        EvenTen twenty = after("parts 2", "heap 0 r;heap 0 g;heap 0 b;heap 0 y");
        for (int i = 0; i < 16; i++) {
            tell(twenty, "heap 0 r");
        }
        for (int kind = 0; kind < 8; kind++) {
            for (int k : new int[] {1, 2, 10, 19, 20}) {
                due("without heaps", none.find(kind, k), NONE);
                due("with an odd one", odd.find(kind, k), NONE);
                int first = k == 1 && kind > 4 ? 1 << kind - 4
                    : k == 2 && kind > 4 ? 1 | 1 << kind - 4 : (1 << k) - 1;
                due("of twenty, " + kind + " of " + k, twenty.find(kind, k), first);
            }
            for (int k : NO_SIZES) {
                due("k " + k, twenty.find(kind, k), OUTSIDE);
            }
        }
        for (int kind : new int[] {LOW, -1, 8, 9, HIGH}) {
            due("kind " + kind, twenty.find(kind, 1), UNKNOWN);
            due("kind " + kind + " goes ahead", twenty.find(kind, 21), UNKNOWN);
        }
    }

    private static void many() {
        sentence("LOTS of k HEAPS whose NUMBERS together have a REST; of any k from 0 on, too.");
        EvenTen none = new EvenTen();
        due("the empty one alone", none.many(0, 0), 1);
        due("of any", none.many(NONE, 0), 1);
        due("of rest 9", none.many(NONE, 9), 0);
        due("of one", none.many(1, 0), 0);
        due("of twenty", none.many(20, 0), 0);
        EvenTen twenty = alike(10, 20, 1);
        int[] due = {1, 20, 190, 1140, 4845, 15504, 38760, 77520, 125970, 167960, 184756};
        for (int k = 0; k <= 20; k++) {
            due("ones, " + k, twenty.many(k, k % 10), due[Math.min(k, 20 - k)]);
            due("not so", twenty.many(k, (k + 1) % 10), 0);
        }
        due("any", twenty.many(NONE, 0), 1 + 184756 + 1);
        due("any, rest 9", twenty.many(NONE, 9), 167960 + 20);
        due("all there are", alike(2, 20, 0).many(NONE, 0), 1 << 20);
        sentence("MANY: LOTS of k HEAPS (NONE: of any) of a REST.");
        EvenTen mixed = withHeaps(4, 1, 2, 3, 0, 5, 7);
        for (int rest = 0; rest < 4; rest++) {
            int all = 0;
            for (int k = 0; k <= 20; k++) {
                all += mixed.many(k, rest);
            }
            due("any of rest " + rest, mixed.many(NONE, rest), all);
            due("a fourth of them", all, 16);
        }
        sentence("OUTSIDE: k (NONE .. 20), rest (0 .. n - 1).");
        for (int k : new int[] {LOW, -3, -2, 21, 22, HIGH}) {
            due("k " + k, twenty.many(k, 0), OUTSIDE);
        }
        for (int parts = 2; parts <= 10; parts++) {
            tell(twenty, "parts " + parts);
            due("rest n - 1", twenty.many(parts - 1, parts - 1), due[parts - 1]);
            due("rest n", twenty.many(1, parts), OUTSIDE);
            due("rest below", twenty.many(1, -1), OUTSIDE);
        }
        due("rest low", twenty.many(NONE, LOW), OUTSIDE);
        due("rest high", twenty.many(NONE, HIGH), OUTSIDE);
    }

    private static void light() {
        sentence("LIGHT: the TEN whose NUMBERS together are least, of several the first.");
        EvenTen x = withHeaps(10, 15, 5, 5, 15, 20, 5);
        due("two", x.light(2, 0), 6);
        due("their sum", x.light(2, 1), 10);
        due("one", x.light(1, 0), 16);
        due("four", x.light(4, 0), 39);
        due("their sum", x.light(4, 1), 30);
        due("alike", alike(10, 20, 5).light(4, 0), 15);
        due("a light one behind", withHeaps(10, 10, 20, 0).light(1, 0), 4);
        due("a heavy one ahead", withHeaps(10, 30, 5, 5, 10).light(2, 0), 6);
        due("four of one weight", withHeaps(10, 1, 9, 9, 1).light(2, 0), 3);
        due("the first is not the lightest", withHeaps(10, 1, 19, 9, 1).light(2, 0), 5);
        EvenTen twenty = twentyAtTheGreatest();
        due("the greatest", twenty.light(20, 0), TWENTY);
        due("the greatest sum", twenty.light(20, 1), 19999999999999980L);
        due("of ten", twenty.light(10, 1), 9999999999999990L);
        due("of nine", twenty.light(9, 1), NONE);
        sentence("LIGHT: the LOT (what 0), its NUMBERS together (1); NONE: there is none. OUTSIDE.");
        due("a sum of 0", withHeaps(10, 0).light(1, 1), 0);
        for (int what = 0; what < 2; what++) {
            due("without heaps", new EvenTen().light(1, what), NONE);
            due("none even", alike(2, 3, 1).light(1, what), NONE);
            due("not so many", alike(2, 3, 0).light(4, what), NONE);
            due("not so many", alike(2, 3, 0).light(20, what), NONE);
            for (int k : NO_SIZES) {
                due("k " + k, x.light(k, what), OUTSIDE);
            }
        }
        for (int what : new int[] {LOW, -1, 2, HIGH}) {
            due("what " + what, x.light(2, what), OUTSIDE);
            due("where there is none", x.light(20, what), OUTSIDE);
        }
    }

    private static void cheap() {
        sentence("CHEAP: likewise by COSTS.");
        EvenTen x = after("parts 2;heap 1 r 0 9;heap 3 r 0 2;heap 5 r 0 2;heap 7 r 0 9;heap 9 r 0 2");
        due("two", x.cheap(2, 0), 6);
        due("their costs", x.cheap(2, 1), 4);
        due("four", x.cheap(4, 0), 23);
        due("costs alike", alike(2, 6, 1).cheap(4, 0), 15);
        due("a cheap one behind", after("heap 0 r 0 5;heap 0 r 0 4").cheap(1, 0), 2);
        due("the greatest", twentyAtTheGreatest().cheap(20, 1), 1980);
        sentence("CHEAP: the LOT (what 0), its COSTS together (1); NONE. OUTSIDE.");
        due("costs of 0", alike(2, 2, 1).cheap(2, 1), 0);
        for (int what = 0; what < 2; what++) {
            due("without heaps", new EvenTen().cheap(1, what), NONE);
            due("none even", x.cheap(3, what), NONE);
            due("not so many", x.cheap(6, what), NONE);
            due("not so many", x.cheap(20, what), NONE);
            for (int k : NO_SIZES) {
                due("k " + k, x.cheap(k, what), OUTSIDE);
            }
        }
        for (int what : new int[] {LOW, -1, 2, HIGH}) {
            due("what " + what, x.cheap(2, what), OUTSIDE);
            due("where there is none", x.cheap(20, what), OUTSIDE);
        }
    }

    private static void mends() {
        sentence("MENDS: by how many more a LOT would be EVEN");
        for (int parts = 2; parts <= 10; parts++) {
            for (int number = 0; number <= parts; number++) {
                EvenTen x = withHeaps(parts, number);
                due(number + " by " + parts, x.mends(1), (parts - number) % parts);
                due("the empty one", x.mends(0), 0);
            }
        }
        due("the greatest sum", twentyAtTheGreatest().mends(TWENTY), 0);
        due("one less", twentyAtTheGreatest().mends(TWENTY ^ 1), 9);
        sentence("MENDS. UNKNOWN.");
        EvenTen x = withHeaps(10, 1, 2);
        due("both", x.mends(3), 7);
        due("a heap too many", x.mends(4), UNKNOWN);
        for (int lot : NO_LOTS) {
            due("lot " + lot, x.mends(lot), UNKNOWN);
        }
        due("without heaps", new EvenTen().mends(1), UNKNOWN);
    }

    private static void swap() {
        sentence("a SWAP: the least HEAP of it and, for that, the least HEAP that is not of it "
            + "by whose exchange it is EVEN; none (a LOT that is EVEN: none).");
        EvenTen x = withHeaps(10, 4, 3, 7, 17, 6, 9, 9);
        due("0 goes", x.swap(3, 0), 0);
        due("for the least of two", x.swap(3, 1), 2);
        due("4 cannot go, 9 can", x.swap(33, 0), 5);
        due("for 6", x.swap(33, 1), 4);
        due("whole", x.swap(127, 0), NONE);
        due("alone, and none for it", x.swap(1, 0), NONE);
        due("none for it", x.swap(1, 1), NONE);
        due("even already", x.swap(6, 0), NONE);
        due("even already", x.swap(6, 1), NONE);
        due("the empty one", x.swap(0, 0), NONE);
        due("the last heap", withHeaps(10, 1, 2, 0).swap(2, 1), 2);
        due("the last heap goes", withHeaps(10, 0, 2, 1).swap(4, 0), 2);
        due("for the first", withHeaps(10, 0, 2, 1).swap(4, 1), 0);
        sentence("SWAP: the HEAP of it (what 0), the other one (1); NONE. UNKNOWN; OUTSIDE.");
        for (int lot : NO_LOTS) {
            due("lot " + lot, x.swap(lot, 0), UNKNOWN);
            due("lot " + lot + " goes ahead", x.swap(lot, 2), UNKNOWN);
        }
        due("a heap too many", x.swap(128, 1), UNKNOWN);
        for (int what : new int[] {LOW, -1, 2, HIGH}) {
            due("what " + what, x.swap(3, what), OUTSIDE);
            due("what " + what + " of an even one", x.swap(6, what), OUTSIDE);
            due("what " + what + " without heaps", new EvenTen().swap(0, what), OUTSIDE);
        }
    }

    public static void main(String[] args) {
        heap();
        rest();
        lotsAreBits();
        kindsAreEven();
        even();
        kindTen();
        kindAny();
        kindRun();
        kindBoth();
        kindsOfColours();
        firstOfTwo();
        as();
        find();
        many();
        light();
        cheap();
        mends();
        swap();
        end();
    }
}
