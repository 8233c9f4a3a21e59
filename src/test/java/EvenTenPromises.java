/** For each promise: ordinary inputs, the edges that the document names, and wrong inputs. */
public final class EvenTenPromises extends Telling {
    private static void promise1() {
        EvenTen x = new EvenTen();
        due("1 heaps", x.count(0), 0);
        due("1 parts", x.count(1), 10);
        due("1 bytes", x.count(2), 0);
        due("1 sales", x.count(3), 0);
        due("1 back(0)", x.back(0), NOT);
        due("1 back(1)", x.back(1), NOT);
        EvenTen other = withHeaps(3, 1, 2);
        due("1 another object", new EvenTen().count(0), 0);
        due("1 that one", other.count(0), 2);
    }

    private static void promise2() {
        EvenTen x = new EvenTen();
        due("2 n 0", x.write(1, 0), OUTSIDE);
        due("2 n 9", x.write(1, 9), OUTSIDE);
        due("2 n low", x.write(1, LOW), OUTSIDE);
        due("2 n high", x.write(1, HIGH), OUTSIDE);
        due("2 one byte", x.write('s' | 255L << 8, 1), 1);
        due("2 four bytes", put(x, "weep"), 5);
        due("2 only n bytes", x.fault(), NONE);
        due("2 a negative long", x.write(-1L, 8), 13);
        due("2 bytes of 255", x.fault(), 5);
        x.erase();
        for (int i = 1; i <= 24; i++) {
            due("2 up to 192", x.write(0, 8), 8 * i);
        }
        due("2 193", x.write(0, 1), 193);
        due("2 8 more", x.write(0, 8), FULL);
        due("2 n 9 goes ahead of full", x.write(0, 9), OUTSIDE);
        due("2 nothing changed", x.count(2), 193);
        due("2 7 more", x.write(0, 7), 200);
        due("2 one more", x.write(0, 1), FULL);
        due("2 200", x.count(2), 200);
    }

    private static void promise3() {
        EvenTen x = new EvenTen();
        due("3 empty", x.erase(), 0);
        put(x, "sweep;sweep");
        due("3 eleven", x.erase(), 11);
        due("3 none", x.count(2), 0);
        due("3 again", x.erase(), 0);
        put(x, "sweep");
        due("3 the new text alone", x.market(), 1);
    }

    private static void promise4Words() {
        fault(0, "", 0);
        fault(0, "   ", 3);
        fault(0, "sweep", NONE);
        fault(0, " sweep ", NONE);
        fault(0, "  sweep  ;  sweep  ", NONE);
        fault(0, "sweeps", 0);
        fault(0, "swee", 0);
        fault(0, "Sweep", 0);
        fault(0, "sweep sweep", 6);
        fault(0, "sweep 1", 6);
        fault(0, "sweep1", 5);
        fault(0, "sweep;", 6);
        fault(0, "sweep;  ", 8);
        fault(0, ";sweep", 0);
        fault(0, "sweep;;sweep", 6);
        fault(0, "sweep\tsweep", 5);
        fault(0, "sweep.", 5);
        fault(0, "sweep" + (char) 233, 5);
        fault(0, "sweep" + (char) 0, 5);
        fault(0, "7", 0);
        fault(0, "sweep;sweep;sweep;sweep;sweep;sweep;sweep;sweep;sweep;sweep", NONE);
        fault(0, "sweep;sweep;sweep;sweep;sweep;sweep;sweep;sweep;sweep;sweep  ", NONE);
        fault(0, "sweep;sweep;sweep;sweep;sweep;sweep;sweep;sweep;sweep;sweep;", 59);
        fault(0, "sweep;sweep;sweep;sweep;sweep;sweep;sweep;sweep;sweep;sweep ;x", 60);
    }

    private static void promise4Parts() {
        fault(0, "parts", 5);
        fault(0, "parts  ", 7);
        fault(0, "parts;", 5);
        fault(0, "parts 0", 6);
        fault(0, "parts 1", 6);
        fault(0, "parts 2", NONE);
        fault(0, "parts 10", NONE);
        fault(0, "parts010", NONE);
        fault(0, "parts 11", 6);
        fault(0, "parts 0010", 6);
        fault(0, "parts x", 6);
        fault(0, "parts -2", 6);
        fault(0, "parts 2 3", 8);
        fault(0, "parts 2x", 7);
        fault(0, "parts 999999999999999999999999999", 6);
        fault(0, "parts 4294967298", 6);
    }

    private static void promise4Heaps() {
        fault(0, "heap", 4);
        fault(0, "heap 1", 6);
        fault(0, "heap 1 ", 7);
        fault(0, "heap 1;", 6);
        fault(0, "heap r", 5);
        fault(0, "heap 1 r", NONE);
        fault(0, "heap1g2 3", NONE);
        fault(0, "heap 1 b", NONE);
        fault(0, "heap 1 y", NONE);
        fault(0, "heap 1 R", 7);
        fault(0, "heap 1 rr", 7);
        fault(0, "heap 1 4", 7);
        fault(0, "heap 999999999999999 r", NONE);
        fault(0, "heap 000000000000000 r", NONE);
        fault(0, "heap 0000000000000000 r", 5);
        fault(0, "heap 18446744073709551617 r", 5);
        fault(0, "heap 1 r 999 99", NONE);
        fault(0, "heap 1 r 0999", 9);
        fault(0, "heap 1 r 999 100", 13);
        fault(0, "heap 1 r 999 099", NONE);
        fault(0, "heap 1 r 999 0099", 13);
        fault(0, "heap 1 r 9 9 9", 13);
        fault(0, "heap 1 r x", 9);
        fault(0, "heap 1 r 9 x", 11);
        fault(0, "heap 1 r 9 9 x", 13);
        fault(0, "heap 1 r;heap 1 r 1000", 18);
        fault(19, "heap 1 r", NONE);
        fault(19, "heap 1 r;  heap 1 r", 11);
        fault(20, "heap", 0);
        fault(20, "heap x", 0);
        fault(20, "sweep;heap 1 r", NONE);
        fault(20, "away 19;heap 1 r", NONE);
        fault(20, "away 19;heap 1 r;heap 1 r", 17);
    }

    private static void promise4Away() {
        fault(0, "away", 4);
        fault(0, "away 0", 5);
        fault(0, "heap 1 r;away 0", NONE);
        fault(2, "away 1;away 0", NONE);
        fault(2, "away 1;away 1", 12);
        fault(2, "away 2", 5);
        fault(2, "away 000", NONE);
        fault(2, "away 0000", 5);
        fault(2, "away x", 5);
        fault(2, "away", 4);
        fault(2, "away 0 0", 7);
        fault(2, "sweep;away 0", 11);
        fault(20, "away 19", NONE);
        fault(20, "away 20", 5);
    }

    private static void promise5() {
        EvenTen x = after("parts 3;heap 1 r 2 3;heap 4 g;heap 5 b 6");
        due("5 empty", x.market(), NOT);
        put(x, "away 0;sweep;parts 11");
        due("5 fault", x.market(), NOT);
        due("5 the text stays", x.count(2), 21);
        due("5 heaps stay", x.count(0), 3);
        due("5 parts stay", x.count(1), 3);
        x.sale(1);
        x.keep(0);
        due("5 fault with sales", x.market(), NOT);
        due("5 sales stay", x.count(3), 1);
        due("5 the image stays", x.back(0), 3);
        x.erase();
        put(x, "away 1;heap 9 y 8 7");
        due("5 two lines", x.market(), 2);
        due("5 no text", x.count(2), 0);
        due("5 no sales", x.count(3), 0);
        due("5 no image", x.back(0), NOT);
        due("5 heaps", x.count(0), 3);
        due("5 the one behind", x.heap(1, 0), 5);
        due("5 its second", x.heap(1, 1), 6);
        due("5 its colour", x.heap(1, 2), 2);
        due("5 the new one", x.heap(2, 0), 9);
        due("5 its cost", x.heap(2, 3), 7);
        put(x, "parts 7;sweep;heap 8 g;parts 4");
        due("5 four lines", x.market(), 4);
        due("5 the last parts", x.count(1), 4);
        due("5 one heap", x.count(0), 1);
        due("5 no second", x.heap(0, 1), 0);
        due("5 no cost", x.heap(0, 3), 0);
    }

    private static void promise6() {
        EvenTen x = after("heap 999999999999999 y 999 99;heap 17 g");
        long[] first = {999999999999999L, 999, 3, 99, 9, 9};
        long[] second = {17, 0, 1, 0, 7, 0};
        for (int what = 0; what < 6; what++) {
            due("6 first, " + what, x.heap(0, what), first[what]);
            due("6 second, " + what, x.heap(1, what), second[what]);
        }
        due("6 no such", x.heap(2, 0), UNKNOWN);
        due("6 below", x.heap(-1, 0), UNKNOWN);
        due("6 low", x.heap(LOW, 0), UNKNOWN);
        due("6 unknown goes ahead", x.heap(2, 6), UNKNOWN);
        due("6 what 6", x.heap(0, 6), OUTSIDE);
        due("6 what below", x.heap(0, -1), OUTSIDE);
    }

    private static void promise7() {
        EvenTen x = after("parts 7;heap 999999999999999 y 999 99;heap 17 g 5;heap 3 r 6");
        due("7 numbers", x.rest(7, 0), (999999999999999L + 20) % 7);
        due("7 seconds", x.rest(7, 1), 1010 % 7);
        due("7 how many", x.rest(5, 2), 2);
        due("7 none", x.rest(0, 0) + x.rest(0, 1) + x.rest(0, 2), 0);
        due("7 unknown", x.rest(8, 0), UNKNOWN);
        due("7 below", x.rest(-1, 0), UNKNOWN);
        due("7 low", x.rest(LOW, 0), UNKNOWN);
        due("7 unknown goes ahead", x.rest(8, 3), UNKNOWN);
        due("7 what 3", x.rest(7, 3), OUTSIDE);
        due("7 what below", x.rest(7, -1), OUTSIDE);
        int[] great = new int[20];
        java.util.Arrays.fill(great, 999999999);
        due("7 all of twenty", withHeaps(7, great).rest((1 << 20) - 1, 0), 20L * 999999999L % 7);
    }

    private static void promise8() {
        EvenTen x = after("parts 3;heap 1 r 1;heap 2 g 2;heap 3 b 1;heap 3 r 3");
        int[][] over = {{0, 1, 2}, {0, 3}, {0, 3, 4}, {0, 1, 2, 5}, {0, 1, 2, 6}};
        for (int kind = 0; kind < 8; kind++) {
            for (int as = 0; as < 7; as++) {
                boolean such = false;
                for (int one : over[Math.min(kind, 4)]) {
                    such |= one == as;
                }
                due("8 taken " + kind + " as " + as, x.as(kind, as, 0, 1), such ? 0 : NOT);
            }
        }
        due("8 ten", x.as(0, 0, 3, 2), 1);
        due("8 ten of 3", x.as(0, 0, 3, 3), 0);
        due("8 odd", x.as(0, 0, 5, 2), 0);
        due("8 any of 3", x.as(1, 0, 3, 3), 1);
        due("8 any of 1", x.as(1, 0, 3, 1), 0);
        due("8 any, a single one", x.as(1, 3, 4, 3), 1);
        due("8 run, a single one", x.as(2, 4, 8, 1), 1);
        due("8 no empty any", x.as(1, 0, 0, 4), 0);
        due("8 run", x.as(2, 3, 3, 2), 1);
        due("8 run of all", x.as(2, 3, 15, 20), 1);
        due("8 run with a gap", x.as(2, 3, 11, 4), 0);
        due("8 any with a gap", x.as(1, 3, 11, 4), 1);
        due("8 no empty run", x.as(2, 0, 0, 4), 0);
        due("8 both", x.as(3, 1, 3, 2), 1);
        due("8 not both, as ten", x.as(3, 2, 7, 3), 0);
        due("8 red", x.as(4, 2, 3, 2), 1);
        due("8 green", x.as(5, 2, 3, 2), 1);
        due("8 no blue", x.as(6, 2, 3, 2), 0);
        due("8 no yellow", x.as(7, 0, 3, 2), 0);
        due("8 kind 8", x.as(8, 7, 0, 0), UNKNOWN);
        due("8 kind below", x.as(-1, 0, 0, 1), UNKNOWN);
        due("8 lot", x.as(0, 7, 16, 0), UNKNOWN);
        due("8 as 7", x.as(0, 7, 3, 2), OUTSIDE);
        due("8 as below", x.as(0, -1, 3, 2), OUTSIDE);
        due("8 k 0", x.as(0, 5, 3, 0), OUTSIDE);
        due("8 k 21", x.as(0, 0, 3, 21), OUTSIDE);
        due("8 k 20", x.as(0, 0, 3, 20), 0);
    }

    private static void promise9() {
        EvenTen x = after("parts 4;heap 1 r 1;heap 2 g 1;heap 3 b 3;heap 2 y 3;heap 4 g 4");
        due("9 ten of 1", x.find(0, 1), 16);
        due("9 ten of 2", x.find(0, 2), 5);
        due("9 ten of 3", x.find(0, 3), 21);
        due("9 ten of 4", x.find(0, 4), 15);
        due("9 ten of 5", x.find(0, 5), 31);
        due("9 ten of 6", x.find(0, 6), NONE);
        due("9 any of 1", x.find(1, 1), 16);
        due("9 any of 2", x.find(1, 2), 5);
        due("9 any of 4", x.find(1, 4), 15);
        due("9 any of 20", x.find(1, 20), 31);
        due("9 run of 3", x.find(2, 3), 16);
        due("9 run of 4", x.find(2, 4), 15);
        due("9 run of 20", x.find(2, 20), 31);
        due("9 both of 2", x.find(3, 2), 5);
        due("9 both of 4", x.find(3, 4), 15);
        due("9 both of 5", x.find(3, 5), 31);
        due("9 red of 1", x.find(4, 1), NONE);
        due("9 green of 1", x.find(5, 1), 16);
        due("9 blue of 2", x.find(6, 2), 5);
        due("9 yellow of 2", x.find(7, 2), 10);
        due("9 yellow of 3", x.find(7, 3), 26);
        due("9 kind 8", x.find(8, 0), UNKNOWN);
        due("9 kind below", x.find(-1, 1), UNKNOWN);
        due("9 k 0", x.find(0, 0), OUTSIDE);
        due("9 k 21", x.find(2, 21), OUTSIDE);
        EvenTen twenty = withHeaps(2, new int[20]);
        due("9 all of twenty", twenty.find(0, 20), (1 << 20) - 1);
        due("9 any of twenty", twenty.find(1, 20), (1 << 20) - 1);
        due("9 run of twenty", twenty.find(2, 20), (1 << 20) - 1);
        due("9 both of ten", twenty.find(3, 10), 1023);
        due("9 no green", twenty.find(5, 10), NONE);
        EvenTen runs = withHeaps(5, 1, 4, 5, 2, 3);
        due("9 the longer run", runs.find(2, 3), 7);
        due("9 the shorter one", runs.find(2, 2), 3);
        due("9 the one behind", runs.find(2, 1), 4);
    }

    private static void promise10() {
        EvenTen x = withHeaps(3, 1, 2, 3, 4);
        due("10 none of them", x.many(0, 0), 1);
        due("10 none, rest 1", x.many(0, 1), 0);
        due("10 one, rest 1", x.many(1, 1), 2);
        due("10 two, rest 0", x.many(2, 0), 2);
        due("10 all", x.many(4, 1), 1);
        due("10 five", x.many(5, 0), 0);
        due("10 any, rest 0", x.many(NONE, 0), 6);
        due("10 any, rest 1", x.many(NONE, 1), 6);
        due("10 any, rest 2", x.many(NONE, 2), 4);
        due("10 k below", x.many(-2, 0), OUTSIDE);
        due("10 k 21", x.many(21, 0), OUTSIDE);
        due("10 rest below", x.many(1, -1), OUTSIDE);
        due("10 rest 3", x.many(1, 3), OUTSIDE);
        EvenTen twenty = withHeaps(2, new int[20]);
        due("10 any of twenty", twenty.many(NONE, 0), 1 << 20);
        due("10 ten of twenty", twenty.many(10, 0), 184756);
        due("10 twenty", twenty.many(20, 0), 1);
    }

    private static void promise11() {
        EvenTen x = withHeaps(5, 9, 6, 4, 1, 11, 0);
        due("11 one", x.light(1, 0), 32);
        due("11 its sum", x.light(1, 1), 0);
        due("11 two", x.light(2, 0), 12);
        due("11 its sum", x.light(2, 1), 5);
        due("11 three", x.light(3, 0), 44);
        due("11 four", x.light(4, 0), 15);
        due("11 its sum", x.light(4, 1), 20);
        due("11 seven", x.light(7, 1), NONE);
        due("11 seven", x.light(7, 0), NONE);
        due("11 k 0", x.light(0, 0), OUTSIDE);
        due("11 k 21", x.light(21, 0), OUTSIDE);
        due("11 what 2", x.light(1, 2), OUTSIDE);
        due("11 what below", x.light(1, -1), OUTSIDE);
        EvenTen same = withHeaps(4, 2, 3, 1, 2, 3, 1);
        due("11 the first of several", same.light(2, 0), 9);
        due("11 none of no heaps", new EvenTen().light(1, 0), NONE);
        EvenTen great = after("heap 999999999999999 r;heap 999999999999991 r");
        due("11 beyond int", great.light(2, 1), 1999999999999990L);
        EvenTen twenty = withHeaps(10, 1, 1, 1, 1, 1, 1, 1, 1, 1, 1, 1, 1, 1, 1, 1, 1, 1, 1, 1, 1);
        due("11 all of twenty", twenty.light(20, 0), (1 << 20) - 1);
        due("11 their sum", twenty.light(20, 1), 20);
    }

    private static void promise12() {
        EvenTen x = after("parts 2;heap 1 r 0 9;heap 1 r 0 1;heap 1 r 0 5;heap 1 r 0 1;heap 2 r 0 99");
        due("12 two", x.cheap(2, 0), 10);
        due("12 its cost", x.cheap(2, 1), 2);
        due("12 one", x.cheap(1, 0), 16);
        due("12 its cost", x.cheap(1, 1), 99);
        due("12 three", x.cheap(3, 0), 26);
        due("12 four", x.cheap(4, 1), 16);
        due("12 five", x.cheap(5, 1), 115);
        due("12 six", x.cheap(6, 1), NONE);
        due("12 k 0", x.cheap(0, 0), OUTSIDE);
        due("12 k 21", x.cheap(21, 0), OUTSIDE);
        due("12 what 2", x.cheap(1, 2), OUTSIDE);
        due("12 what below", x.cheap(1, -1), OUTSIDE);
        due("12 the first of several", withHeaps(2, 1, 2, 1, 1).cheap(2, 0), 5);
    }

    private static void promise13() {
        EvenTen x = withHeaps(7, 3, 5, 6, 7);
        due("13 none", x.mends(0), 0);
        due("13 3", x.mends(1), 4);
        due("13 8", x.mends(3), 6);
        due("13 14", x.mends(7), 0);
        due("13 7", x.mends(8), 0);
        due("13 unknown", x.mends(16), UNKNOWN);
        due("13 below", x.mends(-1), UNKNOWN);
    }

    private static void promise14() {
        EvenTen x = withHeaps(5, 1, 2, 3, 8, 4);
        due("14 gives", x.swap(3, 0), 0);
        due("14 gets", x.swap(3, 1), 2);
        due("14 gives the second", x.swap(9, 0), 0);
        due("14 for the third", x.swap(9, 1), 1);
        due("14 none gives", x.swap(19, 0), NONE);
        due("14 no exchange", x.swap(4, 0), NONE);
        due("14 even", x.swap(6, 0), NONE);
        due("14 empty", x.swap(0, 1), NONE);
        due("14 unknown", x.swap(32, 2), UNKNOWN);
        due("14 below", x.swap(-1, 0), UNKNOWN);
        due("14 what 2", x.swap(3, 2), OUTSIDE);
        due("14 what below", x.swap(3, -1), OUTSIDE);
        due("14 outside goes ahead of none", x.swap(6, 2), OUTSIDE);
        EvenTen second = withHeaps(10, 5, 2, 5, 5);
        due("14 the one that can", second.swap(3, 0), 1);
        due("14 the least for it", second.swap(3, 1), 2);
    }

    private static void promise15() {
        EvenTen x = new EvenTen();
        due("15 2 of 3", x.always(2, 3, 2), 1);
        due("15 2 of 2", x.always(2, 2, 2), 0);
        due("15 odd", x.always(2, 9, 3), 0);
        due("15 none", x.always(3, 0, 1), 0);
        due("15 fewer than k", x.always(3, 8, 9), 0);
        due("15 by 3, 9 of 9", x.always(3, 9, 9), 0);
        due("15 parts 1", x.always(1, 1, 1), OUTSIDE);
        due("15 parts 6", x.always(6, 1, 1), OUTSIDE);
        due("15 m below", x.always(2, -1, 1), OUTSIDE);
        due("15 m 10", x.always(2, 10, 1), OUTSIDE);
        due("15 k 0", x.always(2, 1, 0), OUTSIDE);
        due("15 k 10", x.always(2, 9, 10), OUTSIDE);
        due("15 whatever the parts are", withHeaps(10, 1, 2).always(5, 9, 5), 1);
    }

    private static void promise16() {
        EvenTen x = new EvenTen();
        int[][] needs = {
            {2, 2, 3}, {2, 4, 5}, {2, 6, 7}, {2, 8, 9}, {3, 3, 5}, {3, 6, 8}, {4, 4, 7},
            {5, 5, 9}, {2, 1, NONE}, {3, 9, NONE}, {4, 8, NONE}, {5, 9, NONE}, {3, 2, NONE}
        };
        for (int[] need : needs) {
            due("16 by " + need[0] + ", " + need[1], x.need(need[0], need[1]), need[2]);
        }
        due("16 parts 1", x.need(1, 1), OUTSIDE);
        due("16 parts 6", x.need(6, 1), OUTSIDE);
        due("16 k 0", x.need(2, 0), OUTSIDE);
        due("16 k 10", x.need(2, 10), OUTSIDE);
    }

    private static void promise17() {
        EvenTen x = new EvenTen();
        int[] four = {22, 202, 220};
        for (int i = 0; i < 3; i++) {
            due("17 by 3, 4, 3, " + i, x.worst(3, 4, 3, i), four[i]);
        }
        due("17 no fourth", x.worst(3, 4, 3, 3), NONE);
        due("17 far behind", x.worst(3, 4, 3, HIGH), NONE);
        due("17 how many", x.worst(3, 4, 3, NONE), 3);
        due("17 none", x.worst(3, 5, 3, NONE), 0);
        due("17 no first", x.worst(3, 5, 3, 0), NONE);
        due("17 of none", x.worst(5, 0, 9, 0), 0);
        due("17 all multisets", x.worst(5, 8, 9, NONE), 495);
        due("17 the first", x.worst(5, 8, 9, 0), 8);
        due("17 the last", x.worst(5, 8, 9, 494), 80000);
        due("17 singles", x.worst(2, 9, 1, 0), 90);
        due("17 parts 1", x.worst(1, 1, 1, 0), OUTSIDE);
        due("17 parts 6", x.worst(6, 1, 1, 0), OUTSIDE);
        due("17 m below", x.worst(2, -1, 1, 0), OUTSIDE);
        due("17 m 10", x.worst(2, 10, 1, 0), OUTSIDE);
        due("17 k 0", x.worst(2, 1, 0, 0), OUTSIDE);
        due("17 k 10", x.worst(2, 1, 10, 0), OUTSIDE);
        due("17 i below", x.worst(2, 1, 1, -2), OUTSIDE);
        due("17 i low", x.worst(2, 1, 1, LOW), OUTSIDE);
    }

    private static void promise18() {
        EvenTen x = withHeaps(5, 1, 3, 1, 2, 5);
        due("18 one", x.come(1), 5);
        due("18 two", x.come(2), 4);
        due("18 three", x.come(3), 3);
        due("18 four", x.come(4), 5);
        due("18 six", x.come(6), NONE);
        due("18 k 0", x.come(0), OUTSIDE);
        due("18 k 21", x.come(21), OUTSIDE);
        due("18 twenty", withHeaps(2, new int[20]).come(20), 20);
    }

    private static void promise19() {
        EvenTen x = withHeaps(2, 1, 1, 1, 2, 2);
        due("19 one", x.badly(1), 3);
        due("19 two", x.badly(2), 2);
        due("19 three", x.badly(3), 3);
        due("19 four", x.badly(4), 4);
        due("19 six", x.badly(6), 5);
        due("19 k 0", x.badly(0), OUTSIDE);
        due("19 k 21", x.badly(21), OUTSIDE);
        due("19 by 6", withHeaps(6, 1, 2).badly(1), 2);
        due("19 by 7", withHeaps(7, 1, 2).badly(1), NOT);
        due("19 outside goes ahead", withHeaps(7, 1, 2).badly(0), OUTSIDE);
        due("19 no heaps", withHeaps(6).badly(1), 0);
        due("19 twenty", withHeaps(6, new int[20]).badly(20), 19);
        due("19 k less one", withHeaps(6, new int[20]).badly(3), 2);
        int[] two = {0, 0, 0, 0, 0, 0, 0, 0, 0, 0, 1, 1, 1, 1, 1, 1, 1, 1, 1, 1};
        due("19 twice five less two", withHeaps(5, two).badly(5), 8);
    }

    private static void promise20() {
        EvenTen x = withHeaps(4, 1, 2, 3, 2, 4);
        due("20 two", x.apart(2, NONE), 2);
        due("20 the first", x.apart(2, 0), 5);
        due("20 the second", x.apart(2, 1), 10);
        due("20 no third", x.apart(2, 2), NONE);
        due("20 one", x.apart(1, 0), 16);
        due("20 four", x.apart(4, NONE), 1);
        due("20 six", x.apart(6, NONE), 0);
        due("20 none of six", x.apart(6, 0), NONE);
        due("20 far", x.apart(2, HIGH), NONE);
        due("20 k 0", x.apart(0, 0), OUTSIDE);
        due("20 k 21", x.apart(21, 0), OUTSIDE);
        due("20 i below", x.apart(2, -2), OUTSIDE);
        EvenTen twelve = withHeaps(2, new int[12]);
        due("20 twelve", twelve.apart(1, NONE), 12);
        due("20 the last", twelve.apart(1, 11), 2048);
        due("20 fives", twelve.apart(5, 1), 31 << 5);
        EvenTen thirteen = withHeaps(2, new int[13]);
        due("20 thirteen", thirteen.apart(1, NONE), NOT);
        due("20 outside goes ahead", thirteen.apart(0, NONE), OUTSIDE);
        // The first LOT of all, {0, 1, 2}, leaves no second one.
        EvenTen gives = withHeaps(10, 0, 1, 9, 2, 8, 3, 6);
        due("20 the first lot of all", gives.find(0, 3), 7);
        due("20 two apart", gives.apart(3, NONE), 2);
        due("20 the first that leaves one", gives.apart(3, 0), 25);
        due("20 the one left", gives.apart(3, 1), 98);
    }

    private static void promise21() {
        EvenTen x = withHeaps(3, 1, 2, 3);
        due("21 one", x.turns(1, 0), 2);
        due("21 the even one", x.turns(1, 1), 2);
        due("21 two", x.turns(2, 0), 1);
        due("21 any", x.turns(2, 1), 0);
        due("21 no heaps", new EvenTen().turns(20, 0), 1);
        due("21 none", new EvenTen().turns(1, 1), NONE);
        EvenTen lost = withHeaps(10, 1, 9, 5, 5);
        due("21 pairs", lost.turns(2, 0), 1);
        due("21 pairs, the heap", lost.turns(2, 1), 0);
        due("21 k 0", x.turns(0, 0), OUTSIDE);
        due("21 k 21", x.turns(21, 0), OUTSIDE);
        due("21 what 2", x.turns(1, 2), OUTSIDE);
        due("21 what below", x.turns(1, -1), OUTSIDE);
        EvenTen eight = withHeaps(2, 0, 0, 0, 0, 0, 0, 0, 0);
        due("21 eight", eight.turns(4, 0), 2);
        due("21 five", eight.turns(5, 0), 1);
        EvenTen nine = withHeaps(2, 0, 0, 0, 0, 0, 0, 0, 0, 0);
        due("21 nine", nine.turns(1, 0), NOT);
        due("21 outside goes ahead", nine.turns(1, 2), OUTSIDE);
        // The fourth heap alone threatens with two others at once.
        EvenTen threat = withHeaps(7, 5, 3, 5, 2, 0);
        due("21 two threats", threat.turns(2, 0), 2);
        due("21 the fourth heap", threat.turns(2, 1), 3);
    }

    private static void promise22() {
        EvenTen x = withHeaps(5, 1, 2, 3);
        due("22 unknown", x.sale(8), UNKNOWN);
        due("22 below", x.sale(-1), UNKNOWN);
        for (int row = 1; row <= 12; row++) {
            due("22 row " + row, x.sale(row % 8), row);
        }
        due("22 full", x.sale(1), FULL);
        due("22 unknown goes ahead of full", x.sale(8), UNKNOWN);
        due("22 twelve", x.count(3), 12);
    }

    private static void promise23() {
        EvenTen x = withHeaps(5, 1, 4, 3);
        due("23 none", x.burn(), 0);
        x.sale(1);
        x.sale(2);
        due("23 two", x.burn(), 2);
        due("23 none left", x.count(3), 0);
        due("23 again from one", x.sale(3), 1);
        due("23 that row alone", x.judge(2), NONE);
    }

    private static void promise24() {
        EvenTen x = withHeaps(5, 1, 4, 2, 3, 4, 6);
        due("24 none", x.judge(20), NONE);
        x.sale(3);
        x.sale(12);
        due("24 good", x.judge(2), NONE);
        due("24 no tens of 3", x.judge(3), 0);
        x.sale(32);
        due("24 one heap too few", x.judge(2), 2);
        x.burn();
        x.sale(5);
        due("24 not even", x.judge(2), 0);
        x.burn();
        x.sale(3);
        x.sale(48);
        due("24 still good", x.judge(2), NONE);
        x.sale(17);
        due("24 sold ahead", x.judge(2), 2);
        x.sale(0);
        due("24 the first of them", x.judge(2), 2);
        due("24 k 0", x.judge(0), OUTSIDE);
        due("24 k 21", x.judge(21), OUTSIDE);
    }

    private static void promises25And26() {
        EvenTen x = withHeaps(5, 1, 4, 3);
        due("25 unknown", x.keep(2), UNKNOWN);
        due("25 below", x.keep(-1), UNKNOWN);
        due("26 unknown", x.back(2), UNKNOWN);
        due("26 below", x.back(-1), UNKNOWN);
        due("26 nothing", x.back(0), NOT);
        x.sale(3);
        x.sale(4);
        due("25 keep", x.keep(1), 3);
        due("26 not the other one", x.back(0), NOT);
        x.burn();
        due("25 keep none", x.keep(0), 3);
        x.sale(7);
        x.sale(7);
        x.sale(7);
        put(x, "swe");
        due("26 back", x.back(1), 3);
        due("26 sales", x.count(3), 2);
        due("26 the text stays", x.count(2), 3);
        due("26 parts", x.count(1), 5);
        due("26 rows", x.judge(2), 1);
        x.burn();
        x.sale(6);
        due("26 back again", x.back(1), 3);
        due("26 rows as kept", x.judge(2), 1);
        due("26 the other one", x.back(0), 3);
        due("26 no sales", x.count(3), 0);
        x.erase();
        put(x, "sweep");
        x.market();
        due("26 since the last text", x.back(0), NOT);
        due("26 since the last text", x.back(1), NOT);
        due("25 no heaps", x.keep(1), 0);
        due("26 no heaps", x.back(1), 0);
    }

    private static void promise27() {
        EvenTen x = withHeaps(4, 1, 2, 3);
        put(x, "sweep");
        x.sale(1);
        x.sale(2);
        due("27 heaps", x.count(0), 3);
        due("27 parts", x.count(1), 4);
        due("27 bytes", x.count(2), 5);
        due("27 sales", x.count(3), 2);
        due("27 what 4", x.count(4), OUTSIDE);
        due("27 what below", x.count(-1), OUTSIDE);
    }

    public static void main(String[] args) {
        promise1();
        promise2();
        promise3();
        promise4Words();
        promise4Parts();
        promise4Heaps();
        promise4Away();
        promise5();
        promise6();
        promise7();
        promise8();
        promise9();
        promise10();
        promise11();
        promise12();
        promise13();
        promise14();
        promise15();
        promise16();
        promise17();
        promise18();
        promise19();
        promise20();
        promise21();
        promise22();
        promise23();
        promise24();
        promises25And26();
        promise27();
        end();
    }
}
