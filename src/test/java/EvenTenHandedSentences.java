/**
 * Each sentence with an edge in what the document says of whatever heaps, of heaps that come, of
 * lots apart and of turns (promises 15 to 21).
 */
public final class EvenTenHandedSentences extends Telling {
    private static final int[] NO_PARTS = {LOW, -1, 0, 1, 6, 7, 10, HIGH};
    private static final int[] NO_HANDS = {LOW, -2, -1, 10, 11, HIGH};
    private static final int[] NO_NINE = {LOW, -1, 0, 10, 11, 20, HIGH};
    private static final int[] NO_SIZES = {LOW, -1, 0, 21, 22, HIGH};

    private static void restsByParts() {
        sentence("HERE KINDS do not matter; RESTS by N (2 .. 5) that is told.");
        EvenTen x = withHeaps(10, 1, 1);
        for (int parts = 2; parts <= 5; parts++) {
            due("twice " + parts + " less 1", x.always(parts, 2 * parts - 1, parts), 1);
            due("twice " + parts + " less 2", x.always(parts, 2 * parts - 2, parts), 0);
        }
        for (int parts : NO_PARTS) {
            due("always by " + parts, x.always(parts, 9, 2), OUTSIDE);
            due("need by " + parts, x.need(parts, 2), OUTSIDE);
            due("worst by " + parts, x.worst(parts, 9, 2, NONE), OUTSIDE);
            due("worst by " + parts, x.worst(parts, 9, 2, 0), OUTSIDE);
        }
        due("the parts there are stay", x.count(1), 10);
    }

    private static void always() {
        sentence("ALWAYS: any m HEAPS (0 .. 9) have TEN of k (1 .. 9).");
        EvenTen x = new EvenTen();
        due("none of none", x.always(2, 0, 1), 0);
        due("nine have eight", x.always(2, 9, 8), 1);
        due("eight have not", x.always(2, 8, 8), 0);
        due("nine of nine", x.always(2, 9, 9), 0);
        due("nine by 5", x.always(5, 9, 9), 0);
        for (int m = 0; m <= 9; m++) {
            due("a single one of " + m, x.always(2, m, 1), 0);
            due("fewer than k", x.always(5, m, Math.min(9, m + 1)), 0);
            due("three by 3 of " + m, x.always(3, m, 3), m >= 5 ? 1 : 0);
        }
        sentence("ALWAYS: 1, 0. OUTSIDE: N, m, k.");
        for (int m : NO_HANDS) {
            due("m " + m, x.always(2, m, 2), OUTSIDE);
        }
        for (int k : NO_NINE) {
            due("k " + k, x.always(2, 9, k), OUTSIDE);
        }
    }

    private static void need() {
        sentence("NEED: the fewest m (9 at most) by which it is ALWAYS so; none.");
        EvenTen x = new EvenTen();
        int[][] due = {
            {NONE, 3, NONE, 5, NONE, 7, NONE, 9, NONE},
            {NONE, NONE, 5, NONE, NONE, 8, NONE, NONE, NONE},
            {NONE, NONE, NONE, 7, NONE, NONE, NONE, NONE, NONE},
            {NONE, NONE, NONE, NONE, 9, NONE, NONE, NONE, NONE}
        };
        for (int parts = 2; parts <= 5; parts++) {
            for (int k = 1; k <= 9; k++) {
                due("by " + parts + ", " + k, x.need(parts, k), due[parts - 2][k - 1]);
            }
        }
        sentence("NEED; NONE: more than 9. OUTSIDE.");
        due("nine", x.need(5, 5), 9);
        due("eleven", x.need(4, 8), NONE);
        due("never", x.need(2, 1), NONE);
        for (int k : NO_NINE) {
            due("k " + k, x.need(2, k), OUTSIDE);
        }
    }

    private static void worst() {
        sentence("WORST: multisets of m RESTS (told as how often each comes: figures of 10, "
            + "REST 0's the lowest) that have no TEN of k: how many, the i-th as these numbers rise.");
        EvenTen x = new EvenTen();
        int[] pairs = {11, 20, 101, 200};
        due("pairs by 3", x.worst(3, 2, 2, NONE), 4);
        for (int i = 0; i < 4; i++) {
            due("pair " + i, x.worst(3, 2, 2, i), pairs[i]);
        }
        due("nine ones", x.worst(2, 9, 1, 0), 90);
        due("alone", x.worst(2, 9, 1, NONE), 1);
        due("too few for k", x.worst(2, 1, 2, 0), 1);
        due("too few for k", x.worst(2, 1, 2, 1), 10);
        due("none of none", x.worst(5, 0, 9, 0), 0);
        due("that is one", x.worst(5, 0, 9, NONE), 1);
        due("nines by 5", x.worst(5, 9, 9, NONE), 572);
        due("the first", x.worst(5, 9, 9, 0), 18);
        due("the last", x.worst(5, 9, 9, 571), 90000);
        due("behind the last", x.worst(5, 9, 9, 572), NONE);
        sentence("WORST: how many (i NONE), the i-th; NONE: there are not so many. OUTSIDE.");
        due("none", x.worst(3, 9, 3, NONE), 0);
        due("no first", x.worst(3, 9, 3, 0), NONE);
        due("no second", x.worst(2, 0, 1, 1), NONE);
        due("far behind", x.worst(5, 8, 9, 1000000), NONE);
        due("as far as can be", x.worst(5, 8, 9, HIGH), NONE);
        for (int i : new int[] {LOW, -3, -2}) {
            due("i " + i, x.worst(3, 4, 3, i), OUTSIDE);
        }
        for (int m : NO_HANDS) {
            due("m " + m, x.worst(2, m, 2, NONE), OUTSIDE);
            due("m " + m, x.worst(2, m, 2, 0), OUTSIDE);
        }
        for (int k : NO_NINE) {
            due("k " + k, x.worst(2, 9, k, NONE), OUTSIDE);
            due("k " + k, x.worst(2, 9, k, 0), OUTSIDE);
        }
    }

    private static void come() {
        sentence("HEAPS COME as they are numbered: the number of HEAPS with which a TEN of k "
            + "is there first; none.");
        EvenTen zeros = alike(10, 20, 0);
        EvenTen ones = alike(10, 20, 1);
        for (int k = 1; k <= 20; k++) {
            due("zeros, " + k, zeros.come(k), k);
            due("ones, " + k, ones.come(k), k % 10 == 0 ? k : NONE);
        }
        EvenTen x = withHeaps(10, 1, 2, 3, 8, 9, 10);
        due("one", x.come(1), 6);
        due("two", x.come(2), 4);
        due("three", x.come(3), 5);
        due("with all", withHeaps(10, 1, 2, 7).come(3), 3);
        sentence("HEAPS COME: how many; NONE. OUTSIDE: k.");
        due("without heaps", new EvenTen().come(1), NONE);
        due("more than there are", x.come(7), NONE);
        due("twenty of six", x.come(20), NONE);
        for (int k : NO_SIZES) {
            due("k " + k, x.come(k), OUTSIDE);
        }
    }

    private static void badly() {
        sentence("BADLY: the greatest number of HEAPS of those there are, "
            + "with which there is no TEN of k yet (n 6 at most).");
        EvenTen zeros = alike(6, 20, 0);
        EvenTen ones = alike(6, 20, 1);
        for (int k = 1; k <= 20; k++) {
            due("zeros, " + k, zeros.badly(k), k - 1);
            due("ones, " + k, ones.badly(k), k % 6 == 0 ? k - 1 : 20);
        }
        due("no heaps", withHeaps(6).badly(1), 0);
        due("an even one", withHeaps(2, 2).badly(1), 0);
        due("an odd one", withHeaps(2, 1).badly(1), 1);
        due("the odd ones of them", withHeaps(2, 2, 1, 2, 1).badly(1), 2);
        due("one of each", withHeaps(2, 2, 1, 2, 1).badly(2), 2);
        due("all but one", withHeaps(5, 1, 2, 3, 4).badly(4), 3);
        due("all", withHeaps(5, 1, 2, 3, 3).badly(4), 4);
        EvenTen five = withHeaps(6, 0, 0, 0, 0, 0, 0, 0, 0, 1, 1, 1, 1, 1, 1, 1, 1);
        due("five of each", five.badly(6), 10);
        sentence("BADLY. OUTSIDE: k; NOT: n above 6.");
        EvenTen x = withHeaps(2, 1, 2);
        for (int parts = 2; parts <= 10; parts++) {
            tell(x, "parts " + parts);
            due("by " + parts, x.badly(3), parts <= 6 ? 2 : NOT);
            for (int k : NO_SIZES) {
                due("k " + k + " by " + parts, x.badly(k), OUTSIDE);
            }
        }
        due("without heaps", new EvenTen().badly(1), NOT);
    }

    private static void apart() {
        sentence("APART (12 HEAPS at most): the most TENS of k that share no HEAP; a row of as many: "
            + "the first one of them (by the first LOT, then the next).");
        EvenTen zeros = alike(2, 12, 0);
        for (int k = 1; k <= 20; k++) {
            due("zeros, " + k, zeros.apart(k, NONE), 12 / k);
            for (int i = 0; i < 12 / k; i++) {
                due("zeros, " + k + ", " + i, zeros.apart(k, i), (1 << k) - 1 << k * i);
            }
            due("behind them", zeros.apart(k, 12 / k), NONE);
        }
        EvenTen x = withHeaps(10, 1, 9, 2, 8, 8);
        due("two pairs", x.apart(2, NONE), 2);
        due("the first", x.apart(2, 0), 3);
        due("the first for that", x.apart(2, 1), 12);
        // 0, 1 and 2 are the first lot of 3, but leave none; 0, 3 and 4 leave 1, 5 and 6.
        EvenTen gives = withHeaps(10, 0, 3, 7, 2, 8, 1, 6);
        due("the first lot of all", gives.find(0, 3), 7);
        due("as many as can be", gives.apart(3, NONE), 2);
        due("the first that leaves one", gives.apart(3, 0), 25);
        due("the one it leaves", gives.apart(3, 1), 98);
        EvenTen crossed = withHeaps(10, 1, 9, 1, 2, 9, 8);
        due("three", crossed.apart(2, NONE), 3);
        due("0 and 1", crossed.apart(2, 0), 3);
        due("2 and 4", crossed.apart(2, 1), 20);
        due("3 and 5", crossed.apart(2, 2), 40);
        sentence("APART: how many (i NONE), the i-th of the row; NONE: there are not so many.");
        due("without heaps", new EvenTen().apart(1, NONE), 0);
        due("no first", new EvenTen().apart(1, 0), NONE);
        due("none even", alike(2, 12, 1).apart(1, NONE), 0);
        due("no first", alike(2, 12, 1).apart(1, 0), NONE);
        due("no third", x.apart(2, 2), NONE);
        due("far behind", x.apart(2, HIGH), NONE);
        due("more than there are", x.apart(6, NONE), 0);
        due("twenty", x.apart(20, 0), NONE);
    }

    private static void apartRefused() {
        sentence("OUTSIDE: k, i below NONE; NOT: more than 12 HEAPS.");
        for (int heaps = 11; heaps <= 20; heaps++) {
            EvenTen x = alike(2, heaps, 0);
            due(heaps + " heaps", x.apart(1, NONE), heaps <= 12 ? heaps : NOT);
            due(heaps + " heaps", x.apart(1, heaps - 1), heaps <= 12 ? 1 << heaps - 1 : NOT);
            for (int k : NO_SIZES) {
                due("k " + k, x.apart(k, NONE), OUTSIDE);
                due("k " + k, x.apart(k, 0), OUTSIDE);
            }
            for (int i : new int[] {LOW, -3, -2}) {
                due("i " + i, x.apart(1, i), OUTSIDE);
            }
        }
    }

    private static void turns() {
        sentence("TURNS (8 HEAPS at most): two take a HEAP each by turns; "
            + "who first has a TEN of k among his own has won");
        EvenTen zeros = alike(2, 8, 0);
        for (int k = 1; k <= 20; k++) {
            due("zeros, " + k, zeros.turns(k, 0), k <= 4 ? 2 : 1);
            due("zeros, " + k, zeros.turns(k, 1), 0);
        }
        EvenTen seven = alike(2, 7, 0);
        due("the last heap is the first one's", seven.turns(4, 0), 2);
        due("not five", seven.turns(5, 0), 1);
        sentence("without HEAPS left nobody has");
        due("no pair", withHeaps(10, 1, 2, 3, 4).turns(2, 0), 1);
        due("a pair is parted", withHeaps(10, 1, 9, 3, 4).turns(2, 0), 1);
        due("without heaps", new EvenTen().turns(1, 0), 1);
        due("an odd one alone", withHeaps(2, 1).turns(1, 0), 1);
        sentence("what the first one comes to, if both do best: 1, 0, -1; "
            + "the least HEAP to take by which he does (none left: none).");
        due("none left", new EvenTen().turns(1, 1), NONE);
        due("none left", new EvenTen().turns(20, 1), NONE);
        due("one, even", withHeaps(2, 2).turns(1, 0), 2);
        due("that one", withHeaps(2, 2).turns(1, 1), 0);
        due("the odd one", withHeaps(2, 1).turns(1, 1), 0);
        due("the least of two", withHeaps(2, 1, 2, 2).turns(1, 1), 1);
        due("the last", withHeaps(2, 1, 1, 1, 1, 1, 1, 1, 2).turns(1, 1), 7);
        EvenTen both = withHeaps(10, 2, 9, 9, 1);
        due("1 goes with both", both.turns(2, 0), 2);
        due("so it is taken", both.turns(2, 1), 3);
        // 8 makes him take 1, then 2 goes with both 7s: a pair among three heaps.
        EvenTen three = withHeaps(9, 8, 7, 7, 1, 2);
        due("a pair among three", three.turns(2, 0), 2);
        due("from 8 on", three.turns(2, 1), 0);
    }

    private static void turnsRefused() {
        sentence("TURNS: what he comes to, and 1 (what 0), the HEAP (1; NONE). "
            + "OUTSIDE; NOT: more than 8 HEAPS.");
        for (int heaps = 7; heaps <= 20; heaps++) {
            EvenTen x = alike(2, heaps, 0);
            due(heaps + " heaps", x.turns(1, 0), heaps <= 8 ? 2 : NOT);
            due(heaps + " heaps", x.turns(20, 1), heaps <= 8 ? 0 : NOT);
            for (int k : NO_SIZES) {
                due("k " + k, x.turns(k, 0), OUTSIDE);
                due("k " + k, x.turns(k, 1), OUTSIDE);
            }
            for (int what : new int[] {LOW, -1, 2, HIGH}) {
                due("what " + what, x.turns(1, what), OUTSIDE);
            }
        }
    }

    public static void main(String[] args) {
        restsByParts();
        always();
        need();
        worst();
        come();
        badly();
        apart();
        apartRefused();
        turns();
        turnsRefused();
        end();
    }
}
