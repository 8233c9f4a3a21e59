import java.util.ArrayList;
import java.util.List;

/** What is refused, in which order, and that nothing changes by it; no call throws, 512 of them. */
public final class EvenTenRefusals extends Telling {
    /** A call on an object, with what it must answer. */
    private interface Call {
        long on(EvenTen x);
    }

    private record Refused(String told, Call call, long due) { }

    private static final List<Refused> ALL = new ArrayList<>();

    private static void refused(String told, long due, Call call) {
        ALL.add(new Refused(told, call, due));
    }

    /** Three heaps, ten parts, full sales, two images and a full text with a fault. */
    private static EvenTen full() {
        EvenTen x = after("heap 1 r 2 3;heap 9 g 8 7;heap 999999999999999 b 999 99");
        x.sale(3);
        x.keep(0);
        x.sale(4);
        x.keep(1);
        for (int row = 2; row < 12; row++) {
            x.sale(row % 8);
        }
        put(x, "parts 3;sweep;heap 4 y" + " ".repeat(177) + "x");
        due("a full text", x.count(2), 200);
        return x;
    }

    /** All that can be seen of an object without a change, in a row. */
    private static List<Long> seen(EvenTen x) {
        List<Long> seen = new ArrayList<>();
        for (int what = 0; what < 4; what++) {
            seen.add((long) x.count(what));
        }
        for (int heap = 0; heap <= x.count(0); heap++) {
            for (int what = 0; what < 6; what++) {
                seen.add(x.heap(heap, what));
            }
        }
        for (int k = 1; k <= 3; k++) {
            seen.add((long) x.judge(k));
        }
        seen.add((long) x.fault());
        return seen;
    }

    /** What an object comes to: its images, and its text, once it is mended. */
    private static List<Long> comesTo(EvenTen x) {
        List<Long> all = new ArrayList<>(seen(x));
        for (int image = 0; image < 2; image++) {
            all.add((long) x.back(image));
            all.addAll(seen(x));
        }
        all.add((long) x.erase());
        all.add((long) put(x, "heap 5 y 6"));
        all.add((long) x.market());
        all.addAll(seen(x));
        return all;
    }

    private static void gatherRefused() {
        for (int n : new int[] {LOW, -1, 0, 9, HIGH}) {
            refused("write(0, " + n + ")", OUTSIDE, x -> x.write(0, n));
        }
        refused("write(0, 1)", FULL, x -> x.write(0, 1));
        refused("write(0, 8)", FULL, x -> x.write(0, 8));
        refused("market()", NOT, EvenTen::market);
        for (int k : new int[] {LOW, -1, 0, 21, HIGH}) {
            refused("as, k " + k, OUTSIDE, x -> x.as(0, 0, 0, k));
            refused("find, k " + k, OUTSIDE, x -> x.find(0, k));
            refused("light, k " + k, OUTSIDE, x -> x.light(k, 0));
            refused("cheap, k " + k, OUTSIDE, x -> x.cheap(k, 0));
            refused("come, k " + k, OUTSIDE, x -> x.come(k));
            refused("badly, k " + k, OUTSIDE, x -> x.badly(k));
            refused("apart, k " + k, OUTSIDE, x -> x.apart(k, 0));
            refused("turns, k " + k, OUTSIDE, x -> x.turns(k, 0));
            refused("judge, k " + k, OUTSIDE, x -> x.judge(k));
        }
        for (int lot : new int[] {LOW, -1, 8, 1 << 20, HIGH}) {
            refused("rest, lot " + lot, UNKNOWN, x -> x.rest(lot, 0));
            refused("as, lot " + lot, UNKNOWN, x -> x.as(0, 0, lot, 1));
            refused("mends, lot " + lot, UNKNOWN, x -> x.mends(lot));
            refused("swap, lot " + lot, UNKNOWN, x -> x.swap(lot, 0));
            refused("sale, lot " + lot, UNKNOWN, x -> x.sale(lot));
        }
        refused("sale(1)", FULL, x -> x.sale(1));
        refused("badly(1)", NOT, x -> x.badly(1));
    }

    private static void gatherMoreRefused() {
        for (int no : new int[] {LOW, -2, 32, HIGH}) {
            refused("heap " + no, UNKNOWN, x -> x.heap(no, 0));
            refused("heap, what " + no, OUTSIDE, x -> x.heap(0, no));
            refused("rest, what " + no, OUTSIDE, x -> x.rest(0, no));
            refused("as, kind " + no, UNKNOWN, x -> x.as(no, 0, 0, 1));
            refused("as, as " + no, OUTSIDE, x -> x.as(0, no, 0, 1));
            refused("find, kind " + no, UNKNOWN, x -> x.find(no, 1));
            refused("many, k " + no, OUTSIDE, x -> x.many(no, 0));
            refused("many, rest " + no, OUTSIDE, x -> x.many(1, no));
            refused("light, what " + no, OUTSIDE, x -> x.light(1, no));
            refused("cheap, what " + no, OUTSIDE, x -> x.cheap(1, no));
            refused("swap, what " + no, OUTSIDE, x -> x.swap(0, no));
            refused("always, parts " + no, OUTSIDE, x -> x.always(no, 1, 1));
            refused("always, m " + no, OUTSIDE, x -> x.always(2, no, 1));
            refused("always, k " + no, OUTSIDE, x -> x.always(2, 1, no));
            refused("need, parts " + no, OUTSIDE, x -> x.need(no, 1));
            refused("need, k " + no, OUTSIDE, x -> x.need(2, no));
            refused("worst, parts " + no, OUTSIDE, x -> x.worst(no, 1, 1, 0));
            refused("worst, m " + no, OUTSIDE, x -> x.worst(2, no, 1, 0));
            refused("worst, k " + no, OUTSIDE, x -> x.worst(2, 1, no, 0));
            refused("turns, what " + no, OUTSIDE, x -> x.turns(1, no));
            refused("keep " + no, UNKNOWN, x -> x.keep(no));
            refused("back " + no, UNKNOWN, x -> x.back(no));
            refused("count " + no, OUTSIDE, x -> x.count(no));
        }
        refused("as(0, 3, 0, 1)", NOT, x -> x.as(0, 3, 0, 1));
        refused("worst, i -2", OUTSIDE, x -> x.worst(2, 1, 1, -2));
        refused("worst, i low", OUTSIDE, x -> x.worst(2, 1, 1, LOW));
        refused("apart, i -2", OUTSIDE, x -> x.apart(1, -2));
        refused("apart, i low", OUTSIDE, x -> x.apart(1, LOW));
    }

    private static void nothingChanges() {
        sentence("Refused, and nothing changes");
        List<Long> before = comesTo(full());
        List<Long> seen = seen(full());
        for (Refused one : ALL) {
            EvenTen x = full();
            due(one.told, one.call.on(x), one.due);
            due("no change by " + one.told, seen(x).equals(seen) ? 1 : 0, 1);
            due("nor later by " + one.told, comesTo(x).equals(before) ? 1 : 0, 1);
        }
        EvenTen x = full();
        for (Refused one : ALL) {
            due(one.told + " among all", one.call.on(x), one.due);
        }
        due("no change by all", comesTo(x).equals(before) ? 1 : 0, 1);
    }

    private static void tooManyHeapsChangeNothing() {
        sentence("NOT (not now: too many HEAPS, PARTS; as told)");
        EvenTen x = alike(7, 13, 1);
        List<Long> seen = seen(x);
        due("apart of 13", x.apart(1, NONE), NOT);
        due("apart of 13", x.apart(1, 0), NOT);
        due("turns of 13", x.turns(1, 0), NOT);
        due("badly by 7", x.badly(1), NOT);
        due("back", x.back(0), NOT);
        due("no change", seen(x).equals(seen) ? 1 : 0, 1);
        tell(x, "parts 6;away 12");
        due("apart of 12", x.apart(1, NONE), 0);
        due("badly by 6", x.badly(1), 12);
        due("turns of 12", x.turns(1, 0), NOT);
    }

    private static void theFirstThatFits() {
        sentence("UNKNOWN (no such HEAP, KIND; a LOT with such), OUTSIDE (another number is not "
            + "as told), NOT (not now: too many HEAPS, PARTS; as told), FULL: "
            + "the first of these that fits.");
        EvenTen x = full();
        due("write: outside, full", x.write(0, 9), OUTSIDE);
        due("heap: unknown, outside", x.heap(3, 6), UNKNOWN);
        due("rest: unknown, outside", x.rest(8, 3), UNKNOWN);
        due("as: kind, as", x.as(8, 7, 0, 1), UNKNOWN);
        due("as: lot, k", x.as(0, 0, 8, 0), UNKNOWN);
        due("as: lot, not", x.as(0, 3, 8, 1), UNKNOWN);
        due("as: kind, lot, as, k", x.as(-1, -1, -1, -1), UNKNOWN);
        due("as: k, not", x.as(0, 3, 0, 21), OUTSIDE);
        due("find: unknown, outside", x.find(8, 21), UNKNOWN);
        due("swap: unknown, outside", x.swap(8, 2), UNKNOWN);
        due("badly: outside, not", x.badly(21), OUTSIDE);
        due("sale: unknown, full", x.sale(8), UNKNOWN);
        due("back: unknown, not", new EvenTen().back(2), UNKNOWN);
        EvenTen many = alike(7, 13, 1);
        due("apart: k, not", many.apart(0, 0), OUTSIDE);
        due("apart: i, not", many.apart(1, -2), OUTSIDE);
        due("turns: k, not", many.turns(0, 0), OUTSIDE);
        due("turns: what, not", many.turns(1, 2), OUTSIDE);
        due("badly: k, not", many.badly(0), OUTSIDE);
    }

    /** The dearest calls, each over and over again on one object. */
    private static void fiveHundredAndTwelveCalls() {
        sentence("An object is used for at most 512 calls after it has been made");
        EvenTen x = new EvenTen();
        for (int i = 0; i < 512; i++) {
            due("worst", x.worst(5, 9, 9, NONE), 572);
        }
        EvenTen twelve = alike(10, 12, 5);
        for (int i = 0; i < 400; i++) {
            due("apart", twelve.apart(2, 5), 3 << 10);
        }
        EvenTen eight = alike(10, 8, 5);
        for (int i = 0; i < 400; i++) {
            due("turns", eight.turns(4, 0), 2);
        }
        EvenTen twenty = withHeaps(6, 0, 1, 2, 3, 4, 5, 0, 1, 2, 3, 4, 5, 0, 1, 2, 3, 4, 5, 0, 1);
        int most = twenty.badly(6);
        due("less than twice six less one", most <= 10 ? 1 : 0, 1);
        for (int i = 0; i < 130; i++) {
            due("badly", twenty.badly(6), most);
            due("find", twenty.find(3, 20), NONE);
            due("light", twenty.light(20, 0), NONE);
        }
    }

    public static void main(String[] args) {
        gatherRefused();
        gatherMoreRefused();
        nothingChanges();
        tooManyHeapsChangeNothing();
        theFirstThatFits();
        fiveHundredAndTwelveCalls();
        end();
    }
}
