/** Each sentence with an edge in what the document says of sales, images, counts (promises 22 to 27). */
public final class EvenTenSaleSentences extends Telling {
    private static final int[] NO_IMAGES = {LOW, -2, -1, 2, 3, 32, HIGH};

    private static EvenTen sold(EvenTen x, int... lots) {
        x.burn();
        for (int lot : lots) {
            x.sale(lot);
        }
        return x;
    }

    private static void twelveRows() {
        sentence("SALES have 12 rows at most: a LOT each.");
        EvenTen x = withHeaps(10, 1, 9, 3);
        for (int row = 1; row <= 12; row++) {
            due("row " + row, x.sale(row % 8), row);
            due("rows", x.count(3), row);
        }
        due("no 13th", x.sale(1), FULL);
        due("twelve", x.count(3), 12);
        sentence("A row of SALES: how many. UNKNOWN; FULL.");
        due("unknown goes ahead of full", x.sale(8), UNKNOWN);
        due("unknown goes ahead of full", x.sale(-1), UNKNOWN);
        due("the empty lot is one", x.sale(0), FULL);
        x.burn();
        for (int lot : new int[] {LOW, -1, 8, 9, 15, 1 << 20, 1 << 30, HIGH}) {
            due("sale(" + lot + ")", x.sale(lot), UNKNOWN);
        }
        due("no row of them", x.count(3), 0);
        due("the empty lot", x.sale(0), 1);
        due("all heaps", x.sale(7), 2);
        due("twice", x.sale(7), 3);
        EvenTen none = new EvenTen();
        due("without heaps", none.sale(0), 1);
        due("no heap 0", none.sale(1), UNKNOWN);
        EvenTen twenty = alike(2, 20, 0);
        due("all of twenty", twenty.sale(TWENTY), 1);
        due("no 21st", twenty.sale(1 << 20), UNKNOWN);
        tell(twenty, "away 0");
        due("no 20th then", twenty.sale(1 << 19), UNKNOWN);
    }

    private static void burn() {
        sentence("SALES are none: how many there were.");
        EvenTen x = withHeaps(10, 1, 9);
        due("none", x.burn(), 0);
        x.sale(1);
        due("one", x.burn(), 1);
        due("none then", x.count(3), 0);
        due("none again", x.burn(), 0);
        for (int row = 0; row < 12; row++) {
            x.sale(row % 4);
        }
        x.keep(0);
        due("twelve", x.burn(), 12);
        due("none is judged", x.judge(1), NONE);
        due("room again", x.sale(3), 1);
        due("heaps stay", x.count(0), 2);
        due("the image stays", x.back(0), 2);
        due("with its rows", x.count(3), 12);
    }

    private static void judge() {
        sentence("JUDGED by k: the first that is no TEN of k, or has a HEAP that was sold "
            + "in a row ahead; none.");
        EvenTen x = withHeaps(10, 1, 9, 2, 8, 5, 5, 10);
        due("no rows", sold(x).judge(2), NONE);
        due("one good row", sold(x, 3).judge(2), NONE);
        due("too few heaps", sold(x, 64).judge(2), 0);
        due("too many heaps", sold(x, 15).judge(2), 0);
        due("not even", sold(x, 5).judge(2), 0);
        due("the empty lot", sold(x, 0).judge(1), 0);
        due("three good rows", sold(x, 48, 3, 12).judge(2), NONE);
        due("a bad one behind", sold(x, 48, 3, 12, 64).judge(2), 3);
        due("a heap sold just ahead", sold(x, 3, 3).judge(2), 1);
        due("a heap sold far ahead", sold(x, 3, 12, 48, 12).judge(2), 3);
        due("the first of two bad ones", sold(x, 3, 64, 3).judge(2), 1);
        due("by another k", sold(x, 3, 12).judge(1), 0);
        due("all seven", sold(x, 127).judge(7), NONE);
        due("the last of twelve", sold(alike(2, 20, 0), 1, 2, 4, 8, 16, 32, 64, 128, 256, 512, 1024,
            1).judge(1), 11);
        due("twelve good ones", sold(alike(2, 20, 0), 1, 2, 4, 8, 16, 32, 64, 128, 256, 512, 1024,
            1 << 19).judge(1), NONE);
        due("twenty", sold(alike(2, 20, 0), TWENTY).judge(20), NONE);
        sentence("JUDGED: the row (from 0); NONE. OUTSIDE: k.");
        for (int k : new int[] {LOW, -1, 0, 21, 22, HIGH}) {
            due("k " + k, sold(x, 3).judge(k), OUTSIDE);
            due("k " + k + " without rows", sold(x).judge(k), OUTSIDE);
        }
        due("k 1", sold(x, 64).judge(1), NONE);
        due("k 20", sold(x, 64).judge(20), 0);
        due("k 20 without rows", sold(x).judge(20), NONE);
    }

    private static void keep() {
        sentence("HEAPS, PARTS, SALES are kept (k 0, 1): how many HEAPS. UNKNOWN: no such k.");
        EvenTen x = new EvenTen();
        due("no heaps", x.keep(0), 0);
        due("no heaps", x.back(0), 0);
        EvenTen twenty = alike(2, 20, 0);
        due("twenty", twenty.keep(1), 20);
        due("twenty", twenty.back(1), 20);
        for (int k : NO_IMAGES) {
            due("keep(" + k + ")", twenty.keep(k), UNKNOWN);
        }
        due("no other one for that", twenty.back(0), NOT);
        twenty.sale(1);
        due("kept anew", twenty.keep(1), 20);
        twenty.burn();
        twenty.back(1);
        due("the newer one", twenty.count(3), 1);
    }

    private static void back() {
        sentence("They are as they were kept: how many HEAPS.");
        EvenTen x = after("parts 5;heap 6 g 7 8;heap 9 b 1 2");
        sold(x, 3, 1).keep(0);
        sold(x, 2, 0, 1).keep(1);
        sold(x, 0, 0, 0, 0);
        put(x, "swe");
        due("the first image", x.back(0), 2);
        due("its rows", x.count(3), 2);
        due("its first row is good", x.judge(2), 1);
        due("its parts", x.count(1), 5);
        due("its heap 0", x.heap(0, 0), 6);
        due("its heap 1", x.heap(1, 3), 2);
        due("the text is none of it", x.count(2), 3);
        x.sale(0);
        x.sale(0);
        due("as it was kept", x.back(0), 2);
        due("two rows", x.count(3), 2);
        due("the second image", x.back(1), 2);
        due("three rows", x.count(3), 3);
        due("the first is none of 2", x.judge(2), 0);
        sold(x).keep(0);
        sold(x, 1, 2).back(0);
        due("no rows", x.count(3), 0);
        sold(x, 0, 0, 0, 0, 0, 0, 0, 0, 0, 0, 0, 3).keep(1);
        sold(x, 1).back(1);
        due("twelve rows", x.count(3), 12);
        due("full again", x.sale(0), FULL);
    }

    private static void backRefused() {
        sentence("UNKNOWN; NOT: nothing was kept since the last text.");
        EvenTen x = withHeaps(10, 1, 9);
        for (int k : NO_IMAGES) {
            due("back(" + k + ")", x.back(k), UNKNOWN);
        }
        due("nothing yet", x.back(0), NOT);
        due("nothing yet", x.back(1), NOT);
        x.keep(0);
        due("not this one", x.back(1), NOT);
        x.keep(1);
        for (int k : NO_IMAGES) {
            due("back(" + k + ")", x.back(k), UNKNOWN);
        }
        put(x, "sweep;");
        due("a fault", x.market(), NOT);
        due("is no last text", x.back(0), 2);
        x.erase();
        due("nor is what is erased", x.back(1), 2);
        tell(x, "parts 10");
        due("not since the last text", x.back(0), NOT);
        due("not since the last text", x.back(1), NOT);
        x.sale(3);
        due("refused", x.back(0), NOT);
        due("so the row stays", x.count(3), 1);
        due("kept since", x.keep(1), 2);
        due("so back", x.back(1), 2);
        due("not the other one", x.back(0), NOT);
    }

    private static void count() {
        sentence("0 HEAPS, 1 PARTS, 2 bytes of THE TEXT, 3 SALES. OUTSIDE.");
        EvenTen x = withHeaps(7, 1, 2, 3);
        put(x, "swe");
        sold(x, 1, 2);
        int[] due = {3, 7, 3, 2};
        for (int what = 0; what < 4; what++) {
            due("count(" + what + ")", x.count(what), due[what]);
        }
        for (int what : new int[] {LOW, -1, 4, 5, HIGH}) {
            due("count(" + what + ")", x.count(what), OUTSIDE);
        }
    }

    public static void main(String[] args) {
        twelveRows();
        burn();
        judge();
        keep();
        back();
        backRefused();
        count();
        end();
    }
}
