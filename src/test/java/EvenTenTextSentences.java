/** Each sentence with an edge in what the document says of heaps and texts (promises 1 to 5). */
public final class EvenTenTextSentences extends Telling {
    private static final String TEN_LINES = "sweep;sweep;sweep;sweep;sweep;sweep;sweep;sweep;sweep;sweep";

    private static void twentyHeapsAtMost() {
        sentence("HEAPS are 0, 1 .. as they come, 20 at most (none at first)");
        EvenTen x = new EvenTen();
        due("none at first", x.count(0), 0);
        due("no heap 0", x.heap(0, 0), UNKNOWN);
        for (int heap = 0; heap < 20; heap++) {
            tell(x, "heap " + (100 + heap) + " r");
            due("so many", x.count(0), heap + 1);
            due("the newest", x.heap(heap, 0), 100 + heap);
            due("the oldest", x.heap(0, 0), 100);
            due("none behind it", x.heap(heap + 1, 0), UNKNOWN);
        }
        put(x, "heap 120 r");
        due("no 21st", x.market(), NOT);
        due("twenty", x.count(0), 20);
    }

    private static void number() {
        sentence("a NUMBER (0 ..");
        due("the least", after("heap 0 r").heap(0, 0), 0);
        fault(0, "heap -1 r", 5);
        sentence("999999999999999), a SECOND");
        due("the greatest", after("heap 999999999999999 r").heap(0, 0), 999999999999999L);
        fault(0, "heap 1000000000000000 r", 5);
        fault(0, "heap 9223372036854775808 r", 5);
        fault(0, "heap 18446744073709551616 r", 5);
    }

    private static void second() {
        sentence("a SECOND (0 .. 999)");
        due("the least", after("heap 1 r 0").heap(0, 1), 0);
        due("the greatest", after("heap 1 r 999").heap(0, 1), 999);
        fault(0, "heap 1 r 1000", 9);
        fault(0, "heap 1 r -1", 9);
        fault(0, "heap 1 r 4294967296", 9);
    }

    private static void colour() {
        sentence("a COLOUR (0 .. 3, written r, g, b, y)");
        for (char letter = 'a'; letter <= 'z'; letter++) {
            int colour = "rgby".indexOf(letter);
            fault(0, "heap 1 " + letter, colour < 0 ? 7 : NONE);
            if (colour >= 0) {
                due("colour " + letter, after("heap 1 " + letter).heap(0, 2), colour);
            }
        }
        fault(0, "heap 1 0", 7);
        fault(0, "heap 1 rg", 7);
        fault(0, "heap 1 rgby", 7);
        fault(0, "heap 1 r g", 9);
        fault(0, "heap 1 R", 7);
    }

    private static void cost() {
        sentence("a COST (0 .. 99)");
        due("the least", after("heap 1 r 2 0").heap(0, 3), 0);
        due("the greatest", after("heap 1 r 2 99").heap(0, 3), 99);
        fault(0, "heap 1 r 2 100", 11);
        fault(0, "heap 1 r 2 999", 11);
        fault(0, "heap 1 r 2 -1", 11);
    }

    private static void parts() {
        sentence("PARTS are n (2 .. 10; 10 at first)");
        due("at first", new EvenTen().count(1), 10);
        for (int parts = 0; parts <= 12; parts++) {
            boolean such = parts >= 2 && parts <= 10;
            fault(0, "parts " + parts, such ? NONE : 6);
            if (such) {
                due("parts " + parts, after("parts " + parts).count(1), parts);
            }
        }
        fault(0, "parts 100", 6);
        fault(0, "parts 999", 6);
        fault(0, "parts 4294967298", 6);
    }

    private static void rest() {
        sentence("The REST of a number is what is left of it by n");
        EvenTen x = after("heap 999999999999999 r 999;heap 0 r 0;heap 10 r 10");
        for (int parts = 2; parts <= 10; parts++) {
            tell(x, "parts " + parts);
            due("of the greatest by " + parts, x.heap(0, 4), 999999999999999L % parts);
            due("of 999 by " + parts, x.heap(0, 5), 999 % parts);
            due("of 0 by " + parts, x.heap(1, 4) + x.heap(1, 5), 0);
            due("of 10 by " + parts, x.heap(2, 4), 10 % parts);
        }
    }

    private static void twoHundredBytesAtMost() {
        sentence("THE TEXT is a row of bytes, 200 at most");
        EvenTen x = new EvenTen();
        put(x, "sweep" + " ".repeat(195));
        due("200", x.count(2), 200);
        due("no 201st", x.write(' ', 1), FULL);
        due("read to its end", x.fault(), NONE);
        due("and done", x.market(), 1);
        put(x, "sweep" + " ".repeat(194) + ".");
        due("the last byte", x.fault(), 199);
        x.erase();
        put(x, " ".repeat(195) + "sweep");
        due("a word at the end", x.fault(), NONE);
        x.erase();
        put(x, " ".repeat(199) + ";");
        due("; at the end", x.fault(), 199);
        x.erase();
        put(x, "sweep;" + " ".repeat(194));
        due("the end too soon", x.fault(), 200);
    }

    private static void tenLinesAtMost() {
        sentence("LINES with ; (59) between, 10 at most");
        fault(0, "", 0);
        fault(0, "sweep", NONE);
        fault(0, TEN_LINES, NONE);
        fault(0, TEN_LINES + ";", 59);
        fault(0, TEN_LINES + ";sweep", 59);
        fault(0, TEN_LINES + " ;", 60);
        fault(0, TEN_LINES + " ", NONE);
        fault(0, ";", 0);
        fault(0, ";sweep", 0);
        fault(0, "sweep;", 6);
        fault(0, "sweep;;sweep", 6);
        fault(0, "sweep:sweep", 5);
        fault(0, "sweep<sweep", 5);
        fault(0, "sweep\nsweep", 5);
        EvenTen x = new EvenTen();
        put(x, TEN_LINES);
        due("ten are done", x.market(), 10);
    }

    private static void eachFormCutShort() {
        sentence("each is one of: parts N. heap V C. heap V C S. heap V C S P. away I. sweep.");
        fault(1, "parts", 5);
        fault(1, "parts 7", NONE);
        fault(1, "parts 7 7", 8);
        fault(1, "parts 7 r", 8);
        fault(1, "parts r", 6);
        fault(1, "heap", 4);
        fault(1, "heap r", 5);
        fault(1, "heap 7", 6);
        fault(1, "heap 7 7", 7);
        fault(1, "heap 7 r", NONE);
        fault(1, "heap 7 r r", 9);
        fault(1, "heap 7 r 7", NONE);
        fault(1, "heap 7 r 7 r", 11);
        fault(1, "heap 7 r 7 7", NONE);
        fault(1, "heap 7 r 7 7 7", 13);
        fault(1, "heap 7 r 7 7 r", 13);
        fault(1, "away", 4);
        fault(1, "away r", 5);
        fault(1, "away 0", NONE);
        fault(1, "away 0 0", 7);
        fault(1, "away 0 r", 7);
        fault(1, "sweep", NONE);
        fault(1, "sweep 0", 6);
        fault(1, "sweep sweep", 6);
        fault(1, "sale", 0);
        fault(1, "xarts 7", 0);
        fault(1, "partx 7", 0);
        fault(1, "xeap 7 r", 0);
        fault(1, "heax 7 r", 0);
        fault(1, "xway 0", 0);
        fault(1, "awax 0", 0);
        fault(1, "xweep", 0);
        fault(1, "sweex", 0);
        fault(1, "part 7", 0);
        fault(1, "partss 7", 0);
        fault(1, "heaps 7 r", 0);
        fault(1, "hea 7 r", 0);
        fault(1, "aways 0", 0);
        fault(1, "awa 0", 0);
        fault(1, "swee", 0);
        fault(1, "sweeps", 0);
        fault(1, "0", 0);
        sentence("(As written here, without points;");
        fault(1, "sweep.", 5);
        fault(1, "parts 7.", 7);
    }

    private static void notTold() {
        sentence("SECOND S (0, if it is not told), COST P (likewise)");
        EvenTen x = after("heap 1 r 8 9", "heap 2 r", "heap 3 r 7", "heap 4 r 7 6");
        long[][] due = {{8, 9}, {0, 0}, {7, 0}, {7, 6}};
        for (int heap = 0; heap < 4; heap++) {
            due("second of " + heap, x.heap(heap, 1), due[heap][0]);
            due("cost of " + heap, x.heap(heap, 3), due[heap][1]);
        }
        tell(x, "away 0;heap 5 g");
        due("none of the one before", x.heap(3, 1) + x.heap(3, 3), 0);
        tell(x, "sweep;heap 5 g");
        due("none of those swept", x.heap(0, 1) + x.heap(0, 3), 0);
        // A text with a fault may have told a second and a cost in this line.
        put(x, "heap 1 r 8 9 9");
        due("a fault", x.market(), NOT);
        x.erase();
        tell(x, "heap 6 g");
        due("none of the text erased", x.heap(1, 1) + x.heap(1, 3), 0);
    }

    private static void noTwentyFirst() {
        sentence("a 21st cannot stand there (at its word)");
        fault(18, "heap 1 r;heap 1 r", NONE);
        fault(19, "heap 1 r", NONE);
        fault(19, "heap 1 r;heap 1 r", 9);
        fault(19, "heap 1 r; heap", 10);
        fault(20, "heap 1 r", 0);
        fault(20, "heap", 0);
        fault(20, "  heap x", 2);
        fault(20, "parts 2;heap 1 r", 8);
        fault(20, "away 0;heap 1 r", NONE);
        fault(20, "away 0;heap 1 r;heap 1 r", 16);
        fault(20, "sweep;heap 1 r", NONE);
        fault(20, "parts 2", NONE);
        String ten = "heap 1 r;".repeat(10).substring(0, 89);
        fault(10, ten, NONE);
        fault(11, ten, 81);
        fault(12, ten, 72);
    }

    private static void away() {
        sentence("away: HEAP I, that there is behind the LINES ahead, is no more");
        fault(0, "away 0", 5);
        fault(1, "away 0", NONE);
        fault(1, "away 1", 5);
        fault(20, "away 19", NONE);
        fault(20, "away 20", 5);
        fault(20, "away 999", 5);
        fault(2, "away 1;away 1", 12);
        fault(2, "away 0;away 0", NONE);
        fault(2, "away 0;away 0;away 0", 19);
        fault(0, "heap 1 r;away 0", NONE);
        fault(0, "heap 1 r;away 1", 14);
        fault(5, "sweep;away 0", 11);
        fault(5, "sweep;heap 1 r;away 0", NONE);
        sentence("those behind it get a number less");
        String four = "heap 10 r 20 30;heap 11 g 21 31;heap 12 b 22 32;heap 13 y 23 33";
        for (int gone = 0; gone < 4; gone++) {
            EvenTen x = after(four, "away " + gone);
            due("three stay", x.count(0), 3);
            for (int heap = 0; heap < 3; heap++) {
                int was = heap < gone ? heap : heap + 1;
                due("number", x.heap(heap, 0), 10 + was);
                due("second", x.heap(heap, 1), 20 + was);
                due("colour", x.heap(heap, 2), was);
                due("cost", x.heap(heap, 3), 30 + was);
            }
            due("no fourth", x.heap(3, 0), UNKNOWN);
        }
        EvenTen last = alike(10, 20, 7);
        tell(last, "away 19", "heap 8 r", "away 0");
        due("nineteen", last.count(0), 19);
        due("the last one moved", last.heap(18, 0), 8);
    }

    private static void sweep() {
        sentence("sweep: no HEAPS");
        EvenTen x = alike(3, 20, 1);
        tell(x, "sweep");
        due("none", x.count(0), 0);
        due("no heap 0", x.heap(0, 0), UNKNOWN);
        due("parts stay", x.count(1), 3);
        tell(x, "sweep");
        due("none again", x.count(0), 0);
        tell(x, "heap 5 g;sweep;heap 6 b");
        due("those behind it", x.count(0), 1);
        due("alone", x.heap(0, 0), 6);
    }

    private static void digits() {
        sentence("V of 1 to 15 digits, other numbers of 1 to 3");
        fault(0, "heap 0 r", NONE);
        fault(0, "heap 000000000000000 r", NONE);
        fault(0, "heap 0000000000000000 r", 5);
        fault(0, "heap 0000000000000001 r", 5);
        due("zeros ahead", after("heap 000000000000012 r").heap(0, 0), 12);
        fault(0, "parts 2", NONE);
        fault(0, "parts 002", NONE);
        fault(0, "parts 0002", 6);
        due("parts 010", after("parts 2", "parts 010").count(1), 10);
        fault(0, "heap 1 r 000", NONE);
        fault(0, "heap 1 r 0000", 9);
        due("second 007", after("heap 1 r 007").heap(0, 1), 7);
        fault(0, "heap 1 r 2 099", NONE);
        fault(0, "heap 1 r 2 0099", 11);
        due("cost 009", after("heap 1 r 2 009").heap(0, 3), 9);
        fault(2, "away 001", NONE);
        fault(2, "away 0001", 5);
    }

    private static void signs() {
        sentence("words and C of small letters a .. z, blanks (32) between");
        fault(0, "SWEEP", 0);
        fault(0, "Sweep", 0);
        fault(0, "sweeP", 0);
        fault(0, "heap 1 Y", 7);
        fault(0, "sweep`", 5);
        fault(0, "sweep{", 5);
        fault(0, "parts 2/", 7);
        fault(0, "parts 2:", 7);
        fault(0, "parts\t2", 5);
        fault(0, "parts" + (char) 160 + "2", 5);
        fault(0, "parts" + (char) 0 + "2", 5);
        fault(0, "parts   2", NONE);
        fault(0, "  parts 2  ", NONE);
        fault(0, "sweep ; sweep", NONE);
        fault(0, "parts2;heap3g4 5;heap3g;away0", NONE);
        fault(0, "heap 1 r 45 6", NONE);
        fault(0, "heap 1 2 r", 7);
        fault(0, "sw eep", 0);
        fault(0, "parts 1 0", 6);
    }

    /** What each of the 256 bytes does behind a word, a number, a colour, and alone. */
    private static void anyByte() {
        sentence("(a row of small letters, a row of digits, any other byte)");
        for (int b = 0; b < 256; b++) {
            boolean letter = b >= 'a' && b <= 'z';
            boolean digit = b >= '0' && b <= '9';
            char sign = (char) b;
            fault(0, "" + sign, b == ' ' ? 1 : 0);
            fault(0, "sweep" + sign, letter ? 0 : b == ' ' ? NONE : b == ';' ? 6 : 5);
            fault(0, "parts 2" + sign, digit ? 6 : b == ' ' ? NONE : b == ';' ? 8 : 7);
            fault(0, "heap 1 r" + sign, letter ? 7 : digit || b == ' ' ? NONE : b == ';' ? 9 : 8);
        }
    }

    private static void firstFault() {
        sentence("A FAULT is at the first TOKEN");
        fault(0, "parts 1;parts 11;x", 6);
        fault(0, "sweep;parts 11;x", 12);
        fault(0, "sweep;parts 3;x", 14);
        fault(0, "sweep ,,,", 6);
        fault(0, "heap 12345678901234567890 q 1000 100", 5);
        fault(0, "heap 1 q 1000 100", 7);
        fault(0, "heap 1 r 1000 100", 9);
        fault(0, "heap 1 r 100 100", 13);
        sentence("that cannot stand there (a number out of its bounds, of more digits, also)");
        fault(0, "parts 1", 6);
        fault(0, "parts 11", 6);
        fault(0, "parts 0005", 6);
        fault(3, "away 3", 5);
        sentence("or at the end, if it comes too soon");
        fault(0, "", 0);
        fault(0, "    ", 4);
        fault(0, "parts", 5);
        fault(0, "parts  ", 7);
        fault(0, "heap", 4);
        fault(0, "heap 7", 6);
        fault(0, "heap 7 ", 7);
        fault(1, "away", 4);
        fault(1, "away   ", 7);
        fault(0, "sweep;", 6);
        fault(0, "sweep; ", 7);
    }

    private static void order() {
        sentence("LINES are done in their order");
        EvenTen x = after("parts 3;parts 7;parts 4");
        due("the last parts", x.count(1), 4);
        tell(x, "heap 1 r;heap 2 r;heap 3 r;away 0;away 1;heap 4 r");
        due("two heaps", x.count(0), 2);
        due("heap 2", x.heap(0, 0), 2);
        due("heap 4", x.heap(1, 0), 4);
        tell(x, "heap 5 r;sweep");
        due("none", x.count(0), 0);
        tell(x, "sweep;heap 5 r");
        due("one", x.count(0), 1);
    }

    private static void nothingBehindThem() {
        sentence("Behind them no SALES are told, nothing is kept.");
        for (String text : new String[] {"parts 10", "heap 1 r", "away 0", "sweep"}) {
            EvenTen x = withHeaps(10, 1, 9);
            x.keep(0);
            x.sale(3);
            x.keep(1);
            tell(x, text);
            due("sales behind " + text, x.count(3), 0);
            due("judged behind " + text, x.judge(1), NONE);
            due("image 0 behind " + text, x.back(0), NOT);
            due("image 1 behind " + text, x.back(1), NOT);
        }
    }

    private static void newObject() {
        sentence("`EvenTen()`: No HEAPS, ten PARTS.");
        EvenTen x = new EvenTen();
        due("heaps", x.count(0), 0);
        due("parts", x.count(1), 10);
        due("bytes", x.count(2), 0);
        due("sales", x.count(3), 0);
        due("image 0", x.back(0), NOT);
        due("image 1", x.back(1), NOT);
        tell(x, "parts 3;heap 1 r");
        x.sale(1);
        x.keep(0);
        put(x, "swe");
        EvenTen other = new EvenTen();
        for (int what = 0; what < 4; what++) {
            due("of another one", other.count(what), what == 1 ? 10 : 0);
        }
        due("image of another one", other.back(0), NOT);
    }

    private static void write() {
        sentence("n (1 .. 8) bytes more of THE TEXT");
        for (int n : new int[] {LOW, -8, -1, 0, 9, 16, 64, HIGH}) {
            EvenTen x = new EvenTen();
            due("write of " + n, x.write(bytes("sweep"), n), OUTSIDE);
            due("nothing of it", x.count(2), 0);
        }
        EvenTen x = new EvenTen();
        int length = 0;
        for (int n = 1; n <= 8; n++) {
            length += n;
            due("write of " + n, x.write(0, n), length);
            due("so many bytes", x.count(2), length);
        }
        sentence("byte i being bytes >> 8 i & 255");
        EvenTen y = new EvenTen();
        y.write(bytes("s") | -256L, 1);
        y.write(bytes("wee") | 255L << 24, 3);
        y.write(bytes("p;parts3"), 8);
        due("those alone", y.market(), 2);
        due("in their order", y.count(1), 3);
        y.write(-1L, 8);
        due("bytes 255", y.fault(), 0);
        y.erase();
        y.write(bytes("sweep  ") | 32L << 56, 8);
        due("the eighth", y.fault(), NONE);
        y.erase();
        y.write(bytes("sweep  ") | 128L << 56, 8);
        due("the eighth below 0", y.fault(), 7);
    }

    private static void writeFull() {
        sentence("how many it has. OUTSIDE; FULL.");
        for (int had = 190; had <= 200; had++) {
            for (int n = 1; n <= 8; n++) {
                EvenTen x = new EvenTen();
                put(x, "x".repeat(had));
                due(n + " more than " + had, x.write(0, n), had + n <= 200 ? had + n : FULL);
                due("bytes then", x.count(2), had + n <= 200 ? had + n : had);
            }
        }
        EvenTen x = new EvenTen();
        put(x, " ".repeat(195) + "sweep");
        due("outside goes ahead of full", x.write(0, 9), OUTSIDE);
        due("outside goes ahead of full", x.write(0, 0), OUTSIDE);
        due("full", x.write(0, 1), FULL);
        due("the text is as it was", x.market(), 1);
    }

    private static void erase() {
        sentence("THE TEXT is empty: how many bytes it had.");
        EvenTen x = withHeaps(3, 1, 2);
        x.sale(3);
        x.keep(1);
        due("of an empty one", x.erase(), 0);
        put(x, "x");
        due("of one byte", x.erase(), 1);
        put(x, " ".repeat(200));
        due("of a full one", x.erase(), 200);
        due("empty then", x.count(2), 0);
        due("empty still", x.erase(), 0);
        due("the fault of none", x.fault(), 0);
        due("room again", x.write(0, 8), 8);
        due("heaps stay", x.count(0), 2);
        due("parts stay", x.count(1), 3);
        due("sales stay", x.count(3), 1);
        due("the image stays", x.back(1), 2);
        x.erase();
        // What was there must not lengthen the tokens at the end of a shorter text.
        put(x, "parts 22;heap 1 rr");
        x.erase();
        tell(x, "parts 2");
        due("no 22", x.count(1), 2);
        put(x, "sweep;heap 1 r 5");
        x.erase();
        tell(x, "sweep;heap 1 r");
        due("no second", x.heap(0, 1), 0);
    }

    private static void faultChangesNothing() {
        sentence("The place of the FAULT (the byte with which the TOKEN begins, or the length); NONE.");
        EvenTen x = withHeaps(3, 1, 2);
        x.sale(3);
        x.keep(0);
        put(x, "sweep;parts 2;heap 7 y");
        due("none", x.fault(), NONE);
        due("none again", x.fault(), NONE);
        due("the text stays", x.count(2), 22);
        due("heaps stay", x.count(0), 2);
        due("parts stay", x.count(1), 3);
        due("sales stay", x.count(3), 1);
        due("the image stays", x.back(0), 2);
        put(x, ";away 12");
        due("the byte with which 12 begins", x.fault(), 28);
        x.erase();
        put(x, "sweep;parts");
        due("the length", x.fault(), 11);
        due("the length again", x.fault(), 11);
    }

    private static void market() {
        sentence("THE TEXT's LINES are done, and it is empty then: how many there were.");
        for (int lines = 1; lines <= 10; lines++) {
            EvenTen x = new EvenTen();
            put(x, "heap 1 r;".repeat(lines).substring(0, 9 * lines - 1));
            due(lines + " lines", x.market(), lines);
            due("heaps", x.count(0), lines);
            due("no text", x.count(2), 0);
            due("nothing to do", x.market(), NOT);
        }
        sentence("NOT: it has a FAULT.");
        EvenTen x = after("parts 3;heap 4 g 5 6;heap 5 b");
        x.keep(1);
        x.sale(2);
        due("empty", x.market(), NOT);
        put(x, "sweep;parts 2;heap 9 r;heap 9 q");
        due("a fault behind good lines", x.market(), NOT);
        due("heaps", x.count(0), 2);
        due("parts", x.count(1), 3);
        due("bytes", x.count(2), 31);
        due("sales", x.count(3), 1);
        due("heap 0", x.heap(0, 0), 4);
        due("heap 1", x.heap(1, 0), 5);
        due("the image", x.back(1), 2);
    }

    public static void main(String[] args) {
        twentyHeapsAtMost();
        number();
        second();
        colour();
        cost();
        parts();
        rest();
        twoHundredBytesAtMost();
        tenLinesAtMost();
        eachFormCutShort();
        notTold();
        noTwentyFirst();
        away();
        sweep();
        digits();
        signs();
        anyByte();
        firstFault();
        order();
        nothingBehindThem();
        newObject();
        write();
        writeFull();
        erase();
        faultChangesNothing();
        market();
        end();
    }
}
