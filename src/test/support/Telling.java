import java.io.IOException;
import java.io.UncheckedIOException;
import java.nio.charset.StandardCharsets;
import java.nio.file.Files;
import java.nio.file.Path;

/** What the tests by hand share: telling texts, comparing answers, and whose words a test is of. */
abstract class Telling {
    static final int NONE = EvenTen.NONE;
    static final int UNKNOWN = EvenTen.UNKNOWN;
    static final int OUTSIDE = EvenTen.OUTSIDE;
    static final int NOT = EvenTen.NOT;
    static final int FULL = EvenTen.FULL;
    static final int LOW = Integer.MIN_VALUE;
    static final int HIGH = Integer.MAX_VALUE;
    /** A lot of all of twenty heaps. */
    static final int TWENTY = (1 << 20) - 1;

    private static final Path DOCUMENT = Path.of("../shared/DOC.md");
    private static String document = null;
    private static String sentence = "";
    private static int sentences = 0;
    private static int wrong = 0;

    /** The calls from here on are of these words, which the document must have. */
    static void sentence(String words) {
        if (document == null) {
            document = read();
        }
        sentence = words;
        sentences++;
        due("these words of the document", document.contains(plain(words)) ? 1 : 0, 1);
    }

    private static String read() {
        try {
            return plain(Files.readString(DOCUMENT, StandardCharsets.UTF_8));
        } catch (IOException e) {
            throw new UncheckedIOException(e);
        }
    }

    private static String plain(String words) {
        return words.replaceAll("\\s+", " ");
    }

    static void due(String call, long got, long want) {
        if (got != want) {
            wrong++;
            String of = sentence.isEmpty() ? "" : "[" + sentence + "] ";
            System.out.println(of + call + " answered " + got + ", due is " + want);
        }
    }

    static void end() {
        String ran = sentences == 0 ? "all answers are as due" : sentences + " sentences hold";
        System.out.println(wrong == 0 ? ran : wrong + " answers are not as due");
        if (wrong != 0) {
            System.exit(1);
        }
    }

    /** Up to 8 signs, as write takes them. */
    static long bytes(String signs) {
        long bytes = 0;
        for (int i = 0; i < signs.length(); i++) {
            bytes |= (long) signs.charAt(i) << 8 * i;
        }
        return bytes;
    }

    static int put(EvenTen x, String text) {
        int answer = x.count(2);
        for (int from = 0; from < text.length(); from += 8) {
            int n = Math.min(8, text.length() - from);
            answer = x.write(bytes(text.substring(from, from + n)), n);
        }
        return answer;
    }

    /** Behind these texts, each of which must be without a fault. */
    static void tell(EvenTen x, String... texts) {
        for (String text : texts) {
            put(x, text);
            due("fault of " + text, x.fault(), NONE);
            due("market of " + text, x.market(), text.split(";").length);
        }
    }

    static EvenTen after(String... texts) {
        EvenTen x = new EvenTen();
        tell(x, texts);
        return x;
    }

    static EvenTen withHeaps(int parts, int... numbers) {
        EvenTen x = after("parts " + parts);
        for (int number : numbers) {
            put(x, "heap " + number + " r");
            x.market();
        }
        due("count(0)", x.count(0), numbers.length);
        return x;
    }

    /** So many heaps of one number. */
    static EvenTen alike(int parts, int heaps, int number) {
        int[] numbers = new int[heaps];
        java.util.Arrays.fill(numbers, number);
        return withHeaps(parts, numbers);
    }

    /** Where the fault of a text lies, with so many heaps ahead of it. */
    static void fault(int heaps, String text, int want) {
        EvenTen x = alike(10, heaps, 0);
        put(x, text);
        due("fault of '" + text + "' with " + heaps + " heaps", x.fault(), want);
        due("market of '" + text + "'", x.market() == NOT ? 1 : 0, want == NONE ? 0 : 1);
        due("bytes of '" + text + "'", x.count(2), want == NONE ? 0 : text.length());
    }
}
