import java.nio.charset.StandardCharsets;
import java.util.function.DoubleSupplier;
import java.util.function.LongSupplier;

/** What all tests share: it compares answers, and puts texts on the tape. */
final class Check {
    private static int wrong = 0;
    private static String sentence = "";

    private Check() {
    }

    /** From here on the answers are those that this sentence of the document makes due. */
    static void sentence(String text) {
        sentence = text + "\n    ";
    }

    static void due(String what, long got, long want) {
        if (got != want) {
            say(what + " answered " + got + ", due is " + want);
        }
    }

    static void dueDouble(String what, DoubleSupplier got, double want) {
        double answer = got.getAsDouble();
        if (Double.compare(answer, want) != 0) {
            say(what + " answered " + answer + ", due is " + want);
        }
    }

    static void dueThrow(String what, Class<? extends RuntimeException> want, LongSupplier call) {
        String got = answer(call);
        if (!got.equals("throws." + want.getSimpleName())) {
            say(what + " answered " + got + ", due is throws." + want.getSimpleName());
        }
    }

    /** The answer of a call as a text, throws.Name if it throws. */
    static String answer(LongSupplier call) {
        try {
            return Long.toString(call.getAsLong());
        } catch (RuntimeException e) {
            return "throws." + e.getClass().getSimpleName();
        }
    }

    static void say(String text) {
        wrong++;
        if (wrong <= 40) {
            System.out.println(sentence + text);
        }
    }

    static void finish() {
        System.out.println(wrong == 0 ? "all answers are as due" : wrong + " answers are not as due");
        if (wrong != 0) {
            System.exit(1);
        }
    }

    /** Puts a text behind what the tape has; it is to be at most 1980 bytes then. */
    static void feed(SkylightWash wash, String text) {
        byte[] bytes = text.getBytes(StandardCharsets.ISO_8859_1);
        int length = wash.count(13) + bytes.length;
        for (int i = 0; i < bytes.length; i += 20) {
            wash.feed(word(bytes, i), word(bytes, i + 4), word(bytes, i + 8), word(bytes, i + 12), word(bytes, i + 16));
        }
        wash.trim(length);
    }

    static int word(byte[] bytes, int from) {
        int word = 0;
        for (int i = from; i < from + 4; i++) {
            word = word << 8 | (i < bytes.length ? bytes[i] & 255 : ' ');
        }
        return word;
    }

    static SkylightWash taught(String list) {
        SkylightWash wash = new SkylightWash();
        feed(wash, list);
        due("teach of " + list, wash.teach(), 0);
        return wash;
    }

    static void dueError(String list, int error, int position) {
        SkylightWash wash = new SkylightWash();
        feed(wash, list);
        due("teach of " + list, wash.teach(), error);
        due("errorAt of " + list, wash.errorAt(), position);
    }
}
