import java.io.IOException;
import java.nio.file.Files;
import java.nio.file.Path;
import java.util.function.IntToLongFunction;
import java.util.function.LongUnaryOperator;

/** Answers that are due by one sentence of the document at a time; what is quoted must stand there word for word. */
final class Quotes {
    private static final Path DOCUMENT = Path.of("../shared/DOC.md");
    private final Due due;
    private final String document;
    private String quoted = "";
    private int answers = 1;

    Quotes(String about) {
        due = new Due(about);
        document = readDocument();
    }

    /** The class can be tested without the document; only the quotes cannot, and it is said so. */
    private static String readDocument() {
        try {
            return Files.readString(DOCUMENT).replaceAll("\\s+", " ");
        } catch (IOException e) {
            System.out.println(DOCUMENT + " cannot be read: quotes are not looked at");
            return "";
        }
    }

    /** From here on the answers are due by these words. */
    void by(String words) {
        endOfSentence();
        quoted = words;
        answers = 0;
        if (!document.isEmpty()) {
            due.is("quoted, but it does not stand in the document: " + words, document.contains(words) ? 1 : 0, 1);
        }
    }

    private void endOfSentence() {
        due.is("quoted, but nothing is tested by it: " + quoted, answers > 0 ? 1 : 0, 1);
    }

    void is(String what, long got, long want) {
        answers++;
        due.is("\"" + quoted + "\", " + what, got, want);
    }

    private void taken(String what, long got, long refusal) {
        is(what + " is taken (1) or refused (0)", got == refusal ? 0 : 1, 1);
    }

    /** Least and greatest are taken; one less, one more, and the least and greatest that an int can be, are not. */
    void ints(String what, int least, int greatest, long refusal, IntToLongFunction call) {
        for (int v : new int[] {least - 1, greatest + 1, Integer.MIN_VALUE, Integer.MAX_VALUE}) {
            is(what + " " + v, call.applyAsLong(v), refusal);
        }
        taken(what + " " + least, call.applyAsLong(least), refusal);
        taken(what + " " + greatest, call.applyAsLong(greatest), refusal);
    }

    /** As ints; those that would be fine if only their lower 32 bits were looked at are not taken either. */
    void longs(String what, long least, long greatest, long refusal, LongUnaryOperator call) {
        long wrap = 1L << 32;
        for (long v : new long[] {least - 1, greatest + 1, Long.MIN_VALUE, Long.MAX_VALUE, greatest + 8 * wrap, least - 8 * wrap}) {
            is(what + " " + v, call.applyAsLong(v), refusal);
        }
        taken(what + " " + least, call.applyAsLong(least), refusal);
        taken(what + " " + greatest, call.applyAsLong(greatest), refusal);
    }

    void end() {
        endOfSentence();
        due.end();
    }
}
