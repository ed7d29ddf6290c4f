import java.io.IOException;
import java.nio.file.Files;
import java.nio.file.Path;

/** Compares answers with those that are due, prints each one that differs, and ends the test. */
final class Due {
    private static final Path DOCUMENT = Path.of("../shared/DOC.md");
    private static final int MOST_PRINTED = 40;
    private static int wrong = 0;
    private static String document;
    /** The sentence that is tested now, and how many answers were compared for it so far. */
    private static String sentence = "";
    private static int compared = 0;

    private Due() {
    }

    /** Begins the test of a sentence, which has to stand in the document as it is quoted. */
    static void says(String quoted) {
        endSentence();
        sentence = quoted;
        compared = 0;
        if (!document().contains(quoted)) {
            fail("is not in " + DOCUMENT);
        }
    }

    private static String document() {
        if (document == null) {
            try {
                document = Files.readString(DOCUMENT).replaceAll("\\s+", " ");
            } catch (IOException e) {
                document = "";
            }
        }
        return document;
    }

    /** A sentence that nothing is compared for is not tested. */
    private static void endSentence() {
        if (!sentence.isEmpty() && compared < 2) {
            fail("has too few answers compared: " + compared);
        }
    }

    private static void fail(String what) {
        wrong++;
        if (wrong <= MOST_PRINTED) {
            System.out.println((sentence.isEmpty() ? "" : "'" + sentence + "': ") + what);
        }
    }

    static void is(String call, long got, long want) {
        compared++;
        if (got != want) {
            fail(call + " answered " + got + ", due is " + want);
        }
    }

    static void isTrue(String what, boolean holds) {
        is(what, holds ? 1 : 0, 1);
    }

    static void same(String when, String got, String want) {
        compared++;
        if (!got.equals(want)) {
            fail(when + ": there is\n    " + got + "\n  due is\n    " + want);
        }
    }

    static void differs(String when, String got, String other) {
        isTrue(when + " makes a difference", !got.equals(other));
    }

    /** Puts a text of any length on the pad, eight characters a call. */
    static void type(BeltMarks marks, String text) {
        int before = marks.count(22);
        for (int from = 0; from < text.length(); from += 8) {
            String part = text.substring(from, Math.min(from + 8, text.length()));
            is("put \"" + part + "\"", marks.put(packed(part)), before + from + part.length());
        }
    }

    /** The number by which put() is given a text of up to eight characters. */
    static long packed(String text) {
        long characters = 0;
        for (int i = 0; i < text.length(); i++) {
            characters = characters << 8 | text.charAt(i);
        }
        return characters;
    }

    static void end() {
        endSentence();
        System.out.println(wrong == 0 ? "all answers are as due" : wrong + " answers are not as due");
        if (wrong != 0) {
            System.exit(1);
        }
    }
}
