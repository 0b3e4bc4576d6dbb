import java.io.IOException;
import java.nio.file.Files;
import java.nio.file.Path;

/** Counts the answers that are not as due, and feeds texts to an object. */
final class Due {
    private static final Path DOCUMENT = Path.of("../shared/DOC.md");

    private final String test;
    private String document;
    private String sentence = "";
    private int sentences;
    private int asked;
    private int askedBefore;
    private int wrong;

    Due(String test) {
        this.test = test;
    }

    /** Names the sentence of the document that the next answers are held to; it must stand there. */
    void sentence(String quote) {
        endSentence();
        sentences++;
        askedBefore = asked;
        sentence = ": \"" + quote + "\"";
        if (!document().contains(quote)) {
            wrong++;
            System.out.println(test + sentence + " does not stand in the document");
        }
    }

    private void endSentence() {
        if (sentences > 0 && asked == askedBefore) {
            wrong++;
            System.out.println(test + sentence + " is not tested");
        }
    }

    private String document() {
        if (document == null) {
            try {
                document = Files.readString(DOCUMENT);
            } catch (IOException e) {
                throw new IllegalStateException("no " + DOCUMENT, e);
            }
        }
        return document;
    }

    void is(String call, long got, long want) {
        asked++;
        if (got != want) {
            wrong++;
            System.out.println(test + sentence + ": " + call + " answered " + got + ", due is " + want);
        }
    }

    void is(String call, boolean got, boolean want) {
        is(call, got ? 1 : 0, want ? 1 : 0);
    }

    boolean good() {
        return wrong == 0;
    }

    void end() {
        endSentence();
        String of = sentences > 0 ? " of " + sentences + " sentences" : "";
        System.out.println(test + ": " + asked + " answers" + of + ", " + wrong + " wrong");
        if (wrong != 0 || asked == 0) {
            System.exit(1);
        }
    }

    /** The ints that bring a text onto the tape, filled up with blanks to twenty bytes each call. */
    static int[] ints(String text) {
        int calls = (text.length() + 19) / 20;
        int[] ints = new int[5 * calls];
        for (int i = 0; i < ints.length; i++) {
            for (int b = 0; b < 4; b++) {
                int at = 4 * i + b;
                ints[i] = ints[i] << 8 | (at < text.length() ? text.charAt(at) & 255 : ' ');
            }
        }
        return ints;
    }

    static void feed(InkBars x, String text) {
        int[] v = ints(text);
        for (int i = 0; i < v.length; i += 5) {
            x.feed(v[i], v[i + 1], v[i + 2], v[i + 3], v[i + 4]);
        }
    }

    static int name(InkBars x, String word, int sort, int from, int to, int weight) {
        feed(x, word);
        return x.name(word.length(), sort, from, to, weight);
    }

    /** An object with these names, of sort 0, years 0 to 199 and weight 1. */
    static InkBars withNames(String... words) {
        InkBars x = new InkBars();
        for (String word : words) {
            name(x, word, 0, 0, 199, 1);
        }
        return x;
    }

    static int sheet(InkBars x, int wide, String text) {
        feed(x, text);
        return x.sheet(wide, text.length());
    }

    static int rules(InkBars x, String text) {
        feed(x, text);
        return x.rules(text.length());
    }

    /** Feeds numbers, filled up with zeros to five each call. */
    static void numbers(InkBars x, int... numbers) {
        for (int i = 0; i < numbers.length; i += 5) {
            int[] v = new int[5];
            for (int j = 0; j < 5 && i + j < numbers.length; j++) {
                v[j] = numbers[i + j];
            }
            x.feed(v[0], v[1], v[2], v[3], v[4]);
        }
    }
}
