import java.util.ArrayList;
import java.util.List;
import java.util.function.IntUnaryOperator;
import java.util.regex.Matcher;
import java.util.regex.Pattern;

/**
 * Answers that are due, each of one sentence of the document, which is quoted as it stands there. The quotes are looked
 * up, and in the end every word of the Terms and of the promises must stand in one of them: so no sentence is left
 * without a test of its own, and none is tested that the document doesn't say.
 */
final class Edges {
    static final int LEAST = Integer.MIN_VALUE;
    static final int LARGEST = Integer.MAX_VALUE;
    /** Where the Terms are quoted, instead of a promise's number. */
    static final int TERMS = 0;
    private static final int PROMISES = 33;

    private final String[] texts = new String[PROMISES + 1];
    private final boolean[][] quoted = new boolean[PROMISES + 1][];
    private final Due due = new Due();
    private final List<String> faults = new ArrayList<>();
    private String sentence = "";
    private int answers = 1;
    private int sentences;

    Edges(String document) {
        texts[TERMS] = plain(between(document, "An object is used", "## The public face") + " "
                + between(document, "## Terms", "## Promise 1:").substring("## Terms".length()));
        for (int k = 1; k <= PROMISES; k++) {
            String end = k < PROMISES ? "## Promise " + (k + 1) + ":" : "## Not promised";
            String text = plain(between(document, "## Promise " + k + ":", end));
            // Behind the heading and the method's line.
            texts[k] = text.substring(text.lastIndexOf("`: ") + 3);
        }
        for (int k = 0; k <= PROMISES; k++) {
            quoted[k] = new boolean[texts[k].length()];
        }
    }

    private static String between(String text, String from, String to) {
        int first = text.indexOf(from);
        int end = text.indexOf(to, Math.max(first, 0));
        if (first < 0 || end < 0) {
            throw new IllegalStateException("the document has no part from " + from + " to " + to);
        }
        return text.substring(first, end);
    }

    private static String plain(String text) {
        return text.replace("```text", " ").replace("```", " ").replaceAll("\\s+", " ").trim();
    }

    /** From here on the answers are of this sentence of this promise. */
    void sentence(int promise, String quote) {
        endSentence();
        sentences++;
        answers = 0;
        sentence = (promise == TERMS ? "Terms" : "Promise " + promise) + ", \"" + quote + "\": ";
        int at = place(promise, quote);
        if (at < 0) {
            faults.add(sentence + "the document doesn't say that there");
            return;
        }
        for (int k = at; k < at + quote.length(); k++) {
            quoted[promise][k] = true;
        }
    }

    /** The first place of the quote that no other one has taken; short ones ("-1") stand in a text more than once. */
    private int place(int promise, String quote) {
        int at = texts[promise].indexOf(quote);
        int first = at;
        while (at >= 0 && quoted[promise][at]) {
            at = texts[promise].indexOf(quote, at + 1);
        }
        return at >= 0 ? at : first;
    }

    private void endSentence() {
        if (answers == 0) {
            faults.add(sentence + "no answer was looked at");
        }
    }

    void is(String call, int got, int want) {
        answers++;
        due.is(sentence + call, got, want);
    }

    void text(String call, String got, String want) {
        answers++;
        due.isText(sentence + call, got, want);
    }

    void rows(String call, int[] got, int... want) {
        answers++;
        due.rows(sentence + call, got, want);
    }

    /** The call answers the same for each of the numbers; where they stand in its text is a '#'. */
    void all(String call, int want, IntUnaryOperator made, int... numbers) {
        for (int number : numbers) {
            is(with(call, number), made.applyAsInt(number), want);
        }
    }

    void argument(String call, IntUnaryOperator made, int... numbers) {
        thrown(call, "IllegalArgumentException", made, numbers);
    }

    void state(String call, IntUnaryOperator made, int... numbers) {
        thrown(call, "IllegalStateException", made, numbers);
    }

    private void thrown(String call, String want, IntUnaryOperator made, int... numbers) {
        for (int number : numbers) {
            answers++;
            due.isText(sentence + with(call, number), Due.outcome(() -> made.applyAsInt(number)), want);
        }
    }

    private static String with(String call, int number) {
        return call.replace("#", Integer.toString(number));
    }

    /** What no sentence has quoted, as long stretches as there are. */
    private void lookForUnquoted(int promise) {
        // Signs between two quotes are nothing that could be tested.
        Pattern stretches = Pattern.compile("[\\w-][^\0]*");
        StringBuilder left = new StringBuilder(texts[promise]);
        for (int k = 0; k < left.length(); k++) {
            if (quoted[promise][k]) {
                left.setCharAt(k, '\0');
            }
        }
        Matcher matcher = stretches.matcher(left);
        while (matcher.find()) {
            faults.add("no test quotes, of " + (promise == TERMS ? "the Terms" : "promise " + promise) + ": "
                    + matcher.group());
        }
    }

    void close() {
        endSentence();
        for (int k = 0; k <= PROMISES; k++) {
            lookForUnquoted(k);
        }
        for (String fault : faults) {
            System.out.println(fault);
        }
        System.out.println(sentences + " sentences");
        due.is("faults of the quotes", faults.size(), 0);
        due.close();
    }
}
