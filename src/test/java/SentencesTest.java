import java.io.IOException;
import java.nio.file.Files;
import java.nio.file.Path;
import java.util.List;
import java.util.regex.Matcher;
import java.util.regex.Pattern;

/**
 * The document sentence by sentence: each sentence of the terms and of the promises has a test of its own, with
 * the boundary cases that it names. The tests stand in src/test/support; here they are run, and the document is
 * looked through for words that no test names.
 */
public final class SentencesTest extends Checks {
    private static final Path DOCUMENT = Path.of("../shared/DOC.md");
    private static final Pattern HEADING = Pattern.compile("(?m)^## (.*)$");
    private static final Pattern PROMISE = Pattern.compile("Promise (\\d+): .*");

    public static void main(String[] args) throws IOException {
        TextSentences.all();
        FailureSentences.all();
        PieceSentences.all();
        BadSentences.all();
        PrintSentences.all();
        lookThrough(Files.readString(DOCUMENT));
        end("all sentences hold: " + sentences().size());
    }

    private static void lookThrough(String document) {
        List<String> titles = HEADING.matcher(document).results().map(found -> found.group(1)).toList();
        String[] bodies = HEADING.split(document);
        boolean[] named = new boolean[sentences().size()];
        int promises = 0;
        for (int i = 0; i < titles.size(); i++) {
            Matcher title = PROMISE.matcher(titles.get(i));
            String body = plain(bodies[i + 1]);
            if (title.matches()) {
                promises++;
                lookThroughSection(titles.get(i), body, Integer.parseInt(title.group(1)), true, named);
            } else {
                lookThroughSection(titles.get(i), body, 0, titles.get(i).equals("Terms"), named);
            }
        }
        about("the document");
        due("how many promises", promises, 15);
        for (int i = 0; i < named.length; i++) {
            due("has the words of " + sentences().get(i), named[i], true);
        }
    }

    /** Without what is no sentence: the fences of a listing, and the head of a method or constructor. */
    private static String plain(String body) {
        return body.replaceAll("```\\w*", " ").strip().replaceFirst("^`[^`]*\\)[^`]*`:", "").replaceAll("\\s+", " ");
    }

    /** The terms are for all promises (0); a promise's own section is for its own tests alone. */
    private static void lookThroughSection(String title, String body, int promise, boolean whole, boolean[] named) {
        StringBuilder left = new StringBuilder(body);
        for (int i = 0; i < named.length; i++) {
            Sentence sentence = sentences().get(i);
            int place = body.indexOf(sentence.words());
            if (place >= 0 && (promise == 0 || promise == sentence.promise())) {
                named[i] = true;
                for (int k = place; k < place + sentence.words().length(); k++) {
                    left.setCharAt(k, ' ');
                }
            }
        }
        about("the document, \"" + title + "\"");
        if (whole) {
            due("words without a test", left.toString().strip(), "");
        }
    }
}
