import java.io.IOException;
import java.io.UncheckedIOException;
import java.nio.file.Files;
import java.nio.file.Path;
import java.util.Map;
import java.util.TreeMap;
import java.util.regex.Matcher;
import java.util.regex.Pattern;

/** The document's own words, so that a test can tell which of them it holds the class to. */
final class Doc {
    private static final Pattern PROMISE = Pattern.compile("(?m)^`(?:int |long )?(\\w+)\\([^)]*\\)`: (.*)$");

    private final String text;

    Doc() {
        try {
            text = Files.readString(Path.of("../shared/DOC.md"));
        } catch (IOException e) {
            throw new UncheckedIOException(e);
        }
    }

    boolean says(String words) {
        return text.contains(words);
    }

    /** By the name of each method (and the constructor): what its promise says. */
    Map<String, String> promises() {
        Map<String, String> promises = new TreeMap<>();
        Matcher m = PROMISE.matcher(text);
        while (m.find()) promises.put(m.group(1), m.group(2));
        return promises;
    }
}
