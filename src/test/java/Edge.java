import java.io.IOException;
import java.nio.charset.StandardCharsets;
import java.nio.file.Files;
import java.nio.file.Path;
import java.util.List;
import java.util.function.Supplier;
import java.util.function.ToLongFunction;

/** A sentence of the document that names a boundary case, and the answers that it asks for on both sides. */
final class Edge {
    private static final Path DOCUMENT = Path.of("../shared/DOC.md");
    private static String document = null;
    private static String where = "";

    private Edge() {
    }

    /** What follows is asked by this sentence, which has to stand under this heading of the document. */
    static void says(String heading, String sentence) {
        where = heading + " [" + sentence + "] ";
        String section = section(heading);
        Check.due(where + "stands in the document", section.isEmpty() || section.contains(plain(sentence)), true);
    }

    static void due(String call, long got, long want) {
        Check.due(where + call, got, want);
    }

    static void due(String call, boolean got, boolean want) {
        Check.due(where + call, got, want);
    }

    /** The call's answer in a new scene. */
    static void answers(Supplier<StoneHall> scene, String call, ToLongFunction<StoneHall> asked, long want) {
        due(call, asked.applyAsLong(scene.get()), want);
    }

    /** The call's answer in a new scene, and that no later call can tell this hall from one without the call. */
    static void refuses(Supplier<StoneHall> scene, String call, ToLongFunction<StoneHall> asked, long want) {
        Supplier<StoneHall> touched = () -> {
            StoneHall hall = scene.get();
            due(call, asked.applyAsLong(hall), want);
            return hall;
        };
        alike(call + " leaves no trace", touched, scene);
    }

    /** That no later call can tell the two halls apart. */
    static void alike(String name, Supplier<StoneHall> one, Supplier<StoneHall> other) {
        due(name, difference(one, other), "");
    }

    /** That a later call can tell the two halls apart. */
    static void differ(String name, Supplier<StoneHall> one, Supplier<StoneHall> other) {
        due(name + " shows", difference(one, other).isEmpty(), false);
    }

    private static String difference(Supplier<StoneHall> one, Supplier<StoneHall> other) {
        for (Picture.Light light : Picture.Light.values()) {
            List<String> here = Picture.of(one.get(), light);
            List<String> there = Picture.of(other.get(), light);
            for (int i = 0; i < Math.max(here.size(), there.size()); i++) {
                String left = i < here.size() ? here.get(i) : "nothing";
                String right = i < there.size() ? there.get(i) : "nothing";
                if (!left.equals(right)) {
                    return left + " instead of " + right;
                }
            }
        }
        return "";
    }

    private static void due(String call, String got, String want) {
        Check.due(where + call + (got.equals(want) ? "" : ": " + got), got.equals(want), true);
    }

    /** What stands under a heading, in one line; empty without the document, as then nothing can be held against it. */
    static String section(String heading) {
        if (document == null) {
            document = read();
        }
        String title = heading.startsWith("Promise") ? "## " + heading + ":" : "## " + heading;
        int from = document.indexOf(title);
        if (from < 0) {
            return document.isEmpty() ? "" : "no such heading";
        }
        int to = document.indexOf("## ", from + title.length());
        return document.substring(from, to < 0 ? document.length() : to);
    }

    private static String read() {
        if (!Files.isReadable(DOCUMENT)) {
            return "";
        }
        try {
            return plain(new String(Files.readAllBytes(DOCUMENT), StandardCharsets.UTF_8));
        } catch (IOException e) {
            return "";
        }
    }

    private static String plain(String text) {
        return text.replaceAll("\\s+", " ").trim();
    }
}
