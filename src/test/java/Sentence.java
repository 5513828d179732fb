import java.util.ArrayList;
import java.util.HashMap;
import java.util.List;
import java.util.Map;
import java.util.Set;

/** Sentences of the document that name a boundary case, quoted word by word, each with a test of its own. */
final class Sentence {
    // Sentences that name no boundary case; what they say is tested elsewhere.
    private static final Set<String> PLAIN = Set.of(
        "Rows and columns are nodes, too: a one in row a and column b is an edge from a to b.",
        "The closure has a one in row a and column b if a reaches b.",
        "(This is what work(int) counts.)",
        "Returns a number.", "Returns the number.", "Returns that node.", "Returns its ones.", "Returns the rank.",
        "Returns the number of the class.", "Returns the ones of what is made.", "Returns N.",
        "Returns a bit of a matrix.",
        "Returns the kind of the error of the latest call of load().",
        "Returns in which statement the latest call of load() found its error.",
        "Counts the ones of a matrix.", "Counts the ones of a column.", "Counts the different rows.",
        "Returns which part of a matrix is ones.", "Tells whether a matrix is equal to its transposed one.",
        "Tells whether a node reaches a node (section 2).", "Counts the nodes that a node reaches.",
        "Counts the ones of the closure.", "Counts the components.",
        "Returns how many nodes a node reaches on the average.",
        "Returns the fewest edges of a way from a node to a node.",
        "Predicts how many ones the closure would have more with an edge.",
        "Predicts how many ones the closure would have less without an edge.",
        "Returns how many columns of solutions can be chosen.", "Returns a column with a pivot (section 3).",
        "Returns a number of a slot whose closure is kept.", "Returns a byte of the output.");

    private static final Map<String, List<String>> QUOTED = new HashMap<>();

    private Sentence() {
    }

    /** Runs the test of a sentence, or of a part of it; a test that asks nothing does not count. */
    static void holds(String section, String quote, Runnable test) {
        QUOTED.computeIfAbsent(section, name -> new ArrayList<>()).add(quote);
        Check.due(section + " says '" + quote + "'", isQuote(section, quote), true);
        int asked = Check.asked();
        int wrong = Check.wrong();
        try {
            test.run();
        } catch (RuntimeException e) {
            Check.due("the test itself", "throws " + e, "an end");
        }
        Check.due("answers asked for '" + quote + "'", Check.asked() > asked, true);
        if (Check.wrong() > wrong) {
            System.out.println("  so this is broken: " + section + ", '" + quote + "'");
        }
    }

    /** Each sentence of the sections is quoted, or a part of it is, or it is known to name no boundary case. */
    static void checkAllAreQuoted() {
        for (String section : Document.sections()) {
            if (!section.matches("[1-4]|Promise \\d+")) {
                continue;
            }
            for (String sentence : Document.sentences(section)) {
                boolean isOfRangeTest = sentence.startsWith("- ") || sentence.startsWith("Throws ");
                if (!isOfRangeTest && !PLAIN.contains(sentence)) {
                    Check.due(section + ", '" + sentence + "' is quoted", isQuoted(section, sentence), true);
                }
            }
        }
    }

    private static boolean isQuote(String section, String quote) {
        return Document.lines(section).stream().anyMatch(line -> line.contains(quote));
    }

    private static boolean isQuoted(String section, String sentence) {
        return QUOTED.getOrDefault(section, List.of()).stream().anyMatch(q -> q.contains(sentence) || sentence.contains(q));
    }
}
