import java.util.ArrayList;
import java.util.HashSet;
import java.util.List;
import java.util.Set;

/** Runs the test of each boundary that the document names. */
public final class EdgeTests {
    private static int checks = 0;

    public static void main(String[] args) {
        Set<String> wrong = new HashSet<>();
        Set<String> names = new HashSet<>();
        List<Edge> edges = edges();
        for (Edge edge : edges) {
            List<String> found = wrongsOf(edge);
            if (!names.add(edge.name())) {
                found.add("there are two of this name");
            }
            if (!found.isEmpty()) {
                wrong.add(edge.name());
                System.out.println(edge.name() + "\n    " + String.join("\n    ", found));
            }
        }
        System.out.println(edges.size() + " boundaries, " + checks + " checks, " + wrong.size() + " broken");
        if (!wrong.isEmpty()) {
            System.exit(1);
        }
    }

    static List<Edge> edges() {
        List<Edge> edges = new ArrayList<>();
        for (Edges part : List.of(new EdgesOfTexts(), new EdgesOfLaw(), new EdgesOfActs(), new EdgesOfMinutes(),
            new EdgesOfLeast(), new EdgesOfNets(), new EdgesOfYards(), new EdgesOfSheets(), new EdgesOfRefusals())) {
            edges.addAll(part.all);
        }
        return edges;
    }

    /** What the test of a boundary finds wrong; a call that throws, or a test that checks nothing, is wrong, too. */
    private static List<String> wrongsOf(Edge edge) {
        Probe probe = new Probe();
        try {
            edge.test().accept(probe);
        } catch (RuntimeException e) {
            probe.wrong.add("threw " + e);
        }
        if (probe.checks == 0) {
            probe.wrong.add("nothing was checked");
        }
        checks += probe.checks;
        return probe.wrong;
    }

    /** The names of the boundaries whose tests fail, a line each: for the breaks. */
    public static String broken() {
        StringBuilder names = new StringBuilder();
        for (Edge edge : edges()) {
            if (!wrongsOf(edge).isEmpty()) {
                names.append(edge.name()).append('\n');
            }
        }
        return names.toString();
    }
}
