import java.util.function.Consumer;

/** A boundary that one sentence of the document names, where it stands there, and the test of it. */
record Edge(String place, String sentence, Consumer<Probe> test) {
    String name() {
        return place + ": " + sentence;
    }
}
