/** The document sentence by sentence, each with the cases that it names: too small, too large, empty, full, round, refused. */
public final class BoundsTest {
    public static void main(String[] args) throws Exception {
        Sentences s = new Sentences();
        new TextBounds(s).all();
        new ActBounds(s).all();
        new FormBounds(s).all();
        new WordBounds(s).all();
        new TreeBounds(s).all();
        new StatusBounds(s).all();
        s.end();
    }
}
