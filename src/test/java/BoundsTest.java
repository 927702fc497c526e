import java.io.IOException;

/** Each sentence of the Terms and the promises that names an edge; with an argument their list too. */
public final class BoundsTest {
    public static void main(String[] args) throws IOException {
        Sentences s = new Sentences();
        new SquareBounds(s).all();
        new TellingBounds(s).all();
        new WhereBounds(s).all();
        new SearchBounds(s).all();
        new HoldBounds(s).all();
        new RowBounds(s).all();
        new ImageBounds(s).all();
        if (args.length > 0) {
            s.list();
        }
        s.end();
    }
}
