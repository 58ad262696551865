import java.io.IOException;
import java.nio.file.Path;

/**
 * Each sentence of the document that names a boundary, promise by promise: a test stands under the document's own words,
 * and it fails where the document names a boundary that no test is for.
 */
public final class BoundsTest {
    public static void main(String[] args) throws IOException {
        Bounds bounds = new Bounds(Path.of("../shared/DOC.md"));
        new WordsBounds(bounds).all();
        new MeaningsBounds(bounds).all();
        new PersonsBounds(bounds).all();
        new BodiesBounds(bounds).all();
        new CongressBounds(bounds).all();
        new SheetsBounds(bounds).all();
        bounds.end("BoundsTest");
    }
}
