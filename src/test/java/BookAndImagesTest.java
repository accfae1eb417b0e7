/** Promises 28 to 32: the book, the random number and the images. */
public final class BookAndImagesTest {
    private static final int NONE = -1, UNKNOWN = -1000000001, OUTSIDE = -1000000002, NOT = -1000000003, FULL = -1000000004;

    private final Due due = new Due();

    public static void main(String[] args) {
        BookAndImagesTest test = new BookAndImagesTest();
        test.promise28();
        test.promise28WrongEntries();
        test.promise29();
        test.promise30();
        test.promise31();
        test.promise32();
        test.due.end();
    }

    private void promise28() {
        StyleFamilies x = new StyleFamilies();
        due.is("28: no paragraph yet", x.write(0, 0, 0), UNKNOWN);
        x.paragraph();
        for (int i = 1; i <= 20; i++) {
            due.is("28: entry " + i, x.write(0, i % 6, 0), i);
        }
        due.is("28: no room", x.write(0, 0, 0), FULL);
        due.is("28: UNKNOWN comes first", x.write(1, 0, 0), UNKNOWN);
        due.is("28: UNKNOWN comes first", x.write(0, 6, 0), UNKNOWN);
        due.is("28: no such paragraph", x.write(-1, 0, 0), UNKNOWN);
        due.is("28: no such property", x.write(0, -1, 0), UNKNOWN);
        due.is("28: twenty", x.told(10), 20);
        due.is("28: no deed", x.told(12), 1);
    }

    private void promise28WrongEntries() {
        StyleFamilies x = new StyleFamilies();
        x.paragraph();
        x.paragraph();
        x.direct(1, 2, 50);
        x.write(0, 2, 0);
        x.write(1, 2, 50);
        due.is("28: right", x.told(11), NONE);
        x.swap(0, 1);
        due.is("28: entries go by the number", x.told(11), 0);
        x.swap(0, 1);
        x.take(0);
        due.is("28: entries go by the number", x.told(11), 0);
        x.undo(1);
        x.ground(2, 3);
        due.is("28: a value from the ground", x.told(11), 0);
        x.ground(2, 0);
        due.is("28: right again", x.told(11), NONE);
        due.is("28: any int", x.write(0, 0, Integer.MAX_VALUE), 3);
        due.is("28: any int", x.write(0, 0, Integer.MIN_VALUE), 4);
        due.is("28: any int", x.write(0, 0, -1), 5);
        due.is("28: wrong at once", x.told(11), 2);
    }

    private void promise29() {
        StyleFamilies x = new StyleFamilies();
        due.is("29: empty", x.tear(), 0);
        x.paragraph();
        x.write(0, 0, 5);
        x.write(0, 0, 0);
        due.is("29: two", x.tear(), 2);
        due.is("29: none is left", x.told(10), 0);
        due.is("29: none is wrong", x.told(11), NONE);
        due.is("29: from the start", x.write(0, 0, 0), 1);
        due.is("29: no deed", x.told(12), 1);
    }

    private void promise30() {
        StyleFamilies x = new StyleFamilies();
        due.is("30: 0 at first", x.seed(Integer.MAX_VALUE), 0);
        due.is("30: the largest", x.seed(0), Integer.MAX_VALUE);
        due.is("30: negative", x.seed(-1), OUTSIDE);
        due.is("30: negative", x.seed(Integer.MIN_VALUE), OUTSIDE);
        due.is("30: as it was", x.told(13), 0);
        due.is("30: no deed", x.told(12), 0);
    }

    private void promise31() {
        StyleFamilies x = new StyleFamilies();
        due.is("31: no such image", x.keep(2), UNKNOWN);
        due.is("31: no such image", x.keep(-1), UNKNOWN);
        x.paragraph();
        due.is("31: an error keeps the deeds", x.keep(Integer.MAX_VALUE), UNKNOWN);
        due.is("31: an error keeps the deeds", x.told(12), 1);
        due.is("31: kept", x.keep(1), 1);
        due.is("31: nothing to undo", x.told(12), 0);
        due.is("31: nothing to undo", x.undo(1), NOT);
        due.is("31: the other one is empty", x.goBack(0), NOT);
        x.paragraph();
        due.is("31: in place of the first", x.keep(1), 1);
        x.take(0);
        x.take(0);
        x.goBack(1);
        due.is("31: the later one", x.told(0), 2);
    }

    private void promise32() {
        StyleFamilies x = new StyleFamilies();
        due.is("32: no such image", x.goBack(2), UNKNOWN);
        due.is("32: no such image", x.goBack(-1), UNKNOWN);
        due.is("32: empty", x.goBack(0), NOT);
        fill(x);
        x.keep(0);
        x.write(0, 2, 40);
        spoil(x);
        due.is("32: an empty one changes nothing", x.goBack(1), NOT);
        due.is("32: the deeds are still there", x.told(12), 8);
        x.keep(1);
        for (int time = 0; time < 2; time++) {
            due.is("32: back", x.goBack(0), 1);
            asFilled(x);
            due.is("32: the book stays", x.told(10), 1);
            due.is("32: nothing to undo", x.told(12), 0);
            spoil(x);
        }
        due.is("32: to the other", x.goBack(1), 1);
        due.is("32: to the other", x.told(9), 3);
        due.is("32: to the other", x.told(13), 8);
        due.is("32: to the other", x.has(0, 2), 41);
    }

    private static void fill(StyleFamilies x) {
        x.style();
        x.style();
        x.parent(1, 0);
        x.sets(0, 2, 40);
        x.paragraph();
        x.apply(0, 1);
        x.direct(0, 4, 4);
        x.ground(3, 33);
        x.head(12);
        x.seed(5);
    }

    private static void spoil(StyleFamilies x) {
        x.parent(1, NONE);
        x.sets(1, 2, 41);
        x.apply(0, NONE);
        x.direct(0, 4, 5);
        x.direct(0, 2, 41);
        x.ground(3, 0);
        x.head(3);
        x.style();
        x.seed(8);
    }

    private void asFilled(StyleFamilies x) {
        due.is("32: styles", x.told(1), 2);
        due.is("32: paragraphs", x.told(0), 1);
        due.is("32: parent", x.styleAt(1, 0), 0);
        due.is("32: what a style sets", x.styleAt(1, 5), 0);
        due.is("32: style", x.paragraphAt(0, 0), 1);
        due.is("32: what is given", x.paragraphAt(0, 5), 16);
        due.is("32: value of the style", x.has(0, 2), 40);
        due.is("32: value of the ground", x.has(0, 3), 33);
        due.is("32: value given", x.has(0, 4), 4);
        due.is("32: head cost", x.told(9), 12);
        due.is("32: random number", x.told(13), 5);
    }
}
