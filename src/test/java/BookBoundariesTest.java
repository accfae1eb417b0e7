/** The boundary cases of promises 28 to 32: the book, the random number and the images. */
public final class BookBoundariesTest {
    private static final int MIN = Integer.MIN_VALUE, MAX = Integer.MAX_VALUE;

    public static void main(String[] args) throws ReflectiveOperationException {
        Run.all(BookBoundariesTest.class);
    }

    // ---- write and tear

    static void promise28ParagraphsAndPropertiesWithinTheirNumber(Run r) {
        r.calls("write(0, 0, 0) = UNKNOWN;" + "paragraph();".repeat(8) + "write(0, 0, 0) = 1; write(7, 5, 0) = 2");
        r.each("write(#, 0, 0) = UNKNOWN", -1, 8, MIN, MAX);
        r.each("write(0, #, 0) = UNKNOWN", -1, 6, MIN, MAX);
        r.calls("told(10) = 2");
    }

    /** All 20 entries are right; the one that is refused would be wrong. */
    static void promise28A21stEntry(Run r) {
        r.calls("paragraph();" + "write(0, 0, 0);".repeat(19) + "write(0, 5, 0) = 20; write(0, 0, 1) = FULL; told(10) = 20; told(11) = NONE;"
            + "tear() = 20; write(0, 0, 1) = 1; told(11) = 0");
    }

    static void promise28TheValueIsAnyInt(Run r) {
        r.calls("paragraph(); write(0, 2, 0) = 1; told(11) = NONE; write(0, 2, MIN) = 2; told(11) = 1; tear(); write(0, 2, MAX) = 1; told(11) = 0; tear();"
            + "write(0, 2, NONE) = 1; told(11) = 0; tear(); write(0, 2, 100) = 1; told(11) = 0; tear(); write(0, 0, 2) = 1; told(11) = 0");
    }

    /** An entry never becomes right by a paragraph that does not exist, though has would answer the same int. */
    static void promise28AnEntryOfAMissingParagraphIsWrongWhateverItsValue(Run r) {
        r.calls("paragraph(); write(0, 0, UNKNOWN); told(11) = 0; take(0); told(11) = 0; tear(); paragraph(); write(0, 0, NONE); take(0); told(11) = 0;"
            + "tear(); paragraph(); write(0, 0, 0); told(11) = NONE; take(0); told(11) = 0; paragraph(); told(11) = NONE");
    }

    static void promise28EntriesGoByTheNumberOfTheParagraph(Run r) {
        r.calls("paragraph(); paragraph(); direct(1, 2, 9); write(0, 2, 0); write(1, 2, 9); told(11) = NONE; swap(0, 1); told(11) = 0; swap(0, 1);"
            + "told(11) = NONE; take(0); told(11) = 0; undo(1); told(11) = NONE; take(1); told(11) = 1");
    }

    static void promise28AnEntryIsJudgedAtTheTimeOfTheCall(Run r) {
        r.calls("paragraph(); style(); write(0, 3, 7); told(11) = 0; ground(3, 7); told(11) = NONE; apply(0, 0); told(11) = NONE; sets(0, 3, 8); told(11) = 0;"
            + "direct(0, 3, 7); told(11) = NONE");
    }

    static void promise29NoEntryOr20(Run r) {
        r.calls("tear() = 0; paragraph(); write(0, 0, 0); tear() = 1; tear() = 0;" + "write(0, 0, 0);".repeat(20) + "tear() = 20; tear() = 0; told(10) = 0;"
            + "told(11) = NONE; write(0, 0, 0) = 1");
    }

    // ---- seed

    static void promise30TheRandomNumberIs0OrMore(Run r) {
        r.calls("seed(0) = 0; seed(MAX) = 0; seed(1) = MAX; told(13) = 1");
        r.each("seed(#) = OUTSIDE", -1, -2, MIN);
        r.calls("seed(0) = 1; told(13) = 0");
    }

    // ---- keep and goBack

    static void promise31TheImageIs0Or1(Run r) {
        r.calls("style(); keep(-1) = UNKNOWN; keep(2) = UNKNOWN; keep(MIN) = UNKNOWN; keep(MAX) = UNKNOWN; told(12) = 1; goBack(0) = NOT; goBack(1) = NOT;"
            + "keep(0) = 1; goBack(1) = NOT; goBack(0) = 1; keep(1) = 1; goBack(1) = 1");
    }

    static void promise31InPlaceOfWhatItContains(Run r) {
        r.calls("seed(1); style(); keep(0); keep(1); seed(2); style(); head(9); keep(0) = 1; drop(0); goBack(0) = 1; told(1) = 2; told(9) = 9; told(13) = 2;"
            + "goBack(1) = 1; told(1) = 1; told(9) = 6; told(13) = 1");
    }

    static void promise31NothingToUndoAfterThat(Run r) {
        r.calls("tidy();".repeat(16));
        r.calls("told(12) = 16; keep(0) = 1; told(12) = 0; undo(1) = NOT; style(); told(12) = 1; undo(2) = NOT; undo(1) = 0");
    }

    /** What comes after does not reach into the image, nor does undoing. */
    static void promise31AnImageDoesNotChangeWithTheObject(Run r) {
        r.calls("style(); paragraph(); sets(0, 2, 9); apply(0, 0); direct(0, 3, 9); keep(0); sets(0, 2, 8); apply(0, NONE); direct(0, 3, 8); ground(4, 4);"
            + "head(9); seed(9); undo(1); take(0); drop(0); goBack(0) = 1; styleHas(0, 2) = 9; paragraphAt(0, 0) = 0; has(0, 3) = 9; styleHas(NONE, 4) = 0;"
            + "told(9) = 6; told(13) = 0");
    }

    static void promise31AllThatIsKept(Run r) {
        r.calls("style();".repeat(6) + "parent(1, 5); sets(5, 5, 9); drift(8); apply(7, 1); ground(0, 1); head(20); keep(1);" + "drop(0);".repeat(6)
            + "take(0);".repeat(8) + "ground(0, 0); head(1); seed(0) = 342738416; goBack(1) = 1; told(0) = 8; told(1) = 6; styleAt(1, 0) = 5; styleHas(1, 5) = 9;"
            + "paragraphAt(7, 0) = 1; has(7, 3) = 10; has(7, 5) = 9; styleHas(NONE, 0) = 1; told(9) = 20; told(13) = 342738416");
    }

    static void promise32AllSixStylesAndEightParagraphsComeBack(Run r) {
        Filled.make(r);
        r.calls("keep(0);" + "drop(0);".repeat(6) + "style();".repeat(6) + "parent(0, 5);" + "take(0);".repeat(8) + "drift(8); goBack(0) = 1");
        Filled.styles(r);
        Filled.paragraphs(r);
    }

    static void promise32TheImageIs0Or1(Run r) {
        r.calls("keep(0); keep(1); style(); goBack(-1) = UNKNOWN; goBack(2) = UNKNOWN; goBack(MIN) = UNKNOWN; goBack(MAX) = UNKNOWN; told(1) = 1;"
            + "goBack(0) = 1; told(1) = 0; style(); goBack(1) = 1; told(1) = 0");
    }

    /** An image of an object without anything is not an empty image. */
    static void promise32AnEmptyImage(Run r) {
        r.calls("goBack(0) = NOT; goBack(1) = NOT; keep(0) = 1; style(); goBack(1) = NOT; told(1) = 1; told(12) = 1; goBack(0) = 1; told(1) = 0");
    }

    static void promise32TheImageStaysKept(Run r) {
        r.calls("style(); keep(0); drop(0); goBack(0) = 1; told(1) = 1; sets(0, 2, 9); drop(0); goBack(0) = 1; told(1) = 1; styleAt(0, 5) = 0; goBack(0) = 1; told(1) = 1");
    }

    static void promise32NothingToUndoAfterThat(Run r) {
        r.calls("keep(0);" + "tidy();".repeat(17) + "told(12) = 16; goBack(0) = 1; told(12) = 0; undo(1) = NOT; style(); undo(1) = 0; undo(1) = NOT");
    }

    static void promise32TheBookStays(Run r) {
        r.calls("keep(0); paragraph(); write(0, 0, 0); told(11) = NONE; goBack(0) = 1; told(10) = 1; told(11) = 0; tear() = 1; goBack(0) = 1; told(10) = 0");
    }
}
