/** The document's sentences on the error codes, on their order, on NONE, and on how long an object is used. */
public final class ErrorBoundariesTest {
    public static void main(String[] args) throws ReflectiveOperationException {
        Run.all(ErrorBoundariesTest.class);
    }

    static void sentenceUnknownIsThereIsNoSuchParagraphStylePropertyLookOrImage(Run r) {
        r.calls("style(); paragraph(); has(0, 0) = 0; has(1, 0) = UNKNOWN; styleAt(0, 0) = NONE; styleAt(1, 0) = UNKNOWN;"
            + "ground(5, 0) = 0; ground(6, 0) = UNKNOWN; lookAt(0, 0) = 0; lookAt(1, 0) = UNKNOWN; keep(1) = 1; keep(2) = UNKNOWN");
    }

    static void sentenceUnknownComesBeforeOutside(Run r) {
        r.calls("style(); paragraph(); paragraphAt(0, 6) = OUTSIDE; paragraphAt(1, 6) = UNKNOWN; paragraphAt(NONE, -1) = UNKNOWN;"
            + "styleAt(0, 7) = OUTSIDE; styleAt(1, 7) = UNKNOWN; styleAt(NONE, -1) = UNKNOWN;"
            + "direct(0, 0, 2) = OUTSIDE; direct(1, 0, 2) = UNKNOWN; direct(0, 6, 2) = UNKNOWN; direct(0, -1, -2) = UNKNOWN;"
            + "sets(0, 0, 2) = OUTSIDE; sets(1, 0, 2) = UNKNOWN; sets(0, 6, 2) = UNKNOWN; sets(0, -1, -2) = UNKNOWN;"
            + "ground(0, 2) = OUTSIDE; ground(6, 2) = UNKNOWN; ground(-1, -1) = UNKNOWN");
    }

    static void sentenceUnknownComesBeforeNot(Run r) {
        r.calls("style(); parent(0, 0) = NOT; parent(1, 1) = UNKNOWN; parent(0, 1) = UNKNOWN; reparent(0, 0) = NOT;"
            + "reparent(1, 1) = UNKNOWN; reparent(-2, -2) = UNKNOWN; goBack(1) = NOT; goBack(2) = UNKNOWN; goBack(-1) = UNKNOWN");
    }

    static void sentenceUnknownComesBeforeFull(Run r) {
        r.calls("paragraph();" + "write(0, 0, 0);".repeat(20));
        r.calls("write(0, 0, 0) = FULL; write(1, 0, 0) = UNKNOWN; write(0, 6, 0) = UNKNOWN; write(NONE, -1, 0) = UNKNOWN;"
            + "take(0); write(0, 0, 0) = UNKNOWN; told(10) = 20");
    }

    static void sentenceOutsideComesBeforeNot(Run r) {
        r.calls("undo(1) = NOT; undo(16) = NOT; undo(0) = OUTSIDE; undo(17) = OUTSIDE; undo(-1) = OUTSIDE; undo(MAX) = OUTSIDE");
    }

    /** NONE stands for a style or a value in some places; an error of another argument is still an error. */
    static void sentenceAMethodReturnsNoneOnlyIfNoErrorApplies(Run r) {
        r.calls("style(); paragraph(); apply(0, NONE) = NONE; apply(1, NONE) = UNKNOWN; apply(NONE, NONE) = UNKNOWN;"
            + "parent(0, NONE) = NONE; parent(1, NONE) = UNKNOWN; parent(NONE, NONE) = UNKNOWN;"
            + "restyle(0, NONE) = 0; restyle(1, NONE) = UNKNOWN; restyle(NONE, NONE) = UNKNOWN;"
            + "reparent(0, NONE) = 6; reparent(1, NONE) = UNKNOWN; reparent(NONE, NONE) = UNKNOWN;"
            + "direct(0, 0, NONE) = NONE; direct(1, 0, NONE) = UNKNOWN; direct(0, NONE, NONE) = UNKNOWN;"
            + "sets(0, 0, NONE) = NONE; sets(1, 0, NONE) = UNKNOWN; sets(0, NONE, NONE) = UNKNOWN;"
            + "paragraphAt(0, 0) = NONE; paragraphAt(1, 0) = UNKNOWN; paragraphAt(0, 2) = NONE; paragraphAt(NONE, 2) = UNKNOWN;"
            + "styleAt(0, 0) = NONE; styleAt(1, 0) = UNKNOWN; styleAt(0, 6) = NONE; styleAt(NONE, 6) = UNKNOWN;"
            + "apart(0, NONE) = 0; apart(1, NONE) = UNKNOWN; apart(NONE, NONE) = UNKNOWN; styleHas(NONE, 0) = 0;"
            + "styleHas(NONE, 6) = UNKNOWN; told(11) = NONE; told(-1) = OUTSIDE");
    }

    /** Six styles, eight paragraphs, an image or two, a full book and 16 deeds: all that a call could spoil. */
    private static void everythingUsed(Run r, int images) {
        r.calls("seed(3); ground(5, 4); head(9); style(); style(); paragraph(); paragraph(); direct(0, 2, 5)");
        r.calls(images == 2 ? "keep(0); head(8); keep(1)" : "keep(0)");
        r.calls("drift(6)");
        r.calls("style();".repeat(4));
        r.calls("parent(1, 0); parent(2, 1); sets(0, 3, 7); sets(1, 3, 8); apply(7, 2); apply(6, 1)");
        r.calls("write(0, 2, 5);".repeat(20));
        r.calls("told(0) = 8; told(1) = 6; told(12) = 16; told(10) = 20; told(11) = NONE");
    }

    static void sentenceACallThatReturnsAnErrorChangesNothingOfThoseThatTell(Run r) {
        everythingUsed(r, 2);
        r.calls("told(14) = OUTSIDE; has(8, 0) = UNKNOWN; from(8, 0) = UNKNOWN; paragraphAt(8, 0) = UNKNOWN; paragraphAt(0, 6) = OUTSIDE;"
            + "styleAt(6, 0) = UNKNOWN; styleAt(0, 7) = OUTSIDE; styleHas(6, 0) = UNKNOWN; lookAt(8, 0) = UNKNOWN; apart(0, 8) = UNKNOWN");
    }

    static void sentenceACallThatReturnsAnErrorChangesNothingOfTheDeeds(Run r) {
        everythingUsed(r, 2);
        r.calls("paragraph() = FULL; style() = FULL; direct(8, 0, 0) = UNKNOWN; direct(0, 2, 100) = OUTSIDE; sets(6, 0, 0) = UNKNOWN;"
            + "sets(0, 3, 100) = OUTSIDE; ground(6, 0) = UNKNOWN; ground(5, 10) = OUTSIDE; head(21) = OUTSIDE; apply(8, 0) = UNKNOWN;"
            + "apply(7, 6) = UNKNOWN; parent(6, 0) = UNKNOWN; parent(1, 6) = UNKNOWN; parent(0, 2) = NOT; restyle(8, 0) = UNKNOWN;"
            + "restyle(7, 6) = UNKNOWN; reparent(6, 0) = UNKNOWN; reparent(2, 6) = UNKNOWN; reparent(0, 2) = NOT; drop(6) = UNKNOWN;"
            + "take(8) = UNKNOWN; swap(0, 8) = UNKNOWN; swap(8, 0) = UNKNOWN; drift(0) = OUTSIDE; drift(9) = OUTSIDE");
        r.calls("told(11) = NONE; told(12) = 16");
    }

    static void sentenceACallThatReturnsAnErrorChangesNothingOfUndoAndBook(Run r) {
        everythingUsed(r, 2);
        r.calls("undo(0) = OUTSIDE; undo(17) = OUTSIDE; undo(4) = 12; undo(13) = NOT; write(8, 0, 0) = UNKNOWN; write(0, 0, 1) = FULL;"
            + "seed(-1) = OUTSIDE; told(11) = NONE; told(12) = 12");
    }

    static void sentenceACallThatReturnsAnErrorChangesNothingOfTheImages(Run r) {
        everythingUsed(r, 2);
        r.calls("keep(2) = UNKNOWN; keep(-1) = UNKNOWN; goBack(2) = UNKNOWN; goBack(-1) = UNKNOWN");
        r.anew();
        everythingUsed(r, 1);
        r.calls("keep(2) = UNKNOWN; goBack(1) = NOT; goBack(2) = UNKNOWN; told(12) = 16");
    }

    static void sentenceTheFiguresChangeNothing(Run r) {
        everythingUsed(r, 2);
        for (int what = 0; what <= 13; what++) {
            r.tells("told(" + what + ")");
        }
        for (int what = 0; what <= 6; what++) {
            r.tells("styleAt(2, " + what + ")");
        }
        for (int what = 0; what <= 5; what++) {
            r.tells("paragraphAt(7, " + what + ")");
        }
        r.tells("has(0, 2) = 5; from(0, 2) = 1; from(7, 5); styleHas(2, 3) = 8; styleHas(NONE, 5) = 4; lookAt(0, 5); apart(0, NONE); apart(0, 1)");
    }

    static void sentenceAnObjectIsUsedForAtMost512Calls(Run r) {
        r.calls("paragraph()");
        for (int k = 0; k < 250; k++) {
            r.calls("direct(0, 3, " + k % 100 + "); told(7) = 0");
        }
        // The last of these is call 512.
        r.calls("has(0, 3) = 49; told(12) = 16; undo(16) = 0; has(0, 3) = 33; adopt() = 5; told(6) = 5; knit() = 5; tidy() = 0;"
            + "told(12) = 3; undo(2) = 1; told(12) = 1");
    }
}
