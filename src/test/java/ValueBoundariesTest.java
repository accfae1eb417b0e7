/** The document's sentences on the six properties, on their values and bits, and on the ground. */
public final class ValueBoundariesTest {
    private static final int MIN = Integer.MIN_VALUE, MAX = Integer.MAX_VALUE;

    public static void main(String[] args) throws ReflectiveOperationException {
        Run.all(ValueBoundariesTest.class);
    }

    static void sentenceThereAreSixPropertiesForTheCallsThatTell(Run r) {
        r.calls("style(); paragraph()");
        r.each("has(0, #) = 0; from(0, #) = 0; styleHas(0, #) = 0; styleHas(NONE, #) = 0; lookAt(0, #) = 0", 0, 5);
        r.each("has(0, #) = UNKNOWN; from(0, #) = UNKNOWN; styleHas(0, #) = UNKNOWN; styleHas(NONE, #) = UNKNOWN;"
            + "lookAt(0, #) = UNKNOWN", -1, 6, MIN, MAX);
    }

    static void sentenceThereAreSixPropertiesForTheCallsThatChange(Run r) {
        r.calls("style(); paragraph()");
        r.each("direct(0, #, 1) = NONE; sets(0, #, 1) = NONE; ground(#, 1) = 0; has(0, #) = 1; styleHas(0, #) = 1", 0, 5);
        r.calls("write(0, 0, 1) = 1; write(0, 5, 1) = 2");
        r.each("direct(0, #, 1) = UNKNOWN; sets(0, #, 1) = UNKNOWN; ground(#, 1) = UNKNOWN; write(0, #, 1) = UNKNOWN;"
            + "direct(0, #, NONE) = UNKNOWN; sets(0, #, NONE) = UNKNOWN", -1, 6, MIN, MAX);
        r.calls("paragraphAt(0, 5) = 33; styleAt(0, 5) = 33; told(10) = 2");
    }

    static void sentence0And1AreFlags0Or1(Run r) {
        valuesUpTo(r, 0, 1);
        valuesUpTo(r, 1, 1);
    }

    static void sentence2And3AreSizes0To99(Run r) {
        valuesUpTo(r, 2, 99);
        valuesUpTo(r, 3, 99);
    }

    static void sentence4And5AreNames0To9(Run r) {
        valuesUpTo(r, 4, 9);
        valuesUpTo(r, 5, 9);
    }

    private static void valuesUpTo(Run r, int property, int top) {
        r.anew();
        r.calls("paragraph(); style()");
        r.calls(about(property, top, "direct(0, P, 0) = NONE; has(0, P) = 0; from(0, P) = 1;"
            + "direct(0, P, TOP) = 0; has(0, P) = TOP; lookAt(0, P) = TOP;"
            + "direct(0, P, OVER) = OUTSIDE; direct(0, P, -2) = OUTSIDE; direct(0, P, MIN) = OUTSIDE;"
            + "direct(0, P, MAX) = OUTSIDE; direct(0, P, UNKNOWN) = OUTSIDE; has(0, P) = TOP; direct(0, P, NONE) = TOP"));
        r.calls(about(property, top, "sets(0, P, 0) = NONE; styleHas(0, P) = 0; styleAt(0, 5) = BIT;"
            + "sets(0, P, TOP) = 0; styleHas(0, P) = TOP;"
            + "sets(0, P, OVER) = OUTSIDE; sets(0, P, -2) = OUTSIDE; sets(0, P, MIN) = OUTSIDE;"
            + "sets(0, P, MAX) = OUTSIDE; sets(0, P, UNKNOWN) = OUTSIDE; styleHas(0, P) = TOP; sets(0, P, NONE) = TOP"));
        r.calls(about(property, top, "ground(P, 0) = 0; ground(P, TOP) = 0; styleHas(NONE, P) = TOP;"
            + "ground(P, OVER) = OUTSIDE; ground(P, NONE) = OUTSIDE; ground(P, -2) = OUTSIDE; ground(P, MIN) = OUTSIDE;"
            + "ground(P, MAX) = OUTSIDE; styleHas(NONE, P) = TOP; has(0, P) = TOP; ground(P, 0) = TOP; has(0, P) = 0"));
    }

    private static String about(int property, int top, String text) {
        return text.replace("BIT", "" + (1 << property)).replace("TOP", "" + top).replace("OVER", "" + (top + 1))
            .replace(" P,", " " + property + ",").replace(" P)", " " + property + ")")
            .replace("(P,", "(" + property + ",");
    }

    static void sentenceAFlagTakes2Bits(Run r) {
        for (int property = 0; property <= 1; property++) {
            takes(r, property, 0, 2);
            takes(r, property, 1, 2);
        }
    }

    static void sentenceASizeTakes4BitsIfLessThan10Otherwise5(Run r) {
        for (int property = 2; property <= 3; property++) {
            takes(r, property, 0, 4);
            takes(r, property, 9, 4);
            takes(r, property, 10, 5);
            takes(r, property, 99, 5);
        }
    }

    static void sentenceANameTakes3BitsPlusHalfOfItsValueRoundedDown(Run r) {
        int[] bits = {3, 3, 4, 4, 5, 5, 6, 6, 7, 7};
        for (int property = 4; property <= 5; property++) {
            for (int value = 0; value < bits.length; value++) {
                takes(r, property, value, bits[value]);
            }
        }
    }

    /** As costs of a paragraph, of a style and of everything, and as the distance from a ground with another value. */
    private static void takes(Run r, int property, int value, int bits) {
        String at = property + ", " + value;
        r.anew();
        r.calls("paragraph(); style(); ground(" + property + ", " + (value == 0 ? 1 : 0) + ");"
            + "direct(0, " + at + "); sets(0, " + at + ")");
        r.calls("paragraphAt(0, 1) = B; paragraphAt(0, 5) = P; styleAt(0, 1) = 6+B; told(2) = 6+B+B; apart(0, NONE) = B"
            .replace("B", "" + bits).replace("P", "" + (1 << property)));
    }

    static void sentenceTheGroundHas0ForEachPropertyAtFirst(Run r) {
        r.each("styleHas(NONE, #) = 0", 0, 1, 2, 3, 4, 5);
        r.calls("styleHas(NONE, -1) = UNKNOWN; styleHas(NONE, 6) = UNKNOWN; paragraph(); style()");
        r.each("has(0, #) = 0; styleHas(0, #) = 0; ground(#, 1) = 0; has(0, #) = 1; styleHas(0, #) = 1", 0, 1, 2, 3, 4, 5);
    }

    static void sentenceTheGroundHasAValueForEachPropertyByItself(Run r) {
        r.calls("ground(0, 1) = 0; ground(1, 1) = 0; ground(2, 99) = 0; ground(3, 98) = 0; ground(4, 9) = 0; ground(5, 8) = 0;"
            + "styleHas(NONE, 0) = 1; styleHas(NONE, 1) = 1; styleHas(NONE, 2) = 99; styleHas(NONE, 3) = 98;"
            + "styleHas(NONE, 4) = 9; styleHas(NONE, 5) = 8");
    }
}
