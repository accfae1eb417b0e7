/** An object with six styles and eight paragraphs, all of whose properties are set or given, each with a value of its own. */
final class Filled {
    private Filled() {
    }

    static void make(Run r) {
        for (int s = 0; s < 6; s++) {
            r.calls("style(); parent(" + s + ", " + (s - 1) + ")");
            for (int property = 0; property < 6; property++) {
                r.calls("sets(" + s + ", " + property + ", " + value(s, property) + ")");
            }
        }
        for (int p = 0; p < 8; p++) {
            r.calls("paragraph(); apply(" + p + ", " + styleOf(p) + ")");
            for (int property = 0; property < 6; property++) {
                r.calls("direct(" + p + ", " + property + ", " + value(p + 1, property) + ")");
            }
        }
    }

    static void styles(Run r) {
        r.calls("told(1) = 6");
        for (int s = 0; s < 6; s++) {
            r.calls("styleAt(" + s + ", 0) = " + (s - 1) + "; styleAt(" + s + ", 5) = 63");
            for (int property = 0; property < 6; property++) {
                r.calls("styleHas(" + s + ", " + property + ") = " + value(s, property));
            }
        }
    }

    static void paragraphs(Run r) {
        r.calls("told(0) = 8");
        for (int p = 0; p < 8; p++) {
            paragraph(r, p, p);
        }
    }

    /** Paragraph p has what paragraph q had at first. */
    static void paragraph(Run r, int p, int q) {
        r.calls("paragraphAt(" + p + ", 0) = " + styleOf(q) + "; paragraphAt(" + p + ", 5) = 63");
        for (int property = 0; property < 6; property++) {
            r.calls("has(" + p + ", " + property + ") = " + value(q + 1, property));
        }
    }

    private static int styleOf(int p) {
        return 5 - p % 6;
    }

    private static int value(int row, int property) {
        if (property < 2) {
            return (row + property) % 2;
        }
        return property < 4 ? 10 * row + property : row + property - 4;
    }
}
