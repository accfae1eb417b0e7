/** The three examples of the document, each call with the result that stands behind it. */
public final class ExamplesTest {
    public static void main(String[] args) {
        Due due = new Due();
        looksForWhichNoStylePays(due);
        parentsAndLooksThatAreKept(due);
        paragraphsAtRandomAndAnImage(due);
        due.end();
    }

    private static void looksForWhichNoStylePays(Due due) {
        StyleFamilies x = new StyleFamilies();
        due.is("1: paragraph()", x.paragraph(), 0);
        due.is("1: paragraph()", x.paragraph(), 1);
        due.is("1: direct(0, 2, 40)", x.direct(0, 2, 40), -1);
        due.is("1: direct(1, 2, 40)", x.direct(1, 2, 40), -1);
        due.is("1: direct(1, 0, 1)", x.direct(1, 0, 1), -1);
        due.is("1: told(2)", x.told(2), 12);
        due.is("1: told(6)", x.told(6), 12);
        due.is("1: told(7)", x.told(7), 0);
        due.is("1: adopt()", x.adopt(), 12);
        due.is("1: paragraphAt(1, 0)", x.paragraphAt(1, 0), -1);
        due.is("1: from(0, 2)", x.from(0, 2), 1);
        due.is("1: styleAt(0, 1)", x.styleAt(0, 1), -1000000001);
        due.is("1: told(3)", x.told(3), 0);
        due.is("1: undo(1)", x.undo(1), 5);
        due.is("1: told(1)", x.told(1), 0);
    }

    private static void parentsAndLooksThatAreKept(Due due) {
        StyleFamilies x = new StyleFamilies();
        due.is("2: style()", x.style(), 0);
        due.is("2: style()", x.style(), 1);
        due.is("2: sets(0, 4, 7)", x.sets(0, 4, 7), -1);
        due.is("2: parent(1, 0)", x.parent(1, 0), -1);
        due.is("2: parent(0, 1)", x.parent(0, 1), -1000000003);
        due.is("2: styleHas(1, 4)", x.styleHas(1, 4), 7);
        due.is("2: sets(1, 4, 7)", x.sets(1, 4, 7), -1);
        due.is("2: told(3)", x.told(3), 1);
        due.is("2: tidy()", x.tidy(), 1);
        due.is("2: styleAt(1, 6)", x.styleAt(1, 6), 0);
        due.is("2: reparent(1, -1)", x.reparent(1, -1), 12);
        due.is("2: drop(0)", x.drop(0), 1);
        due.is("2: styleHas(0, 4)", x.styleHas(0, 4), 7);
        due.is("2: head(0)", x.head(0), -1000000002);
        due.is("2: write(0, 0, 1)", x.write(0, 0, 1), -1000000001);
    }

    private static void paragraphsAtRandomAndAnImage(Due due) {
        StyleFamilies x = new StyleFamilies();
        due.is("3: seed(5)", x.seed(5), 0);
        due.is("3: drift(2)", x.drift(2), 2);
        due.is("3: told(4)", x.told(4), 2);
        due.is("3: has(0, 0)", x.has(0, 0), 1);
        due.is("3: apart(0, -1)", x.apart(0, -1), 9);
        due.is("3: swap(0, 1)", x.swap(0, 1), 1);
        due.is("3: keep(0)", x.keep(0), 1);
        due.is("3: take(1)", x.take(1), 1);
        due.is("3: goBack(0)", x.goBack(0), 1);
        due.is("3: told(0)", x.told(0), 2);
        due.is("3: goBack(1)", x.goBack(1), -1000000003);
        due.is("3: undo(1)", x.undo(1), -1000000003);
        due.is("3: undo(17)", x.undo(17), -1000000002);
    }
}
