/** For each promise of the document: ordinary inputs, the edges that it names, and wrong inputs. */
public final class PromiseTest {
    private static final String ARGUMENT = "IllegalArgumentException";
    private static final String INDEX = "IndexOutOfBoundsException";
    private static final String STATE = "IllegalStateException";

    private static final int LAYER = 0;
    private static final int CUT = 1;
    private static final int FILL = 2;
    private static final int WALL = 3;

    private static final int OVER = 0;
    private static final int CUTS = 1;
    private static final int FILLS = 2;
    private static final int AGAINST = 3;
    private static final int SAME = 4;

    private static final int LEAST = Integer.MIN_VALUE;
    private static final int MOST = Integer.MAX_VALUE;

    private static int wrong = 0;
    private static String promise = "";

    private interface Call {
        void run();
    }

    public static void main(String[] args) {
        testNewObject();
        testAddUnit();
        testRelate();
        testRelateExceptions();
        testRelateFull();
        testTakeBack();
        testRelation();
        testCount();
        testUnit();
        testOrder();
        testIsLinked();
        testRow();
        testWay();
        testWayOfLinksAlone();
        testBetween();
        testAddFind();
        testPlace();
        testMove();
        testFind();
        testDate();
        testBound();
        testDoubt();
        testNearest();
        testDig();
        testNext();
        testSetPhase();
        testPhaseAll();
        testOutOfPhase();
        testMeanHeight();
        testDigest();
        testAnswersChangeNothing();
        testFull();
        System.out.println(wrong == 0 ? "all promises hold" : wrong + " answers are not as due");
        System.exit(wrong == 0 ? 0 : 1);
    }

    // ---- promises 1 to 7: units and relations

    private static void testNewObject() {
        promise = "1, a new object";
        TrenchBook book = new TrenchBook();
        for (int what = 0; what <= 8; what++) {
            due("count(" + what + ")", book.count(what), 0);
        }
        due("row(0, true, 0)", book.row(0, true, 0), -1);
        due("row(0, false, 0)", book.row(0, false, 0), -1);
        due("doubt(0)", book.doubt(0), -1);
        due("next(0)", book.next(0), -1);
        due("nearest(0, 0, 0, -1)", book.nearest(0, 0, 0, -1), -1);
        due("phaseAll()", book.phaseAll(), 0);
        due("outOfPhase(false)", book.outOfPhase(false), -1);
        due("outOfPhase(true)", book.outOfPhase(true), -1);
        throwsOn("unit(0, 0)", INDEX, () -> book.unit(0, 0));
        throwsOn("relation(0, 0)", INDEX, () -> book.relation(0, 0));
        throwsOn("find(0, 0)", INDEX, () -> book.find(0, 0));
        TrenchBook other = new TrenchBook();
        other.addUnit(LAYER);
        due("count(0) of one object while another one has a unit", book.count(0), 0);
    }

    private static void testAddUnit() {
        promise = "2, addUnit";
        TrenchBook book = new TrenchBook();
        int[] bad = {-1, 4, LEAST, MOST};
        for (int sort : bad) {
            throwsOn("addUnit(" + sort + ")", ARGUMENT, () -> book.addUnit(sort));
        }
        due("count(0) after refusals", book.count(0), 0);
        for (int number = 0; number < 40; number++) {
            due("addUnit", book.addUnit(number % 4), number);
            due("its sort", book.unit(number, 0), number % 4);
        }
        throwsOn("addUnit(0) with 40", STATE, () -> book.addUnit(0));
        throwsOn("addUnit(4) with 40", ARGUMENT, () -> book.addUnit(4));
        due("count(0)", book.count(0), 40);
    }

    private static void testRelate() {
        promise = "3, relate";
        // units: 0 and 1 layers, 2 and 3 cuts, 4 and 5 fills, 6 and 7 walls
        int[] sorts = {LAYER, LAYER, CUT, CUT, FILL, FILL, WALL, WALL};
        for (int kind = OVER; kind <= SAME; kind++) {
            for (int a = 0; a < 8; a++) {
                for (int b = 0; b < 8; b++) {
                    TrenchBook book = bookOf(sorts);
                    int due = a == b ? 1 : fits(kind, sorts[a], sorts[b]) ? 0 : 2;
                    due("relate(" + kind + ", " + a + ", " + b + ")", book.relate(kind, a, b), due);
                    due("count(1)", book.count(1), due == 0 ? 1 : 0);
                }
            }
        }
        testRelateTold();
        testRelateLoops();
    }

    private static boolean fits(int kind, int sortOfA, int sortOfB) {
        boolean[] each = {true, sortOfA == CUT, sortOfA == FILL && sortOfB == CUT, sortOfA == WALL,
            sortOfA == sortOfB};
        return each[kind];
    }

    private static void testRelateTold() {
        TrenchBook book = bookOf(LAYER, CUT, FILL, LAYER, WALL);
        due("relate(1, 1, 0)", book.relate(CUTS, 1, 0), 0);
        due("the same again", book.relate(CUTS, 1, 0), 3);
        due("of another kind", book.relate(OVER, 1, 0), 0);
        due("of another kind again", book.relate(OVER, 1, 0), 3);
        due("turned round, which is a loop", book.relate(OVER, 0, 1), 4);
        due("unfit and a loop", book.relate(CUTS, 0, 1), 2);
        due("relate(4, 0, 3)", book.relate(SAME, 0, 3), 0);
        due("the same again", book.relate(SAME, 0, 3), 3);
        due("the same turned round", book.relate(SAME, 3, 0), 3);
        due("over the one that is the same", book.relate(OVER, 0, 3), 4);
        due("equal units first", book.relate(FILLS, 0, 0), 1);
        due("equal units of kind 4", book.relate(SAME, 3, 3), 1);
        due("count(1)", book.count(1), 3);
        book.takeBack(0);
        due("a relation that was taken back", book.relate(CUTS, 1, 0), 0);
    }

    private static void testRelateLoops() {
        TrenchBook book = bookOf(LAYER, LAYER, LAYER, LAYER, LAYER);
        due("0 over 1", book.relate(OVER, 0, 1), 0);
        due("1 over 2", book.relate(OVER, 1, 2), 0);
        due("2 over 0", book.relate(OVER, 2, 0), 4);
        due("0 and 2 the same", book.relate(SAME, 0, 2), 4);
        due("2 and 0 the same", book.relate(SAME, 2, 0), 4);
        due("2 and 3 the same", book.relate(SAME, 2, 3), 0);
        due("3 over 1", book.relate(OVER, 3, 1), 4);
        due("3 and 4 the same", book.relate(SAME, 3, 4), 0);
        due("2 and 4 the same, by way of 3", book.relate(SAME, 2, 4), 0);
        due("4 over 2, of one body", book.relate(OVER, 4, 2), 4);
        due("4 over 0", book.relate(OVER, 4, 0), 4);
        due("0 over 4", book.relate(OVER, 0, 4), 0);
        due("count(1)", book.count(1), 6);
        due("count(2)", book.count(2), 3);
    }

    private static void testRelateExceptions() {
        TrenchBook book = bookOf(LAYER, LAYER);
        int[] badKinds = {-1, 5, LEAST, MOST};
        for (int kind : badKinds) {
            throwsOn("relate(" + kind + ", 0, 1)", ARGUMENT, () -> book.relate(kind, 0, 1));
            throwsOn("relate(" + kind + ", 9, 9)", ARGUMENT, () -> book.relate(kind, 9, 9));
        }
        int[] badUnits = {-1, 2, LEAST, MOST};
        for (int unit : badUnits) {
            throwsOn("relate(0, " + unit + ", 1)", INDEX, () -> book.relate(OVER, unit, 1));
            throwsOn("relate(0, 0, " + unit + ")", INDEX, () -> book.relate(OVER, 0, unit));
            throwsOn("relate(4, " + unit + ", " + unit + ")", INDEX, () -> book.relate(SAME, unit, unit));
        }
        due("count(1)", book.count(1), 0);
    }

    private static void testRelateFull() {
        TrenchBook book = bookOfLayers(20);
        int told = 0;
        for (int a = 0; a < 20 && told < 80; a++) {
            for (int b = a + 1; b < 20 && told < 80; b++) {
                due("relate below 80", book.relate(OVER, a, b), 0);
                told++;
            }
        }
        due("count(1)", book.count(1), 80);
        throwsOn("relate with 80", STATE, () -> book.relate(OVER, 18, 19));
        throwsOn("what would be refused, with 80", STATE, () -> book.relate(OVER, 0, 0));
        throwsOn("what was told, with 80", STATE, () -> book.relate(OVER, 0, 1));
        throwsOn("a bad unit with 80", INDEX, () -> book.relate(OVER, 0, 20));
        throwsOn("a bad kind with 80", ARGUMENT, () -> book.relate(5, 0, 20));
        due("takeBack(79)", book.takeBack(79), 79);
        due("relate with 79", book.relate(OVER, 18, 19), 0);
    }

    private static void testTakeBack() {
        promise = "4, takeBack";
        TrenchBook book = bookOf(LAYER, LAYER, LAYER, LAYER);
        book.relate(OVER, 0, 1);
        book.relate(OVER, 1, 2);
        book.relate(SAME, 2, 3);
        book.relate(OVER, 0, 3);
        int[] bad = {-1, 4, LEAST, MOST};
        for (int relation : bad) {
            throwsOn("takeBack(" + relation + ")", INDEX, () -> book.takeBack(relation));
        }
        due("order(0, 2)", book.order(0, 2), 1);
        due("takeBack(1)", book.takeBack(1), 3);
        dueRelation(book, 0, OVER, 0, 1);
        dueRelation(book, 1, SAME, 2, 3);
        dueRelation(book, 2, OVER, 0, 3);
        due("order(1, 2) then", book.order(1, 2), 2);
        due("order(0, 2) then, by way of 3", book.order(0, 2), 1);
        due("takeBack of what makes a body", book.takeBack(1), 2);
        due("unit(3, 1) then", book.unit(3, 1), 3);
        due("unit(2, 2) then", book.unit(2, 2), 1);
        due("order(0, 2) then", book.order(0, 2), 2);
        due("takeBack of the last one", book.takeBack(1), 1);
        due("takeBack of the only one", book.takeBack(0), 0);
        throwsOn("takeBack(0) with none", INDEX, () -> book.takeBack(0));
        due("count(2)", book.count(2), 4);
        book.relate(SAME, 1, 0);
        due("unit(1, 1), by the first relation", book.unit(1, 1), 0);
        due("unit(0, 2)", book.unit(0, 2), 2);
        book.takeBack(0);
        due("unit(1, 1) then", book.unit(1, 1), 1);
        due("unit(0, 2) then", book.unit(0, 2), 1);
    }

    private static void testRelation() {
        promise = "5, relation";
        TrenchBook book = bookOf(LAYER, CUT, FILL, WALL, LAYER);
        book.relate(SAME, 4, 0);
        book.relate(CUTS, 1, 0);
        book.relate(FILLS, 2, 1);
        book.relate(AGAINST, 3, 1);
        dueRelation(book, 0, SAME, 4, 0);
        dueRelation(book, 1, CUTS, 1, 0);
        dueRelation(book, 2, FILLS, 2, 1);
        dueRelation(book, 3, AGAINST, 3, 1);
        int[] badRelations = {-1, 4, LEAST, MOST};
        for (int relation : badRelations) {
            throwsOn("relation(" + relation + ", 0)", INDEX, () -> book.relation(relation, 0));
        }
        int[] badWhats = {-1, 3, LEAST, MOST};
        for (int what : badWhats) {
            throwsOn("relation(0, " + what + ")", INDEX, () -> book.relation(0, what));
        }
    }

    private static void dueRelation(TrenchBook book, int relation, int kind, int a, int b) {
        due("relation(" + relation + ", 0)", book.relation(relation, 0), kind);
        due("relation(" + relation + ", 1)", book.relation(relation, 1), a);
        due("relation(" + relation + ", 2)", book.relation(relation, 2), b);
    }

    private static void testCount() {
        promise = "6, count";
        TrenchBook book = bookOfLayers(6);
        book.relate(OVER, 0, 1);
        book.relate(OVER, 1, 2);
        book.relate(OVER, 0, 2);
        book.relate(SAME, 3, 2);
        book.relate(OVER, 1, 3);
        book.addFind(2, 0, 100, 200);
        book.addFind(2, 0, 100, 200);
        book.date(0, 0, 50);
        book.dig(0);
        book.dig(1);
        book.dig(5);
        book.setPhase(3, 4);
        dueCounts(book, 6, 5, 5, 2, 2, 3, 3, 3, 3);
        int[] bad = {-1, 9, LEAST, MOST};
        for (int what : bad) {
            throwsOn("count(" + what + ")", INDEX, () -> book.count(what));
        }
        dueCounts(bookOfLayers(1), 1, 0, 1, 0, 0, 0, 0, 1, 0);
        TrenchBook chain = chainOf(40);
        dueCounts(chain, 40, 39, 40, 39, 0, 0, 0, 40, 0);
        chain.setPhase(39, 1);
        due("count(8) of 39 pairs", chain.count(8), 39);
    }

    private static void dueCounts(TrenchBook book, int... counts) {
        for (int what = 0; what <= 8; what++) {
            due("count(" + what + ")", book.count(what), counts[what]);
        }
    }

    private static void testUnit() {
        promise = "7, unit";
        TrenchBook book = bookOf(LAYER, CUT, FILL, WALL, CUT, LAYER, CUT);
        book.relate(CUTS, 4, 0);
        book.relate(SAME, 4, 1);
        book.relate(FILLS, 2, 1);
        book.relate(AGAINST, 3, 2);
        book.relate(OVER, 5, 0);
        book.relate(SAME, 6, 4);
        book.addFind(4, 0, 0, 0);
        book.addFind(4, 0, 0, 0);
        book.addFind(1, 0, 0, 0);
        book.dig(3);
        book.setPhase(4, 20);
        // sort, body, units, below, above, earlier, later, dug, phase, finds
        dueUnit(book, 0, 0, 0, 1, 0, 3, 0, 4, 0, 0, 0);
        dueUnit(book, 1, 1, 1, 3, 1, 2, 1, 2, 0, 0, 1);
        dueUnit(book, 2, 2, 2, 1, 2, 1, 2, 1, 0, 0, 0);
        dueUnit(book, 3, 3, 3, 1, 3, 0, 3, 0, 1, 0, 0);
        dueUnit(book, 4, 1, 1, 3, 1, 2, 1, 2, 0, 20, 2);
        dueUnit(book, 5, 0, 5, 1, 1, 0, 1, 0, 0, 0, 0);
        dueUnit(book, 6, 1, 1, 3, 1, 2, 1, 2, 0, 0, 0);
        int[] badUnits = {-1, 7, LEAST, MOST};
        for (int unit : badUnits) {
            throwsOn("unit(" + unit + ", 0)", INDEX, () -> book.unit(unit, 0));
        }
        int[] badWhats = {-1, 10, LEAST, MOST};
        for (int what : badWhats) {
            throwsOn("unit(0, " + what + ")", INDEX, () -> book.unit(0, what));
        }
        TrenchBook chain = chainOf(40);
        dueUnit(chain, 0, 0, 0, 1, 39, 0, 39, 0, 0, 0, 0);
        dueUnit(chain, 39, 0, 39, 1, 0, 39, 0, 39, 0, 0, 0);
    }

    private static void dueUnit(TrenchBook book, int unit, int... facts) {
        for (int what = 0; what <= 9; what++) {
            due("unit(" + unit + ", " + what + ")", book.unit(unit, what), facts[what]);
        }
    }

    // ---- promises 8 to 12: the matrix

    private static void testOrder() {
        promise = "8, order";
        TrenchBook book = bookOfLayers(5);
        book.relate(OVER, 0, 1);
        book.relate(SAME, 1, 2);
        book.relate(OVER, 2, 3);
        due("order(0, 3)", book.order(0, 3), 1);
        due("order(3, 0)", book.order(3, 0), -1);
        due("order(1, 2)", book.order(1, 2), 0);
        due("order(2, 2)", book.order(2, 2), 0);
        due("order(0, 2)", book.order(0, 2), 1);
        due("order(4, 0)", book.order(4, 0), 2);
        due("order(0, 4)", book.order(0, 4), 2);
        dueBadUnitPairs("order", 5, (a, b) -> book.order(a, b));
    }

    private static void testIsLinked() {
        promise = "9, isLinked";
        TrenchBook book = bookOfLayers(6);
        book.relate(OVER, 5, 3);
        book.relate(OVER, 3, 1);
        book.relate(OVER, 5, 1);
        book.relate(SAME, 1, 0);
        due("5 to 3", book.isLinked(5, 3), true);
        due("3 to 1", book.isLinked(3, 1), true);
        due("3 to 0, of the body", book.isLinked(3, 0), true);
        due("5 to 1, by way of 3", book.isLinked(5, 1), false);
        due("3 to 5, turned round", book.isLinked(3, 5), false);
        due("0 to 1, of one body", book.isLinked(0, 1), false);
        due("2 to 4, not related", book.isLinked(2, 4), false);
        due("2 to itself", book.isLinked(2, 2), false);
        book.takeBack(0);
        due("5 to 1 then", book.isLinked(5, 1), true);
        book.relate(OVER, 5, 2);
        book.relate(OVER, 2, 4);
        book.relate(OVER, 4, 1);
        due("5 to 1, by way of 2 and 4", book.isLinked(5, 1), false);
        due("5 to 4, not directly", book.isLinked(5, 4), false);
        TrenchBook third = bookOfLayers(3);
        third.relate(OVER, 1, 0);
        third.relate(OVER, 0, 2);
        third.relate(OVER, 1, 2);
        due("1 to 2, by way of 0", third.isLinked(1, 2), false);
        due("1 to 0", third.isLinked(1, 0), true);
        due("count(3)", third.count(3), 2);
        dueBadUnitPairs("isLinked", 6, (a, b) -> book.isLinked(a, b));
    }

    private static void testRow() {
        promise = "10, row";
        TrenchBook book = bookOfLayers(7);
        book.relate(OVER, 4, 2);
        book.relate(OVER, 2, 6);
        book.relate(OVER, 1, 6);
        book.relate(SAME, 2, 0);
        dueRow(book, 0, true, 3, 5, 6);
        dueRow(book, 1, true, 0, 1);
        dueRow(book, 2, true, 4);
        dueRow(book, 3, true);
        dueRow(book, 39, true);
        dueRow(book, 0, false, 1, 3, 4, 5);
        dueRow(book, 1, false, 0);
        dueRow(book, 2, false, 6);
        dueRow(book, 3, false);
        int[] bad = {-1, 40, LEAST, MOST};
        for (int number : bad) {
            throwsOn("row(" + number + ", true, 0)", INDEX, () -> book.row(number, true, 0));
            throwsOn("row(0, false, " + number + ")", INDEX, () -> book.row(0, false, number));
        }
        TrenchBook wide = bookOfLayers(40);
        due("row(0, true, 39)", wide.row(0, true, 39), 39);
        due("row(0, false, 39)", wide.row(0, false, 39), 39);
        TrenchBook chain = chainOf(40);
        due("row(39, true, 0)", chain.row(39, true, 0), 0);
        due("row(39, false, 0)", chain.row(39, false, 0), 39);
        due("row(39, true, 1)", chain.row(39, true, 1), -1);
    }

    private static void dueRow(TrenchBook book, int level, boolean isBelow, int... bodies) {
        for (int index = 0; index < 40; index++) {
            due("row(" + level + ", " + isBelow + ", " + index + ")", book.row(level, isBelow, index),
                index < bodies.length ? bodies[index] : -1);
        }
    }

    private static void testWay() {
        promise = "11, way";
        TrenchBook book = bookOfLayers(10);
        // from 9 down to 0: by 7 and 2, by 3 and 8, by 3 and 5, and the short way by 1
        book.relate(OVER, 9, 7);
        book.relate(OVER, 7, 2);
        book.relate(OVER, 2, 0);
        book.relate(OVER, 9, 3);
        book.relate(OVER, 3, 8);
        book.relate(OVER, 8, 0);
        book.relate(OVER, 3, 5);
        book.relate(OVER, 5, 0);
        book.relate(OVER, 9, 1);
        book.relate(OVER, 1, 0);
        book.relate(OVER, 9, 0);
        dueWay(book, 9, 0, 9, 3, 5, 0);
        dueWay(book, 9, 2, 9, 7, 2);
        dueWay(book, 9, 1, 9, 1);
        dueWay(book, 3, 3, 3);
        dueWay(book, 0, 9);
        dueWay(book, 7, 1);
        dueWay(book, 4, 0);
        dueWay(book, 4, 4, 4);
        book.relate(SAME, 4, 8);
        dueWay(book, 9, 0, 9, 3, 4, 0);
        dueWay(book, 9, 8, 9, 3, 4);
        dueWay(book, 8, 4, 4);
        book.relate(OVER, 2, 6);
        book.relate(OVER, 6, 0);
        dueWay(book, 9, 0, 9, 7, 2, 6, 0);
        dueBadUnitPairs("way", 10, (a, b) -> book.way(a, b, 0));
        int[] bad = {-1, 40, LEAST, MOST};
        for (int index : bad) {
            throwsOn("way(9, 0, " + index + ")", ARGUMENT, () -> book.way(9, 0, index));
            throwsOn("way(0, 9, " + index + ")", ARGUMENT, () -> book.way(0, 9, index));
            throwsOn("way(10, 0, " + index + ")", INDEX, () -> book.way(10, 0, index));
            throwsOn("way(0, -1, " + index + ")", INDEX, () -> book.way(0, -1, index));
        }
        TrenchBook chain = chainOf(40);
        due("way(0, 39, 39)", chain.way(0, 39, 39), 39);
        due("way(0, 38, 39)", chain.way(0, 38, 39), -1);
    }

    /** A way on must be a link, and lead to the end, even where another body is on the same level. */
    private static void testWayOfLinksAlone() {
        TrenchBook book = bookOfLayers(8);
        book.relate(OVER, 7, 6);
        book.relate(OVER, 6, 5);
        book.relate(OVER, 5, 4);
        book.relate(OVER, 7, 0);
        book.relate(OVER, 0, 1);
        book.relate(OVER, 1, 2);
        book.relate(OVER, 2, 3);
        book.relate(OVER, 0, 4);
        dueWay(book, 7, 4, 7, 6, 5, 4);
        dueWay(book, 7, 3, 7, 0, 1, 2, 3);
        dueWay(book, 0, 4, 0, 4);
    }

    private static void dueWay(TrenchBook book, int a, int b, int... bodies) {
        // not up to 39, since an object is good for 512 calls
        for (int index = 0; index < bodies.length + 5; index++) {
            due("way(" + a + ", " + b + ", " + index + ")", book.way(a, b, index),
                index < bodies.length ? bodies[index] : -1);
        }
    }

    private static void testBetween() {
        promise = "12, between";
        TrenchBook book = bookOfLayers(7);
        book.relate(OVER, 0, 1);
        book.relate(OVER, 1, 3);
        book.relate(OVER, 0, 2);
        book.relate(OVER, 2, 3);
        book.relate(SAME, 2, 4);
        book.relate(OVER, 0, 5);
        due("between(0, 3)", book.between(0, 3), 2);
        due("between(3, 0)", book.between(3, 0), 0);
        due("between(0, 1)", book.between(0, 1), 0);
        due("between(0, 4)", book.between(0, 4), 0);
        due("between(2, 4)", book.between(2, 4), 0);
        due("between(6, 0)", book.between(6, 0), 0);
        due("between(1, 1)", book.between(1, 1), 0);
        due("between(0, 39) of a chain", chainOf(40).between(0, 39), 38);
        dueBadUnitPairs("between", 7, (a, b) -> book.between(a, b));
    }

    // ---- promises 13 to 20: finds and dates

    private static void testAddFind() {
        promise = "13, addFind";
        TrenchBook book = bookOf(LAYER, CUT);
        int[] badUnits = {-1, 2, LEAST, MOST};
        for (int unit : badUnits) {
            throwsOn("addFind(" + unit + ", 0, 0, 0)", INDEX, () -> book.addFind(unit, 0, 0, 0));
            throwsOn("addFind(" + unit + ", 10, 0, 0)", INDEX, () -> book.addFind(unit, 10, 0, 0));
        }
        int[] badSorts = {-1, 10, LEAST, MOST};
        for (int sort : badSorts) {
            throwsOn("addFind(0, " + sort + ", 0, 0)", ARGUMENT, () -> book.addFind(0, sort, 0, 0));
        }
        int[] badYears = {-5001, 2001, LEAST, MOST};
        for (int year : badYears) {
            throwsOn("addFind(0, 0, " + year + ", 2000)", ARGUMENT, () -> book.addFind(0, 0, year, 2000));
            throwsOn("addFind(0, 0, -5000, " + year + ")", ARGUMENT, () -> book.addFind(0, 0, -5000, year));
        }
        throwsOn("addFind(0, 0, 1, 0)", ARGUMENT, () -> book.addFind(0, 0, 1, 0));
        due("count(4) after refusals", book.count(4), 0);
        due("addFind(1, 9, -5000, 2000)", book.addFind(1, 9, -5000, 2000), 0);
        dueFind(book, 0, 1, 9, -5000, 2000, 0, 0, 0, 0);
        for (int number = 1; number < 60; number++) {
            due("addFind(0, 0, 7, 7)", book.addFind(0, 0, 7, 7), number);
        }
        throwsOn("addFind with 60", STATE, () -> book.addFind(0, 0, 0, 0));
        throwsOn("addFind of a bad sort with 60", ARGUMENT, () -> book.addFind(0, 10, 0, 0));
        throwsOn("addFind of turned years with 60", ARGUMENT, () -> book.addFind(0, 0, 1, 0));
        throwsOn("addFind in no unit with 60", INDEX, () -> book.addFind(2, 0, 0, 0));
        due("count(4)", book.count(4), 60);
    }

    private static void testPlace() {
        promise = "14, place";
        TrenchBook book = bookOfLayers(1);
        book.addFind(0, 0, 0, 0);
        book.addFind(0, 0, 0, 0);
        due("place(1, 5000, 0, -1000)", book.place(1, 5000, 0, -1000), 0);
        dueFind(book, 1, 0, 0, 0, 0, 5000, 0, -1000, 0);
        due("place(1, 0, 5000, 1000)", book.place(1, 0, 5000, 1000), -1000);
        dueFind(book, 1, 0, 0, 0, 0, 0, 5000, 1000, 0);
        int[] badFinds = {-1, 2, LEAST, MOST};
        for (int find : badFinds) {
            throwsOn("place(" + find + ", 0, 0, 0)", INDEX, () -> book.place(find, 0, 0, 0));
            throwsOn("place(" + find + ", -1, 0, 0)", INDEX, () -> book.place(find, -1, 0, 0));
        }
        int[] badSides = {-1, 5001, LEAST, MOST};
        for (int side : badSides) {
            throwsOn("place(1, " + side + ", 1, 1)", ARGUMENT, () -> book.place(1, side, 1, 1));
            throwsOn("place(1, 1, " + side + ", 1)", ARGUMENT, () -> book.place(1, 1, side, 1));
        }
        int[] badHeights = {-1001, 1001, LEAST, MOST};
        for (int height : badHeights) {
            throwsOn("place(1, 1, 1, " + height + ")", ARGUMENT, () -> book.place(1, 1, 1, height));
        }
        dueFind(book, 1, 0, 0, 0, 0, 0, 5000, 1000, 0);
        dueFind(book, 0, 0, 0, 0, 0, 0, 0, 0, 0);
    }

    private static void testMove() {
        promise = "15, move";
        TrenchBook book = bookOfLayers(3);
        book.addFind(0, 0, 0, 0);
        book.addFind(0, 0, 700, 900);
        due("move(1, 2)", book.move(1, 2), 0);
        due("bound(0, false)", book.bound(0, false), 0);
        due("bound(2, false)", book.bound(2, false), 700);
        due("unit(0, 9)", book.unit(0, 9), 1);
        due("unit(2, 9)", book.unit(2, 9), 1);
        due("move(1, 2) again", book.move(1, 2), 2);
        int[] badFinds = {-1, 2, LEAST, MOST};
        for (int find : badFinds) {
            throwsOn("move(" + find + ", 0)", INDEX, () -> book.move(find, 0));
        }
        int[] badUnits = {-1, 3, LEAST, MOST};
        for (int unit : badUnits) {
            throwsOn("move(1, " + unit + ")", INDEX, () -> book.move(1, unit));
        }
        due("find(1, 0)", book.find(1, 0), 2);
    }

    private static void testFind() {
        promise = "16, find";
        TrenchBook book = bookOfLayers(3);
        book.relate(OVER, 0, 1);
        book.addFind(0, 1, -300, -200);
        book.addFind(1, 2, -199, 400);
        book.place(0, 11, 12, 13);
        dueFind(book, 0, 0, 1, -300, -200, 11, 12, 13, 1);
        dueFind(book, 1, 1, 2, -199, 400, 0, 0, 0, 0);
        book.addFind(0, 0, -5000, -199);
        due("find(2, 7), the last year is the lower bound", book.find(2, 7), 0);
        book.date(0, -5000, -200);
        due("find(1, 7), the first year is above the upper bound", book.find(1, 7), 2);
        due("find(0, 7), left over", book.find(0, 7), 1);
        book.date(0, -5000, -199);
        due("find(1, 7), the first year is the upper bound", book.find(1, 7), 0);
        book.date(0, 500, 600);
        due("find(1, 7), later dates do not make it older", book.find(1, 7), 0);
        book.date(1, 500, 600);
        due("find(1, 7), left over by the unit's own date", book.find(1, 7), 1);
        book.date(0, -5000, -4000);
        due("find(1, 7), both", book.find(1, 7), 2);
        int[] badFinds = {-1, 3, LEAST, MOST};
        for (int find : badFinds) {
            throwsOn("find(" + find + ", 0)", INDEX, () -> book.find(find, 0));
        }
        int[] badWhats = {-1, 8, LEAST, MOST};
        for (int what : badWhats) {
            throwsOn("find(0, " + what + ")", INDEX, () -> book.find(0, what));
        }
    }

    private static void dueFind(TrenchBook book, int find, int... facts) {
        for (int what = 0; what <= 7; what++) {
            due("find(" + find + ", " + what + ")", book.find(find, what), facts[what]);
        }
    }

    private static void testDate() {
        promise = "17, date";
        TrenchBook book = bookOfLayers(2);
        due("date(0, -5000, 2000)", book.date(0, -5000, 2000), 0);
        due("date(0, 5, 5)", book.date(0, 5, 5), 1);
        dueBounds(book, 0, 5, 5);
        due("date(0, 1, 9)", book.date(0, 1, 9), 1);
        dueBounds(book, 0, 1, 9);
        int[] badUnits = {-1, 2, LEAST, MOST};
        for (int unit : badUnits) {
            throwsOn("date(" + unit + ", 0, 0)", INDEX, () -> book.date(unit, 0, 0));
            throwsOn("date(" + unit + ", 2001, 0)", INDEX, () -> book.date(unit, 2001, 0));
        }
        int[] badYears = {-5001, 2001, LEAST, MOST};
        for (int year : badYears) {
            throwsOn("date(0, " + year + ", 0)", ARGUMENT, () -> book.date(0, year, 0));
            throwsOn("date(0, 0, " + year + ")", ARGUMENT, () -> book.date(0, 0, year));
        }
        dueBounds(book, 0, 1, 9);
        due("date(0, 2000, -5000), none", book.date(0, 2000, -5000), 1);
        dueBounds(book, 0, -5000, 2000);
        due("date(0, 1, 0), none again", book.date(0, 1, 0), 0);
        due("date(0, 0, 0)", book.date(0, 0, 0), 0);
        due("date(1, 0, 0)", book.date(1, 0, 0), 0);
    }

    private static void testBound() {
        promise = "18, bound";
        TrenchBook book = bookOfLayers(5);
        book.relate(OVER, 0, 1);
        book.relate(OVER, 1, 2);
        book.relate(SAME, 1, 3);
        dueBounds(book, 0, -5000, 2000);
        book.date(3, 100, 300);
        dueBounds(book, 0, 100, 2000);
        dueBounds(book, 1, 100, 300);
        dueBounds(book, 2, -5000, 300);
        book.date(1, 50, 250);
        dueBounds(book, 3, 100, 250);
        book.date(2, 150, 1000);
        dueBounds(book, 0, 150, 2000);
        dueBounds(book, 1, 150, 250);
        dueBounds(book, 2, 150, 250);
        book.addFind(2, 0, 200, 220);
        dueBounds(book, 0, 200, 2000);
        dueBounds(book, 2, 200, 250);
        book.addFind(0, 0, -400, -300);
        dueBounds(book, 0, 200, 2000);
        book.date(0, -1000, -900);
        dueBounds(book, 0, 200, -900);
        dueBounds(book, 2, 200, -900);
        dueBounds(book, 4, -5000, 2000);
        book.takeBack(1);
        dueBounds(book, 0, 100, -900);
        dueBounds(book, 2, 200, 1000);
        int[] bad = {-1, 5, LEAST, MOST};
        for (int unit : bad) {
            throwsOn("bound(" + unit + ", true)", INDEX, () -> book.bound(unit, true));
            throwsOn("bound(" + unit + ", false)", INDEX, () -> book.bound(unit, false));
        }
    }

    private static void dueBounds(TrenchBook book, int unit, int lower, int upper) {
        due("bound(" + unit + ", false)", book.bound(unit, false), lower);
        due("bound(" + unit + ", true)", book.bound(unit, true), upper);
    }

    private static void testDoubt() {
        promise = "19, doubt";
        TrenchBook book = bookOfLayers(6);
        book.relate(OVER, 4, 2);
        book.relate(SAME, 5, 3);
        book.date(4, 0, 100);
        book.addFind(2, 0, 100, 100);
        due("doubt(0), the bounds are equal", book.doubt(0), -1);
        book.addFind(2, 0, 101, 101);
        due("doubt(0)", book.doubt(0), 2);
        due("doubt(1)", book.doubt(1), 4);
        due("doubt(2)", book.doubt(2), -1);
        book.date(3, 0, 1);
        book.date(5, 2, 3);
        due("doubt(1), of two units", book.doubt(1), 3);
        due("doubt(2)", book.doubt(2), 4);
        due("doubt(3)", book.doubt(3), -1);
        due("doubt(39)", book.doubt(39), -1);
        int[] bad = {-1, 40, LEAST, MOST};
        for (int index : bad) {
            throwsOn("doubt(" + index + ")", INDEX, () -> book.doubt(index));
        }
    }

    private static void testNearest() {
        promise = "20, nearest";
        TrenchBook book = bookOfLayers(1);
        due("nearest without finds", book.nearest(0, 0, 0, -1), -1);
        book.addFind(0, 5, 0, 0);
        book.addFind(0, 6, 0, 0);
        book.addFind(0, 5, 0, 0);
        book.place(0, 100, 100, 100);
        book.place(1, 130, 140, 100);
        book.place(2, 5000, 5000, -1000);
        due("at the first one", book.nearest(100, 100, 100, -1), 0);
        due("of sort 6", book.nearest(100, 100, 100, 6), 1);
        due("of sort 5", book.nearest(130, 140, 100, 5), 0);
        due("of sort 0", book.nearest(130, 140, 100, 0), -1);
        due("far off", book.nearest(5000, 0, -1000, -1), 1);
        due("far off, of sort 5", book.nearest(5000, 5000, 1000, 5), 2);
        due("halfway, the smallest number", book.nearest(115, 120, 100, -1), 0);
        due("a step beyond halfway", book.nearest(115, 121, 100, -1), 1);
        book.place(1, 100, 100, -100);
        due("by height", book.nearest(100, 100, -1, -1), 1);
        due("by height, halfway", book.nearest(100, 100, 0, -1), 0);
        int[] badSides = {-1, 5001, LEAST, MOST};
        for (int side : badSides) {
            throwsOn("nearest(" + side + ", 0, 0, 0)", ARGUMENT, () -> book.nearest(side, 0, 0, 0));
            throwsOn("nearest(0, " + side + ", 0, 0)", ARGUMENT, () -> book.nearest(0, side, 0, 0));
        }
        int[] badHeights = {-1001, 1001, LEAST, MOST};
        for (int height : badHeights) {
            throwsOn("nearest(0, 0, " + height + ", 0)", ARGUMENT, () -> book.nearest(0, 0, height, 0));
        }
        int[] badSorts = {-2, 10, LEAST, MOST};
        for (int sort : badSorts) {
            throwsOn("nearest(0, 0, 0, " + sort + ")", ARGUMENT, () -> book.nearest(0, 0, 0, sort));
        }
        throwsOn("nearest without finds, of a bad sort", ARGUMENT,
            () -> new TrenchBook().nearest(0, 0, 0, 10));
    }

    // ---- promises 21 to 27: digging and phases

    private static void testDig() {
        promise = "21, dig";
        TrenchBook book = bookOfLayers(6);
        book.relate(OVER, 0, 1);
        book.relate(OVER, 1, 2);
        book.relate(SAME, 0, 3);
        book.relate(SAME, 1, 4);
        throwsOn("dig(1), below 0 and 3", STATE, () -> book.dig(1));
        due("dig(0)", book.dig(0), 2);
        throwsOn("dig(1), 3 is not dug", STATE, () -> book.dig(1));
        throwsOn("dig(0) again", STATE, () -> book.dig(0));
        due("dig(3)", book.dig(3), 3);
        due("dig(1)", book.dig(1), 2);
        throwsOn("dig(2), 4 is not dug", STATE, () -> book.dig(2));
        due("dig(4)", book.dig(4), 2);
        due("dig(5)", book.dig(5), 1);
        due("dig(2)", book.dig(2), 0);
        due("count(5)", book.count(5), 6);
        int[] bad = {-1, 6, LEAST, MOST};
        for (int unit : bad) {
            throwsOn("dig(" + unit + ")", INDEX, () -> book.dig(unit));
        }
        book.addUnit(LAYER);
        book.relate(OVER, 6, 5);
        due("unit(5, 7), dug before it was covered", book.unit(5, 7), 1);
        due("next(0)", book.next(0), 6);
    }

    private static void testNext() {
        promise = "22, next";
        TrenchBook book = bookOfLayers(5);
        book.relate(OVER, 3, 0);
        book.relate(OVER, 4, 0);
        dueNext(book, 1, 2, 3, 4);
        book.dig(3);
        dueNext(book, 1, 2, 4);
        book.dig(4);
        dueNext(book, 0, 1, 2);
        book.takeBack(0);
        book.relate(OVER, 2, 0);
        dueNext(book, 1, 2);
        int[] bad = {-1, 40, LEAST, MOST};
        for (int index : bad) {
            throwsOn("next(" + index + ")", INDEX, () -> book.next(index));
        }
        due("next(39) of 40", bookOfLayers(40).next(39), 39);
    }

    private static void dueNext(TrenchBook book, int... units) {
        for (int index = 0; index < 40; index++) {
            due("next(" + index + ")", book.next(index), index < units.length ? units[index] : -1);
        }
    }

    private static void testSetPhase() {
        promise = "23, setPhase";
        TrenchBook book = bookOfLayers(2);
        due("setPhase(1, 20)", book.setPhase(1, 20), 0);
        due("setPhase(1, 3)", book.setPhase(1, 3), 20);
        int[] badUnits = {-1, 2, LEAST, MOST};
        for (int unit : badUnits) {
            throwsOn("setPhase(" + unit + ", 0)", INDEX, () -> book.setPhase(unit, 0));
            throwsOn("setPhase(" + unit + ", 21)", INDEX, () -> book.setPhase(unit, 21));
        }
        int[] badPhases = {-1, 21, LEAST, MOST};
        for (int phase : badPhases) {
            throwsOn("setPhase(1, " + phase + ")", ARGUMENT, () -> book.setPhase(1, phase));
        }
        due("unit(1, 8)", book.unit(1, 8), 3);
        due("unit(0, 8)", book.unit(0, 8), 0);
        due("setPhase(1, 0)", book.setPhase(1, 0), 3);
    }

    private static void testPhaseAll() {
        promise = "24, phaseAll";
        TrenchBook book = bookOfLayers(4);
        book.relate(OVER, 0, 1);
        book.relate(OVER, 1, 2);
        book.relate(SAME, 0, 3);
        book.setPhase(1, 1);
        book.setPhase(2, 7);
        due("phaseAll()", book.phaseAll(), 3);
        int[] due = {2, 1, 0, 2};
        for (int unit = 0; unit < 4; unit++) {
            due("unit(" + unit + ", 8)", book.unit(unit, 8), due[unit]);
        }
        due("phaseAll() again", book.phaseAll(), 0);
        due("count(8)", book.count(8), 0);
        TrenchBook chain = chainOf(40);
        due("phaseAll() of a chain", chain.phaseAll(), 39);
        due("unit(20, 8), of level 19", chain.unit(20, 8), 19);
        due("unit(19, 8), of level 20", chain.unit(19, 8), 20);
        due("unit(18, 8), of level 21", chain.unit(18, 8), 20);
        due("unit(0, 8), of level 39", chain.unit(0, 8), 20);
        due("count(8), equal phases are in order", chain.count(8), 0);
    }

    private static void testOutOfPhase() {
        promise = "25, outOfPhase";
        TrenchBook book = bookOfLayers(6);
        book.relate(OVER, 5, 1);
        book.relate(OVER, 5, 4);
        book.setPhase(5, 3);
        book.setPhase(1, 3);
        book.setPhase(4, 2);
        dueOutOfPhase(book, -1, -1);
        book.setPhase(4, 4);
        dueOutOfPhase(book, 5, 4);
        book.setPhase(1, 5);
        dueOutOfPhase(book, 5, 1);
        due("count(8)", book.count(8), 2);
        book.relate(SAME, 3, 2);
        dueOutOfPhase(book, 5, 1);
        book.setPhase(2, 6);
        dueOutOfPhase(book, 2, 3);
        due("count(8)", book.count(8), 3);
        book.setPhase(3, 7);
        dueOutOfPhase(book, 2, 3);
        book.relate(OVER, 0, 3);
        book.setPhase(0, 6);
        dueOutOfPhase(book, 0, 3);
        book.setPhase(0, 5);
        dueOutOfPhase(book, 0, 2);
        due("count(8)", book.count(8), 5);
        book.phaseAll();
        dueOutOfPhase(book, -1, -1);
        TrenchBook last = bookOfLayers(2);
        last.relate(OVER, 1, 0);
        last.setPhase(0, 1);
        dueOutOfPhase(last, 1, 0);
        due("count(8) of 1 over 0", last.count(8), 1);
    }

    private static void dueOutOfPhase(TrenchBook book, int first, int second) {
        due("outOfPhase(false)", book.outOfPhase(false), first);
        due("outOfPhase(true)", book.outOfPhase(true), second);
    }

    private static void testMeanHeight() {
        promise = "26, meanHeight";
        TrenchBook book = bookOfLayers(1);
        dueDouble("meanHeight() without finds", book.meanHeight(), 0.0);
        book.addFind(0, 0, 0, 0);
        dueDouble("meanHeight() of one", book.meanHeight(), 0.0);
        book.place(0, 1, 1, -1000);
        dueDouble("meanHeight() of one", book.meanHeight(), -1000.0);
        book.addFind(0, 0, 0, 0);
        book.place(1, 1, 1, 999);
        dueDouble("meanHeight() of two", book.meanHeight(), -0.5);
        book.addFind(0, 0, 0, 0);
        book.place(2, 1, 1, 2);
        dueDouble("meanHeight() of three", book.meanHeight(), 1.0 / 3);
        book.place(2, 1, 1, 1);
        dueDouble("meanHeight() of three whose sum is 0", book.meanHeight(), 0.0);
    }

    private static void testDigest() {
        promise = "27, digest";
        due("digest() of a new object", new TrenchBook().digest(), folded(431, 0, 0, 0, 0, 0, 0, 0, 0, 0));
        TrenchBook book = bookOf(CUT, LAYER);
        book.relate(CUTS, 0, 1);
        book.addFind(1, 8, -70, 90);
        book.place(0, 4, 5, -6);
        book.date(0, -80, -75);
        book.dig(0);
        book.setPhase(1, 9);
        long due = folded(431, 2, 1, 2, 1, 1, 1, 2, 2, 1);
        due = folded(due, 1, 0, 1, 1, 0, 1, 0, 1, 0, 0, -70, -75);
        due = folded(due, 0, 1, 1, 0, 1, 0, 1, 0, 9, 1, -70, -75);
        due = folded(due, 1, 0, 1);
        due = folded(due, 1, 8, -70, 90, 4, 5, -6, 2);
        due("digest()", book.digest(), due);
        due("digest() again", book.digest(), due);
    }

    private static long folded(long start, int... numbers) {
        long sum = start;
        for (int number : numbers) {
            sum = sum * 31 + number;
        }
        return sum;
    }

    /** A call that throws, or is refused, or only tells, leaves everything as it was. */
    private static void testAnswersChangeNothing() {
        promise = "terms: a method that throws changes nothing";
        TrenchBook book = bookOf(LAYER, LAYER, CUT);
        book.relate(OVER, 0, 1);
        book.addFind(0, 1, 10, 20);
        long before = book.digest();
        throwsOn("addUnit(4)", ARGUMENT, () -> book.addUnit(4));
        throwsOn("relate(0, 0, 3)", INDEX, () -> book.relate(0, 0, 3));
        throwsOn("takeBack(1)", INDEX, () -> book.takeBack(1));
        throwsOn("addFind(0, 0, 1, 0)", ARGUMENT, () -> book.addFind(0, 0, 1, 0));
        throwsOn("place(0, 7, 7, 1001)", ARGUMENT, () -> book.place(0, 7, 7, 1001));
        throwsOn("move(0, 3)", INDEX, () -> book.move(0, 3));
        throwsOn("date(0, 7, 2001)", ARGUMENT, () -> book.date(0, 7, 2001));
        throwsOn("dig(1)", STATE, () -> book.dig(1));
        throwsOn("setPhase(0, 21)", ARGUMENT, () -> book.setPhase(0, 21));
        due("a refused relation", book.relate(OVER, 1, 0), 4);
        due("a way", book.way(0, 1, 1), 1);
        due("digest()", book.digest(), before);
    }

    /** With 40 units, 80 relations and 60 finds each call still answers. */
    private static void testFull() {
        promise = "terms: at most 40 units, 80 relations and 60 finds";
        TrenchBook book = chainOf(40);
        for (int unit = 0; book.count(1) < 80; unit++) {
            int over = unit < 38 ? unit : unit - 38;
            due("a relation more", book.relate(OVER, over, over + (unit < 38 ? 2 : 3)), 0);
        }
        for (int find = 0; find < 60; find++) {
            book.addFind(find % 40, find % 10, find, find);
            book.place(find, find, find, find);
        }
        dueCounts(book, 40, 80, 40, 39, 60, 0, 0, 40, 0);
        dueOutOfPhase(book, -1, -1);
        due("phaseAll()", book.phaseAll(), 39);
        due("doubt(39)", book.doubt(39), -1);
        due("dig(0)", book.dig(0), 1);
        due("dig(1)", book.dig(1), 1);
        due("next(39)", book.next(39), -1);
        due("row(39, true, 39)", book.row(39, true, 39), -1);
        due("way(0, 39, 39)", book.way(0, 39, 39), 39);
        due("way(39, 0, 39)", book.way(39, 0, 39), -1);
        due("between(0, 39)", book.between(0, 39), 38);
        due("order(39, 0)", book.order(39, 0), -1);
        due("date(39, 2000, 2000)", book.date(39, 2000, 2000), 0);
        due("bound(0, false)", book.bound(0, false), 2000);
        due("find(59, 7)", book.find(59, 7), 1);
        due("move(59, 39)", book.move(59, 39), 19);
        due("unit(39, 9)", book.unit(39, 9), 2);
        due("nearest(5000, 5000, 1000, -1)", book.nearest(5000, 5000, 1000, -1), 59);
        dueDouble("meanHeight()", book.meanHeight(), 29.5);
        due("digest() twice", book.digest(), book.digest());
        due("takeBack(79)", book.takeBack(79), 79);
        due("takeBack(0)", book.takeBack(0), 78);
        due("isLinked(0, 1)", book.isLinked(0, 1), false);
        due("isLinked(0, 2)", book.isLinked(0, 2), true);
    }

    // ---- helpers

    private static TrenchBook bookOf(int... sorts) {
        TrenchBook book = new TrenchBook();
        for (int sort : sorts) {
            book.addUnit(sort);
        }
        return book;
    }

    private static TrenchBook bookOfLayers(int units) {
        return bookOf(new int[units]);
    }

    /** Layers, each one over the next one. */
    private static TrenchBook chainOf(int units) {
        TrenchBook book = bookOfLayers(units);
        for (int unit = 1; unit < units; unit++) {
            book.relate(OVER, unit - 1, unit);
        }
        return book;
    }

    private interface PairCall {
        void run(int a, int b);
    }

    private static void dueBadUnitPairs(String name, int units, PairCall call) {
        int[] bad = {-1, units, LEAST, MOST};
        for (int unit : bad) {
            throwsOn(name + " of a bad a", INDEX, () -> call.run(unit, 0));
            throwsOn(name + " of a bad b", INDEX, () -> call.run(0, unit));
            throwsOn(name + " of a bad a and b", INDEX, () -> call.run(unit, unit));
        }
    }

    private static void due(String call, long got, long want) {
        if (got != want) {
            tell(call + " answered " + got + ", due is " + want);
        }
    }

    private static void due(String call, boolean got, boolean want) {
        if (got != want) {
            tell(call + " answered " + got + ", due is " + want);
        }
    }

    private static void dueDouble(String call, double got, double want) {
        if (Double.compare(got, want) != 0) {
            tell(call + " answered " + got + ", due is " + want);
        }
    }

    private static void throwsOn(String call, String want, Call body) {
        String got = "nothing";
        try {
            body.run();
        } catch (RuntimeException thrown) {
            got = thrown.getClass().getSimpleName();
        }
        if (!got.equals(want)) {
            tell(call + " threw " + got + ", due is " + want);
        }
    }

    private static void tell(String fault) {
        wrong++;
        System.out.println("promise " + promise + ": " + fault);
    }
}
