/** The boundary cases of promises 8 to 12 (the matrix), a test for each of their sentences. */
public final class MatrixEdgesTest extends Edges {
    private interface PairCall {
        long on(TrenchBook book, int a, int b);
    }

    public static void main(String[] args) {
        order();
        isLinked();
        rowArguments();
        row();
        wayArguments();
        wayEnds();
        wayChoice();
        between();
        end();
    }

    /** What order, isLinked, way and between say alike: there has to be such a unit. */
    private static void dueUnits(String promise, PairCall call) {
        edge(promise + " a unit a that is too small", () ->
            dueThrowFor(INDEX, Edges::rich, (book, a) -> call.on(book, a, 0), -1, LEAST));
        edge(promise + " a unit a that is too large", () -> {
            dueThrowFor(INDEX, Edges::rich, (book, a) -> call.on(book, a, 0), 7, 39, 40, MOST);
            dueThrowFor(INDEX, Edges::full, (book, a) -> call.on(book, a, 0), 40);
        });
        edge(promise + " a unit b that is too small", () ->
            dueThrowFor(INDEX, Edges::rich, (book, b) -> call.on(book, 6, b), -1, LEAST));
        edge(promise + " a unit b that is too large", () -> {
            dueThrowFor(INDEX, Edges::rich, (book, b) -> call.on(book, 6, b), 7, 39, 40, MOST);
            dueThrowFor(INDEX, Edges::full, (book, b) -> call.on(book, 0, b), 40);
        });
        edge(promise + " the same bad unit twice", () ->
            dueThrowFor(INDEX, Edges::rich, (book, unit) -> call.on(book, unit, unit), -1, 7));
        edge(promise + " no unit there yet", () ->
            dueThrow(INDEX, Edges::empty, book -> call.on(book, 0, 0)));
    }

    // ---- promise 8

    private static void order() {
        dueUnits("8", TrenchBook::order);
        edge("8 the first unit and the last one", () -> {
            dueKept(1, Edges::rich, book -> book.order(6, 0));
            dueKept(-1, Edges::rich, book -> book.order(0, 6));
            dueKept(1, Edges::full, book -> book.order(0, 39));
            dueKept(-1, Edges::full, book -> book.order(39, 0));
        });
        edge("8 0 for a unit and itself", () -> dueKept(0, () -> layers(1), book -> book.order(0, 0)));
        edge("8 0 for units of one body, directly or by way of others", () -> {
            dueKept(0, Edges::rich, book -> book.order(0, 4));
            dueKept(0, () -> oneBody(40), book -> book.order(39, 0));
        });
        edge("8 1 for a later body, directly or by way of others", () -> {
            dueKept(1, Edges::rich, book -> book.order(1, 4));
            dueKept(1, Edges::rich, book -> book.order(3, 4));
        });
        edge("8 1 for a later body, by way of the first unit or the last one", () -> {
            dueKept(1, () -> wayThrough(0), book -> book.order(1, 2));
            dueKept(1, () -> wayThrough(39), book -> book.order(1, 2));
        });
        edge("8 -1 for an earlier body", () -> {
            dueKept(-1, Edges::rich, book -> book.order(4, 1));
            dueKept(-1, Edges::rich, book -> book.order(4, 3));
        });
        edge("8 2 for bodies of which neither is later", () -> {
            dueKept(2, Edges::rich, book -> book.order(1, 5));
            dueKept(2, Edges::rich, book -> book.order(6, 3));
            dueKept(2, () -> layers(2), book -> book.order(0, 1));
        });
    }

    /** Of 40 layers 1 is over this one, and this one over 2. */
    private static TrenchBook wayThrough(int middle) {
        TrenchBook book = layers(40);
        book.relate(OVER, 1, middle);
        book.relate(OVER, middle, 2);
        return book;
    }

    // ---- promise 9

    private static void isLinked() {
        dueUnits("9", (book, a, b) -> book.isLinked(a, b) ? 1 : 0);
        edge("9 the first unit and the last one", () -> {
            due("isLinked(39, 0)", bookLinked(39, 0).isLinked(39, 0), true);
            due("isLinked(0, 39)", bookLinked(0, 39).isLinked(0, 39), true);
        });
        edge("9 not linked the other way round", () ->
            due("isLinked(0, 39)", bookLinked(39, 0).isLinked(0, 39), false));
        edge("9 no body is linked to itself", () -> {
            due("isLinked(0, 0)", layers(1).isLinked(0, 0), false);
            due("isLinked(0, 4)", rich().isLinked(0, 4), false);
        });
        edge("9 bodies are linked, by any units of theirs", () -> {
            due("isLinked(1, 4)", rich().isLinked(1, 4), true);
            due("isLinked(5, 0)", rich().isLinked(5, 0), true);
        });
        edge("9 later, but not directly", () -> due("isLinked(6, 0)", rich().isLinked(6, 0), false));
        edge("9 directly later, with a third body between them", () -> {
            TrenchBook book = chain(3);
            book.relate(OVER, 0, 2);
            due("isLinked(0, 2)", book.isLinked(0, 2), false);
            book.takeBack(0);
            due("isLinked(0, 2) without it", book.isLinked(0, 2), true);
        });
        edge("9 directly later, with the first unit or the last one between them", () -> {
            for (int middle = 0; middle < 40; middle += 39) {
                TrenchBook book = wayThrough(middle);
                book.relate(OVER, 1, 2);
                due("isLinked(1, 2)", book.isLinked(1, 2), false);
                due("count(3)", book.count(3), 2);
            }
        });
        edge("9 directly later, with 38 bodies between them", () -> {
            TrenchBook book = chain(40);
            book.relate(OVER, 0, 39);
            due("isLinked(0, 39)", book.isLinked(0, 39), false);
        });
    }

    private static TrenchBook bookLinked(int a, int b) {
        TrenchBook book = layers(40);
        book.relate(OVER, a, b);
        return book;
    }

    // ---- promise 10

    private static void rowArguments() {
        edge("10 a level that is too small", () ->
            dueThrowFor(INDEX, Edges::rich, (book, level) -> book.row(level, true, 0), -1, LEAST));
        edge("10 a level that is too large", () -> {
            dueThrowFor(INDEX, Edges::rich, (book, level) -> book.row(level, true, 0), 40, MOST);
            dueThrowFor(INDEX, Edges::full, (book, level) -> book.row(level, false, 0), 40);
        });
        edge("10 an index that is too small", () ->
            dueThrowFor(INDEX, Edges::rich, (book, index) -> book.row(0, false, index), -1, LEAST));
        edge("10 an index that is too large", () -> {
            dueThrowFor(INDEX, Edges::rich, (book, index) -> book.row(0, false, index), 40, MOST);
            dueThrowFor(INDEX, () -> layers(40), (book, index) -> book.row(0, true, index), 40);
        });
        edge("10 a bad level or index with no unit there yet", () -> {
            dueThrow(INDEX, Edges::empty, book -> book.row(40, true, 0));
            dueThrow(INDEX, Edges::empty, book -> book.row(0, true, -1));
            dueThrow(INDEX, Edges::empty, book -> book.row(-1, false, 40));
        });
        edge("10 the least level and index, and the greatest ones", () -> {
            dueKept(0, Edges::rich, book -> book.row(0, true, 0));
            dueKept(-1, Edges::rich, book -> book.row(39, true, 39));
            dueKept(-1, Edges::rich, book -> book.row(39, false, 0));
            dueKept(-1, Edges::rich, book -> book.row(0, false, 39));
        });
    }

    private static void row() {
        edge("10 -1 with no unit there yet", () -> {
            dueRow(empty(), 0, true);
            dueRow(empty(), 39, false);
        });
        edge("10 in ascending order, -1 if there are not so many", () -> {
            dueRow(rich(), 0, true, 0);
            dueRow(rich(), 1, true, 1, 5);
            dueRow(rich(), 2, true, 2, 6);
            dueRow(rich(), 3, true, 3);
            dueRow(rich(), 4, true);
            dueRow(rich(), 0, false, 3, 6);
            dueRow(rich(), 1, false, 2, 5);
            dueRow(rich(), 2, false, 1);
            dueRow(rich(), 3, false, 0);
            dueRow(rich(), 4, false);
        });
        edge("10 40 bodies on a level", () -> {
            int[] all = new int[40];
            for (int unit = 0; unit < 40; unit++) {
                all[unit] = unit;
            }
            dueRow(layers(40), 0, true, all);
            dueRow(layers(40), 0, false, all);
            dueRow(layers(40), 1, true);
        });
        edge("10 40 levels", () -> {
            dueRow(chain(40), 39, true, 0);
            dueRow(chain(40), 39, false, 39);
            dueRow(chain(40), 38, true, 1);
        });
        edge("10 a body is told once, by its smallest unit", () -> {
            dueRow(oneBody(40), 0, true, 0);
            dueRow(oneBody(40), 0, false, 0);
        });
    }

    private static void dueRow(TrenchBook book, int level, boolean isBelow, int... bodies) {
        for (int index = 0; index < 40; index++) {
            due("row(" + level + ", " + isBelow + ", " + index + ")", book.row(level, isBelow, index),
                index < bodies.length ? bodies[index] : -1);
        }
    }

    // ---- promise 11

    private static void wayArguments() {
        dueUnits("11", (book, a, b) -> book.way(a, b, 0));
        edge("11 an index that is too small", () ->
            dueThrowFor(ARGUMENT, Edges::rich, (book, index) -> book.way(6, 0, index), -1, LEAST));
        edge("11 an index that is too large", () -> {
            dueThrowFor(ARGUMENT, Edges::rich, (book, index) -> book.way(6, 0, index), 40, MOST);
            dueThrowFor(ARGUMENT, () -> chain(40), (book, index) -> book.way(0, 39, index), 40);
        });
        edge("11 a bad index though there is no way", () ->
            dueThrowFor(ARGUMENT, Edges::rich, (book, index) -> book.way(0, 6, index), -1, 40));
        edge("11 a bad unit is told before a bad index", () -> {
            dueThrowFor(INDEX, Edges::rich, (book, unit) -> book.way(unit, 0, 40), -1, 7);
            dueThrowFor(INDEX, Edges::rich, (book, unit) -> book.way(0, unit, -1), -1, 7);
            dueThrow(INDEX, Edges::empty, book -> book.way(0, 0, 40));
        });
        edge("11 the least index and the greatest one", () -> {
            dueKept(6, Edges::rich, book -> book.way(6, 0, 0));
            dueKept(-1, Edges::rich, book -> book.way(6, 0, 39));
        });
    }

    private static void wayEnds() {
        edge("11 both bodies are on the way, and -1 is behind its end", () -> {
            dueWay(rich(), 6, 0, 6, 5, 0);
            dueWay(rich(), 3, 4, 3, 2, 1, 0);
            dueWay(rich(), 3, 2, 3, 2);
        });
        edge("11 a way of 40 bodies", () -> {
            due("way(0, 39, 39)", chain(40).way(0, 39, 39), 39);
            due("way(0, 39, 38)", full().way(0, 39, 38), 38);
            due("way(0, 38, 39)", chain(40).way(0, 38, 39), -1);
        });
        edge("11 from a body to itself there is that body alone", () -> {
            dueWay(layers(1), 0, 0, 0);
            dueWay(rich(), 4, 0, 0);
            dueWay(oneBody(40), 0, 39, 0);
        });
        edge("11 -1 if the body of a is earlier", () -> dueWay(rich(), 0, 6));
        edge("11 -1 if neither is later", () -> {
            dueWay(rich(), 1, 5);
            dueWay(layers(2), 0, 1);
        });
        edge("11 bodies are told, not units", () -> {
            TrenchBook book = chain(4);
            book.relate(SAME, book.addUnit(LAYER), 2);
            book.relate(SAME, book.addUnit(LAYER), 0);
            dueWay(book, 5, 4, 0, 1, 2);
        });
    }

    private static void wayChoice() {
        edge("11 the longest way, though another one begins less", () -> {
            TrenchBook book = layers(6);
            book.relate(OVER, 5, 0);
            book.relate(OVER, 0, 1);
            book.relate(OVER, 5, 4);
            book.relate(OVER, 4, 3);
            book.relate(OVER, 3, 1);
            dueWay(book, 5, 1, 5, 4, 3, 1);
        });
        edge("11 of several the one whose first other body is the least", () -> {
            TrenchBook book = layers(6);
            book.relate(OVER, 5, 3);
            book.relate(OVER, 3, 1);
            book.relate(OVER, 1, 0);
            book.relate(OVER, 5, 2);
            book.relate(OVER, 2, 4);
            book.relate(OVER, 4, 0);
            dueWay(book, 5, 0, 5, 2, 4, 0);
        });
        edge("11 of several with a like beginning the one that is less then", () -> {
            TrenchBook book = layers(6);
            book.relate(OVER, 5, 4);
            book.relate(OVER, 4, 3);
            book.relate(OVER, 4, 1);
            book.relate(OVER, 3, 0);
            book.relate(OVER, 1, 0);
            book.relate(OVER, 4, 2);
            book.relate(OVER, 2, 0);
            dueWay(book, 5, 0, 5, 4, 1, 0);
        });
        edge("11 of links alone, and down to that body alone", () -> {
            TrenchBook book = layers(7);
            book.relate(OVER, 6, 5);
            book.relate(OVER, 5, 4);
            book.relate(OVER, 6, 0);
            book.relate(OVER, 0, 1);
            book.relate(OVER, 1, 2);
            book.relate(OVER, 6, 4);
            dueWay(book, 6, 4, 6, 5, 4);
        });
    }

    private static void dueWay(TrenchBook book, int a, int b, int... bodies) {
        for (int index = 0; index < 40; index++) {
            due("way(" + a + ", " + b + ", " + index + ")", book.way(a, b, index),
                index < bodies.length ? bodies[index] : -1);
        }
    }

    // ---- promise 12

    private static void between() {
        dueUnits("12", TrenchBook::between);
        edge("12 the first unit and the last one", () -> {
            dueKept(1, Edges::rich, book -> book.between(6, 0));
            dueKept(38, Edges::full, book -> book.between(0, 39));
        });
        edge("12 none if neither is later", () -> {
            dueKept(0, () -> layers(40), book -> book.between(0, 39));
            dueKept(0, Edges::rich, book -> book.between(1, 5));
            dueKept(0, Edges::rich, book -> book.between(3, 6));
        });
        edge("12 none for a body and itself", () -> {
            dueKept(0, () -> layers(1), book -> book.between(0, 0));
            dueKept(0, Edges::rich, book -> book.between(2, 2));
            dueKept(0, Edges::rich, book -> book.between(0, 4));
        });
        edge("12 none for linked ones", () -> dueKept(0, Edges::rich, book -> book.between(1, 4)));
        edge("12 none if the body of a is earlier", () -> {
            dueKept(0, Edges::rich, book -> book.between(0, 6));
            dueKept(0, () -> chain(40), book -> book.between(39, 0));
        });
        edge("12 bodies are counted, not units", () -> {
            TrenchBook book = chain(3);
            book.relate(SAME, book.addUnit(LAYER), 1);
            due("between(0, 2)", book.between(0, 2), 1);
        });
        edge("12 bodies on several ways are each counted once", () -> {
            TrenchBook book = chain(4);
            book.relate(OVER, 0, 2);
            book.relate(OVER, 1, 3);
            due("between(0, 3)", book.between(0, 3), 2);
        });
    }
}
