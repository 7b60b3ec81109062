/** The boundary cases of promises 13 to 20 (finds and dates), a test for each of their sentences. */
public final class FindEdgesTest extends Edges {
    public static void main(String[] args) {
        addFindUnit();
        addFindArguments();
        addFindFull();
        placeArguments();
        place();
        move();
        findArguments();
        findFits();
        dateArguments();
        date();
        boundArguments();
        boundLower();
        boundUpper();
        doubt();
        nearestArguments();
        nearest();
        end();
    }

    // ---- promise 13

    private static void addFindUnit() {
        edge("13 a unit that is too small", () ->
            dueThrowFor(INDEX, Edges::rich, (book, unit) -> book.addFind(unit, 0, 0, 0), -1, LEAST));
        edge("13 a unit that is too large", () -> {
            dueThrowFor(INDEX, Edges::rich, (book, unit) -> book.addFind(unit, 0, 0, 0), 7, 39, 40, MOST);
            dueThrowFor(INDEX, () -> layers(40), (book, unit) -> book.addFind(unit, 0, 0, 0), 40);
        });
        edge("13 no unit there yet", () ->
            dueThrow(INDEX, Edges::empty, book -> book.addFind(0, 0, 0, 0)));
        edge("13 the first unit and the last one", () -> {
            dueAdded(layers(40), 0, 0, 0, 0);
            dueAdded(layers(40), 39, 0, 0, 0);
        });
        edge("13 a bad unit is told before a bad argument", () -> {
            dueThrow(INDEX, Edges::rich, book -> book.addFind(7, 10, 0, 0));
            dueThrow(INDEX, Edges::rich, book -> book.addFind(-1, 0, -5001, 0));
            dueThrow(INDEX, Edges::rich, book -> book.addFind(7, 0, 0, 2001));
            dueThrow(INDEX, Edges::rich, book -> book.addFind(-1, 0, 1, 0));
            dueThrow(INDEX, Edges::empty, book -> book.addFind(0, -1, 0, 0));
        });
    }

    private static void addFindArguments() {
        edge("13 a sort that is too small", () ->
            dueThrowFor(ARGUMENT, Edges::rich, (book, sort) -> book.addFind(0, sort, 0, 0), -1, LEAST));
        edge("13 a sort that is too large", () ->
            dueThrowFor(ARGUMENT, Edges::rich, (book, sort) -> book.addFind(0, sort, 0, 0), 10, MOST));
        edge("13 the least sort and the greatest one", () -> {
            dueAdded(layers(1), 0, 0, 5, 6);
            dueAdded(layers(1), 0, 9, 5, 6);
        });
        edge("13 a first year that is too small", () -> dueThrowFor(ARGUMENT, Edges::rich,
            (book, first) -> book.addFind(0, 0, first, 0), -5001, LEAST));
        edge("13 a first year that is too large", () -> dueThrowFor(ARGUMENT, Edges::rich,
            (book, first) -> book.addFind(0, 0, first, 2000), 2001, MOST));
        edge("13 a last year that is too small", () -> dueThrowFor(ARGUMENT, Edges::rich,
            (book, last) -> book.addFind(0, 0, -5000, last), -5001, LEAST));
        edge("13 a last year that is too large", () -> dueThrowFor(ARGUMENT, Edges::rich,
            (book, last) -> book.addFind(0, 0, 0, last), 2001, MOST));
        edge("13 both years are too small, or both too large", () -> {
            dueThrow(ARGUMENT, Edges::rich, book -> book.addFind(0, 0, -5001, -5001));
            dueThrow(ARGUMENT, Edges::rich, book -> book.addFind(0, 0, 2001, 2001));
        });
        edge("13 the least year and the greatest one", () -> {
            dueAdded(layers(1), 0, 0, -5000, 2000);
            dueAdded(layers(1), 0, 0, -5000, -5000);
            dueAdded(layers(1), 0, 0, 2000, 2000);
        });
        edge("13 a first year that is greater than the last one by 1", () -> {
            dueThrow(ARGUMENT, Edges::rich, book -> book.addFind(0, 0, 1, 0));
            dueThrow(ARGUMENT, Edges::rich, book -> book.addFind(0, 0, 2000, 1999));
            dueThrow(ARGUMENT, Edges::rich, book -> book.addFind(0, 0, -4999, -5000));
        });
        edge("13 a first year that is the last one", () -> dueAdded(layers(1), 0, 0, -1, -1));
    }

    private static void addFindFull() {
        edge("13 the first find is 0, the 60th one 59", () -> {
            dueAdded(withFinds(0), 0, 3, 4, 5);
            dueAdded(withFinds(59), 0, 3, 4, 5);
            TrenchBook book = withFinds(59);
            due("addFind(0, 0, 0, 0)", book.addFind(0, 0, 0, 0), 59);
            due("count(4)", book.count(4), 60);
        });
        edge("13 no find is added if there are 60", () -> {
            dueThrow(STATE, () -> withFinds(60), book -> book.addFind(0, 0, 0, 0));
            dueThrow(STATE, Edges::full, book -> book.addFind(39, 9, -5000, 2000));
        });
        edge("13 a bad unit is told before there being 60", () ->
            dueThrowFor(INDEX, () -> withFinds(60), (book, unit) -> book.addFind(unit, 0, 0, 0), -1, 1));
        edge("13 a bad sort is told before there being 60", () ->
            dueThrowFor(ARGUMENT, () -> withFinds(60), (book, sort) -> book.addFind(0, sort, 0, 0), -1, 10));
        edge("13 a bad year is told before there being 60", () -> {
            dueThrowFor(ARGUMENT, () -> withFinds(60),
                (book, first) -> book.addFind(0, 0, first, 2000), -5001, 2001);
            dueThrowFor(ARGUMENT, () -> withFinds(60),
                (book, last) -> book.addFind(0, 0, -5000, last), -5001, 2001);
        });
        edge("13 turned years are told before there being 60", () ->
            dueThrow(ARGUMENT, () -> withFinds(60), book -> book.addFind(0, 0, 1, 0)));
    }

    /** The find is added behind the others, at the place 0, 0, 0. */
    private static void dueAdded(TrenchBook book, int unit, int sort, int first, int last) {
        int number = book.count(4);
        due("addFind", book.addFind(unit, sort, first, last), number);
        due("count(4)", book.count(4), number + 1);
        dueFind(book, number, unit, sort, first, last, 0, 0, 0);
    }

    private static void dueFind(TrenchBook book, int find, int... facts) {
        for (int what = 0; what < facts.length; what++) {
            due("find(" + find + ", " + what + ")", book.find(find, what), facts[what]);
        }
    }

    // ---- promise 14

    private static void placeArguments() {
        edge("14 a find that is too small", () ->
            dueThrowFor(INDEX, Edges::rich, (book, find) -> book.place(find, 1, 2, 3), -1, LEAST));
        edge("14 a find that is too large", () -> {
            dueThrowFor(INDEX, Edges::rich, (book, find) -> book.place(find, 1, 2, 3), 3, 59, 60, MOST);
            dueThrowFor(INDEX, Edges::full, (book, find) -> book.place(find, 1, 2, 3), 60);
        });
        edge("14 no find there yet", () -> {
            dueThrow(INDEX, Edges::empty, book -> book.place(0, 0, 0, 0));
            dueThrow(INDEX, () -> layers(1), book -> book.place(0, 0, 0, 0));
        });
        edge("14 an x that is too small", () ->
            dueThrowFor(ARGUMENT, Edges::rich, (book, x) -> book.place(0, x, 2, 3), -1, LEAST));
        edge("14 an x that is too large", () ->
            dueThrowFor(ARGUMENT, Edges::rich, (book, x) -> book.place(0, x, 2, 3), 5001, MOST));
        edge("14 a y that is too small", () ->
            dueThrowFor(ARGUMENT, Edges::rich, (book, y) -> book.place(0, 1, y, 3), -1, LEAST));
        edge("14 a y that is too large", () ->
            dueThrowFor(ARGUMENT, Edges::rich, (book, y) -> book.place(0, 1, y, 3), 5001, MOST));
        edge("14 a z that is too small", () ->
            dueThrowFor(ARGUMENT, Edges::rich, (book, z) -> book.place(0, 1, 2, z), -1001, LEAST));
        edge("14 a z that is too large", () ->
            dueThrowFor(ARGUMENT, Edges::rich, (book, z) -> book.place(0, 1, 2, z), 1001, MOST));
        edge("14 a bad find is told before a bad place", () -> {
            dueThrow(INDEX, Edges::rich, book -> book.place(3, -1, 0, 0));
            dueThrow(INDEX, Edges::rich, book -> book.place(-1, 0, 5001, 0));
            dueThrow(INDEX, Edges::empty, book -> book.place(0, 0, 0, 1001));
        });
    }

    private static void place() {
        edge("14 the least place and the greatest one", () -> {
            duePlaced(0, 0, -1000);
            duePlaced(5000, 0, 0);
            duePlaced(0, 5000, 0);
            duePlaced(0, 0, 1000);
            duePlaced(5000, 5000, 1000);
        });
        edge("14 the z before: 0 at first, then the last one told", () -> {
            TrenchBook book = withFinds(2);
            due("place(1, 1, 1, -1000)", book.place(1, 1, 1, -1000), 0);
            due("place(1, 1, 1, 1000)", book.place(1, 1, 1, 1000), -1000);
            due("place(1, 1, 1, 5)", book.place(1, 1, 1, 5), 1000);
            due("place(1, 1, 1, 5)", book.place(1, 1, 1, 5), 5);
            due("place(0, 1, 1, 1)", book.place(0, 1, 1, 1), 0);
        });
        edge("14 the first find and the last one, and no other", () -> {
            TrenchBook book = withFinds(60);
            book.place(0, 1, 2, 3);
            book.place(59, 4, 5, 6);
            dueFind(book, 0, 0, 0, 0, 10, 1, 2, 3);
            dueFind(book, 1, 0, 0, 0, 10, 0, 0, 0);
            dueFind(book, 58, 0, 0, 0, 10, 0, 0, 0);
            dueFind(book, 59, 0, 0, 0, 10, 4, 5, 6);
        });
    }

    private static void duePlaced(int x, int y, int z) {
        TrenchBook book = rich();
        due("place(0, " + x + ", " + y + ", " + z + ")", book.place(0, x, y, z), 30);
        dueFind(book, 0, 2, 3, 100, 200, x, y, z);
    }

    // ---- promise 15

    private static void move() {
        edge("15 a find that is too small", () ->
            dueThrowFor(INDEX, Edges::rich, (book, find) -> book.move(find, 4), -1, LEAST));
        edge("15 a find that is too large", () -> {
            dueThrowFor(INDEX, Edges::rich, (book, find) -> book.move(find, 4), 3, 59, 60, MOST);
            dueThrowFor(INDEX, Edges::full, (book, find) -> book.move(find, 4), 60);
        });
        edge("15 no find there yet", () -> {
            dueThrow(INDEX, Edges::empty, book -> book.move(0, 0));
            dueThrow(INDEX, () -> layers(1), book -> book.move(0, 0));
        });
        edge("15 a unit that is too small", () ->
            dueThrowFor(INDEX, Edges::rich, (book, unit) -> book.move(0, unit), -1, LEAST));
        edge("15 a unit that is too large", () -> {
            dueThrowFor(INDEX, Edges::rich, (book, unit) -> book.move(0, unit), 7, 39, 40, MOST);
            dueThrowFor(INDEX, Edges::full, (book, unit) -> book.move(0, unit), 40);
        });
        edge("15 a find and a unit that are both bad", () ->
            dueThrow(INDEX, Edges::rich, book -> book.move(3, 7)));
        edge("15 the first find and unit, and the last ones", () -> {
            TrenchBook book = full();
            due("move(0, 39)", book.move(0, 39), 0);
            due("find(0, 0)", book.find(0, 0), 39);
            due("move(59, 0)", book.move(59, 0), 19);
            due("find(59, 0)", book.find(59, 0), 0);
            due("find(58, 0)", book.find(58, 0), 18);
        });
        edge("15 to the unit in which it is", () -> dueKept(2, Edges::rich, book -> book.move(0, 2)));
        edge("15 with the find its years go, too", () -> {
            TrenchBook book = layers(2);
            book.addFind(0, 0, 2000, 2000);
            book.move(0, 1);
            due("bound(0, false)", book.bound(0, false), -5000);
            due("bound(1, false)", book.bound(1, false), 2000);
        });
    }

    // ---- promise 16

    private static void findArguments() {
        edge("16 a find that is too small", () ->
            dueThrowFor(INDEX, Edges::rich, (book, find) -> book.find(find, 0), -1, LEAST));
        edge("16 a find that is too large", () -> {
            dueThrowFor(INDEX, Edges::rich, (book, find) -> book.find(find, 7), 3, 59, 60, MOST);
            dueThrowFor(INDEX, Edges::full, (book, find) -> book.find(find, 0), 60);
        });
        edge("16 no find there yet", () -> {
            dueThrow(INDEX, Edges::empty, book -> book.find(0, 7));
            dueThrow(INDEX, () -> layers(1), book -> book.find(0, 7));
        });
        edge("16 a what that is too small", () ->
            dueThrowFor(INDEX, Edges::rich, (book, what) -> book.find(0, what), -1, LEAST));
        edge("16 a what that is too large", () ->
            dueThrowFor(INDEX, Edges::rich, (book, what) -> book.find(0, what), 8, MOST));
        edge("16 a find and a what that are both bad", () ->
            dueThrow(INDEX, Edges::rich, book -> book.find(3, 8)));
        edge("16 the first find and the last one, the least what and the greatest one", () -> {
            dueFind(rich(), 0, 2, 3, 100, 200, 10, 20, 30, 0);
            dueFind(rich(), 1, 0, 5, -50, 50, 5000, 0, -1000, 0);
            dueFind(rich(), 2, 6, 9, 1000, 1500, 0, 0, 0, 0);
            dueFind(full(), 59, 19, 9, -4941, 59, 1, 2, 60, 0);
        });
    }

    private static void findFits() {
        edge("16 fits: its last year is the lower bound", () -> dueFit(0, 0, 100, 100, 2000));
        edge("16 left over: its last year is less than the lower bound by 1", () ->
            dueFit(1, 0, 99, 100, 2000));
        edge("16 fits: its first year is the upper bound", () -> dueFit(0, 100, 200, -5000, 100));
        edge("16 slipped in: its first year is greater than the upper bound by 1", () ->
            dueFit(2, 101, 200, -5000, 100));
        edge("16 fits: the whole of all years", () -> dueFit(0, -5000, 2000, 2000, 2000));
        edge("16 if both, that it has slipped in is told", () -> {
            TrenchBook book = layers(2);
            book.relate(OVER, 0, 1);
            book.addFind(0, 0, 500, 600);
            book.date(1, 700, 800);
            book.date(0, -100, 100);
            due("find(0, 7)", book.find(0, 7), 2);
        });
        edge("16 left over: by another find of the body", () -> {
            TrenchBook book = oneBody(2);
            book.addFind(0, 0, 0, 9);
            book.addFind(1, 0, 10, 20);
            due("find(0, 7)", book.find(0, 7), 1);
            due("find(1, 7)", book.find(1, 7), 0);
        });
        edge("16 left over: by an earlier body; slipped in: by a later one", () -> {
            TrenchBook book = chain(3);
            book.addFind(1, 0, 0, 10);
            book.date(2, 11, 20);
            due("find(0, 7), with an earlier one from 11", book.find(0, 7), 1);
            book.date(2, 1, 0);
            book.date(0, -10, -1);
            due("find(0, 7), with a later one up to -1", book.find(0, 7), 2);
        });
    }

    /** Of a find of these years, in a unit with this date. */
    private static void dueFit(int want, int first, int last, int firstOfUnit, int lastOfUnit) {
        TrenchBook book = layers(1);
        book.date(0, firstOfUnit, lastOfUnit);
        book.addFind(0, 0, first, last);
        due("find(0, 7)", book.find(0, 7), want);
    }

    // ---- promise 17

    private static void dateArguments() {
        edge("17 a unit that is too small", () ->
            dueThrowFor(INDEX, Edges::rich, (book, unit) -> book.date(unit, 7, 8), -1, LEAST));
        edge("17 a unit that is too large", () -> {
            dueThrowFor(INDEX, Edges::rich, (book, unit) -> book.date(unit, 7, 8), 7, 39, 40, MOST);
            dueThrowFor(INDEX, Edges::full, (book, unit) -> book.date(unit, 7, 8), 40);
        });
        edge("17 no unit there yet", () -> dueThrow(INDEX, Edges::empty, book -> book.date(0, 0, 0)));
        edge("17 a first year that is too small", () -> {
            dueThrowFor(ARGUMENT, Edges::rich, (book, first) -> book.date(0, first, 2000), -5001, LEAST);
            dueThrowFor(ARGUMENT, () -> layers(1), (book, first) -> book.date(0, first, 2000), -5001, LEAST);
        });
        edge("17 a first year that is too large", () -> {
            dueThrowFor(ARGUMENT, Edges::rich, (book, first) -> book.date(0, first, 2000), 2001, MOST);
            dueThrowFor(ARGUMENT, () -> layers(1), (book, first) -> book.date(0, first, 2000), 2001, MOST);
        });
        edge("17 a last year that is too small", () -> {
            dueThrowFor(ARGUMENT, Edges::rich, (book, last) -> book.date(0, -5000, last), -5001, LEAST);
            dueThrowFor(ARGUMENT, () -> layers(1), (book, last) -> book.date(0, -5000, last), -5001, LEAST);
        });
        edge("17 a last year that is too large", () -> {
            dueThrowFor(ARGUMENT, Edges::rich, (book, last) -> book.date(0, -5000, last), 2001, MOST);
            dueThrowFor(ARGUMENT, () -> layers(1), (book, last) -> book.date(0, -5000, last), 2001, MOST);
        });
        edge("17 a bad year, though it would be no date", () -> {
            dueThrow(ARGUMENT, Edges::rich, book -> book.date(0, 2001, 0));
            dueThrow(ARGUMENT, Edges::rich, book -> book.date(0, 0, -5001));
        });
        edge("17 a bad unit is told before a bad year", () -> {
            dueThrow(INDEX, Edges::rich, book -> book.date(7, -5001, 0));
            dueThrow(INDEX, Edges::rich, book -> book.date(-1, 0, 2001));
            dueThrow(INDEX, Edges::empty, book -> book.date(0, 2001, 2001));
        });
    }

    private static void date() {
        edge("17 the least year and the greatest one", () -> {
            dueDated(-5000, -5000);
            dueDated(-5000, 2000);
            dueDated(2000, 2000);
        });
        edge("17 a last year that is the first one is a date", () -> dueDated(7, 7));
        edge("17 a last year that is less by 1 is no date", () -> {
            TrenchBook book = layers(1);
            due("date(0, 7, 6)", book.date(0, 7, 6), 0);
            dueBounds(book, 0, -5000, 2000);
            due("date(0, 2000, -5000)", book.date(0, 2000, -5000), 0);
            dueBounds(book, 0, -5000, 2000);
        });
        edge("17 a date that it had is gone with a new one", () -> {
            TrenchBook book = layers(1);
            book.date(0, 100, 110);
            due("date(0, 0, 500)", book.date(0, 0, 500), 1);
            dueBounds(book, 0, 0, 500);
        });
        edge("17 a date that it had is gone with no date", () -> {
            TrenchBook book = layers(1);
            book.date(0, 100, 110);
            due("date(0, 7, 6)", book.date(0, 7, 6), 1);
            dueBounds(book, 0, -5000, 2000);
            due("date(0, 7, 6) again", book.date(0, 7, 6), 0);
        });
        edge("17 no date for the last unit, and for no other", () -> {
            TrenchBook book = layers(40);
            book.date(0, 1, 2);
            book.date(39, 3, 4);
            due("date(39, 1, 0)", book.date(39, 1, 0), 1);
            dueBounds(book, 39, -5000, 2000);
            dueBounds(book, 0, 1, 2);
        });
        edge("17 the first unit and the last one, and no other", () -> {
            TrenchBook book = layers(40);
            due("date(39, 1, 2)", book.date(39, 1, 2), 0);
            due("date(0, 1, 2)", book.date(0, 1, 2), 0);
            due("date(38, 1, 2)", book.date(38, 1, 2), 0);
            due("date(39, 1, 2)", book.date(39, 1, 2), 1);
            dueBounds(book, 37, -5000, 2000);
        });
        edge("17 a unit is dated, not its body", () -> {
            TrenchBook book = oneBody(2);
            book.date(0, 1, 2);
            due("date(1, 1, 2)", book.date(1, 1, 2), 0);
        });
    }

    private static void dueDated(int first, int last) {
        TrenchBook book = layers(1);
        due("date(0, " + first + ", " + last + ")", book.date(0, first, last), 0);
        dueBounds(book, 0, first, last);
        due("date again", book.date(0, first, last), 1);
    }

    // ---- promise 18

    private static void boundArguments() {
        edge("18 a unit that is too small", () -> {
            dueThrowFor(INDEX, Edges::rich, (book, unit) -> book.bound(unit, false), -1, LEAST);
            dueThrowFor(INDEX, Edges::rich, (book, unit) -> book.bound(unit, true), -1, LEAST);
        });
        edge("18 a unit that is too large", () -> {
            dueThrowFor(INDEX, Edges::rich, (book, unit) -> book.bound(unit, false), 7, 39, 40, MOST);
            dueThrowFor(INDEX, Edges::full, (book, unit) -> book.bound(unit, true), 40);
        });
        edge("18 no unit there yet", () -> {
            dueThrow(INDEX, Edges::empty, book -> book.bound(0, false));
            dueThrow(INDEX, Edges::empty, book -> book.bound(0, true));
        });
        edge("18 the first unit and the last one", () -> {
            dueBounds(rich(), 0, -50, 300);
            dueBounds(rich(), 6, 1000, 2000);
        });
        edge("18 -5000 and 2000 without dates and finds", () -> dueBounds(layers(40), 39, -5000, 2000));
    }

    private static void boundLower() {
        edge("18 lower: the greatest of the dates of the body's units", () -> {
            TrenchBook book = oneBody(3);
            book.date(0, 5, 10);
            book.date(2, 7, 10);
            book.date(1, 6, 10);
            dueBounds(book, 0, 7, 10);
            dueBounds(book, 1, 7, 10);
        });
        edge("18 lower: the greatest of the first years of the body's finds", () -> {
            TrenchBook book = oneBody(2);
            book.addFind(1, 0, 2000, 2000);
            book.addFind(0, 0, 7, 8);
            dueBounds(book, 0, 2000, 2000);
        });
        edge("18 lower: that of an earlier body, however far", () -> {
            TrenchBook book = chain(40);
            book.date(39, -4999, 2000);
            dueBounds(book, 0, -4999, 2000);
            book.addFind(39, 0, -4998, 0);
            dueBounds(book, 0, -4998, 2000);
        });
        edge("18 lower: not that of a later body", () -> {
            TrenchBook book = chain(2);
            book.date(0, 5, 2000);
            book.addFind(0, 0, 6, 7);
            dueBounds(book, 1, -5000, 2000);
        });
        edge("18 lower: not that of a body that is neither", () -> {
            TrenchBook book = layers(2);
            book.date(0, 5, 2000);
            dueBounds(book, 1, -5000, 2000);
        });
    }

    private static void boundUpper() {
        edge("18 upper: the least of the dates of the body's units", () -> {
            TrenchBook book = oneBody(3);
            book.date(0, -5000, 9);
            book.date(2, -5000, 7);
            book.date(1, -5000, 8);
            dueBounds(book, 2, -5000, 7);
        });
        edge("18 upper: not the last years of finds", () -> {
            TrenchBook book = layers(1);
            book.addFind(0, 0, -5000, -4000);
            dueBounds(book, 0, -5000, 2000);
        });
        edge("18 upper: that of a later body, however far", () -> {
            TrenchBook book = chain(40);
            book.date(0, -5000, 1999);
            dueBounds(book, 39, -5000, 1999);
        });
        edge("18 upper: not that of an earlier body", () -> {
            TrenchBook book = chain(2);
            book.date(1, -5000, 5);
            dueBounds(book, 0, -5000, 2000);
        });
        edge("18 upper: not that of a body that is neither", () -> {
            TrenchBook book = layers(2);
            book.date(0, -5000, 5);
            dueBounds(book, 1, -5000, 2000);
        });
        edge("18 the lower bound can be greater than the upper one", () -> {
            TrenchBook book = chain(2);
            book.date(1, 2000, 2000);
            book.date(0, -5000, -5000);
            dueBounds(book, 0, 2000, -5000);
            dueBounds(book, 1, 2000, -5000);
        });
    }

    private static void dueBounds(TrenchBook book, int unit, int lower, int upper) {
        due("bound(" + unit + ", false)", book.bound(unit, false), lower);
        due("bound(" + unit + ", true)", book.bound(unit, true), upper);
    }

    // ---- promise 19

    private static void doubt() {
        edge("19 an index that is too small", () -> {
            dueThrowFor(INDEX, Edges::rich, TrenchBook::doubt, -1, LEAST);
            dueThrow(INDEX, Edges::empty, book -> book.doubt(-1));
        });
        edge("19 an index that is too large", () -> {
            dueThrowFor(INDEX, Edges::rich, TrenchBook::doubt, 40, MOST);
            dueThrow(INDEX, Edges::empty, book -> book.doubt(40));
        });
        edge("19 the least index and the greatest one", () -> {
            dueKept(-1, Edges::rich, book -> book.doubt(0));
            dueKept(-1, Edges::rich, book -> book.doubt(39));
        });
        edge("19 no unit there yet", () -> dueDoubts(empty()));
        edge("19 40 bodies in doubt", () -> {
            TrenchBook book = chain(40);
            book.date(39, 2000, 2000);
            book.date(0, -5000, -5000);
            due("doubt(0)", book.doubt(0), 0);
            due("doubt(38)", book.doubt(38), 38);
            due("doubt(39)", book.doubt(39), 39);
        });
        edge("19 not in doubt: the bounds are equal", () -> {
            TrenchBook book = chain(2);
            book.date(1, 100, 100);
            book.date(0, 0, 100);
            dueDoubts(book);
        });
        edge("19 in doubt: the lower bound is greater by 1", () -> {
            TrenchBook book = chain(3);
            book.date(1, 101, 101);
            book.date(0, 0, 100);
            dueDoubts(book, 0, 1);
        });
        edge("19 in ascending order, -1 if there are not so many", () -> {
            TrenchBook book = layers(40);
            for (int unit = 39; unit >= 3; unit -= 18) {
                book.addFind(unit, 0, 10, 10);
                book.date(unit, 0, 9);
            }
            dueDoubts(book, 3, 21, 39);
        });
        edge("19 a body is told once, by its smallest unit", () -> {
            TrenchBook book = oneBody(40);
            book.date(39, 0, 0);
            book.date(38, 1, 1);
            dueDoubts(book, 0);
        });
    }

    private static void dueDoubts(TrenchBook book, int... bodies) {
        for (int index = 0; index < 40; index++) {
            due("doubt(" + index + ")", book.doubt(index), index < bodies.length ? bodies[index] : -1);
        }
    }

    // ---- promise 20

    private static void nearestArguments() {
        edge("20 an x that is too small", () ->
            dueThrowFor(ARGUMENT, Edges::rich, (book, x) -> book.nearest(x, 0, 0, -1), -1, LEAST));
        edge("20 an x that is too large", () ->
            dueThrowFor(ARGUMENT, Edges::rich, (book, x) -> book.nearest(x, 0, 0, -1), 5001, MOST));
        edge("20 a y that is too small", () ->
            dueThrowFor(ARGUMENT, Edges::rich, (book, y) -> book.nearest(0, y, 0, -1), -1, LEAST));
        edge("20 a y that is too large", () ->
            dueThrowFor(ARGUMENT, Edges::rich, (book, y) -> book.nearest(0, y, 0, -1), 5001, MOST));
        edge("20 a z that is too small", () ->
            dueThrowFor(ARGUMENT, Edges::rich, (book, z) -> book.nearest(0, 0, z, -1), -1001, LEAST));
        edge("20 a z that is too large", () ->
            dueThrowFor(ARGUMENT, Edges::rich, (book, z) -> book.nearest(0, 0, z, -1), 1001, MOST));
        edge("20 a sort that is too small", () ->
            dueThrowFor(ARGUMENT, Edges::rich, (book, sort) -> book.nearest(0, 0, 0, sort), -2, LEAST));
        edge("20 a sort that is too large", () ->
            dueThrowFor(ARGUMENT, Edges::rich, (book, sort) -> book.nearest(0, 0, 0, sort), 10, MOST));
        edge("20 a bad argument with no find there yet", () -> {
            dueThrow(ARGUMENT, Edges::empty, book -> book.nearest(-1, 0, 0, -1));
            dueThrow(ARGUMENT, Edges::empty, book -> book.nearest(0, 5001, 0, -1));
            dueThrow(ARGUMENT, Edges::empty, book -> book.nearest(0, 0, 1001, -1));
            dueThrow(ARGUMENT, Edges::empty, book -> book.nearest(0, 0, 0, 10));
        });
        edge("20 the least place and the greatest one", () -> {
            dueKept(2, Edges::rich, book -> book.nearest(0, 0, -1000, -1));
            dueKept(0, Edges::rich, book -> book.nearest(0, 5000, 1000, -1));
            dueKept(1, Edges::rich, book -> book.nearest(5000, 0, 0, -1));
        });
    }

    private static void nearest() {
        edge("20 -1 if there is none", () -> {
            dueKept(-1, Edges::empty, book -> book.nearest(0, 0, 0, -1));
            dueKept(-1, Edges::empty, book -> book.nearest(5000, 5000, 1000, 9));
        });
        edge("20 -1 if there is none of this sort", () ->
            dueKept(-1, Edges::rich, book -> book.nearest(0, 0, 0, 0)));
        edge("20 the least sort and the greatest one", () -> {
            TrenchBook book = layers(1);
            book.addFind(0, 5, 0, 0);
            book.addFind(0, 9, 0, 0);
            book.addFind(0, 0, 0, 0);
            due("nearest of sort 0", book.nearest(0, 0, 0, 0), 2);
            due("nearest of sort 9", book.nearest(0, 0, 0, 9), 1);
        });
        edge("20 -1 for all sorts", () -> {
            TrenchBook book = withFinds(1);
            book.addFind(0, 9, 0, 0);
            book.place(0, 2, 0, 0);
            book.place(1, 1, 0, 0);
            due("nearest", book.nearest(0, 0, 0, -1), 1);
        });
        edge("20 of several the one with the smallest number", () -> {
            due("nearest of 60", withFinds(60).nearest(0, 0, 0, -1), 0);
            TrenchBook book = withFinds(60);
            book.place(0, 10, 10, 10);
            due("nearest of 59", book.nearest(0, 0, 0, -1), 1);
            book.place(58, 9, 10, 10);
            book.place(59, 11, 10, 10);
            due("nearest at 12", book.nearest(12, 10, 10, -1), 59);
        });
        edge("20 of several, on all sides", () -> {
            TrenchBook book = withFinds(6);
            int[][] places = {{3, 2, 0}, {1, 2, 0}, {2, 3, 0}, {2, 1, 0}, {2, 2, 1}, {2, 2, -1}};
            for (int find = 5; find >= 0; find--) {
                book.place(find, places[find][0], places[find][1], places[find][2]);
            }
            due("nearest", book.nearest(2, 2, 0, -1), 0);
            book.place(4, 2, 2, 0);
            due("nearest then", book.nearest(2, 2, 0, -1), 4);
        });
        edge("20 by the square of the distance, not by the sum of the sides", () -> {
            TrenchBook book = withFinds(2);
            book.place(0, 0, 5, 0);
            book.place(1, 3, 3, 0);
            due("nearest", book.nearest(0, 0, 0, -1), 1);
        });
        edge("20 the greatest distances", () -> {
            TrenchBook book = withFinds(2);
            book.place(0, 5000, 5000, 1000);
            book.place(1, 5000, 5000, 999);
            due("nearest", book.nearest(0, 0, -1000, -1), 1);
            book.place(1, 5000, 5000, 1000);
            due("nearest of equal ones", book.nearest(0, 0, -1000, -1), 0);
        });
        edge("20 the last one of 60", () -> {
            TrenchBook book = withFinds(60);
            book.place(59, 5000, 5000, 1000);
            due("nearest", book.nearest(5000, 5000, 1000, -1), 59);
        });
    }
}
