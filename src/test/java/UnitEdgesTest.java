/** The boundary cases of promises 1 to 7 (units and relations), a test for each of their sentences. */
public final class UnitEdgesTest extends Edges {
    public static void main(String[] args) {
        newObject();
        addUnit();
        relateKinds();
        relateUnits();
        relateFull();
        relateSameUnit();
        relateSorts();
        relateTold();
        relateLoops();
        relateLeastReason();
        takeBack();
        takeBackMatrix();
        relation();
        countArguments();
        countNothing();
        countMost();
        countDoubt();
        countOutOfPhase();
        unitArguments();
        unitBodies();
        unitMatrix();
        unitRest();
        end();
    }

    // ---- promise 1

    private static void newObject() {
        edge("1 without units", () -> {
            due("count(0)", empty().count(0), 0);
            dueThrow(INDEX, Edges::empty, book -> book.unit(0, 0));
        });
        edge("1 without relations", () -> {
            due("count(1)", empty().count(1), 0);
            dueThrow(INDEX, Edges::empty, book -> book.relation(0, 0));
        });
        edge("1 without finds", () -> {
            due("count(4)", empty().count(4), 0);
            dueThrow(INDEX, Edges::empty, book -> book.find(0, 0));
        });
        edge("1 an object is not changed by another one", () -> {
            TrenchBook book = empty();
            full();
            due("digest()", book.digest(), empty().digest());
        });
    }

    // ---- promise 2

    private static void addUnit() {
        edge("2 a sort that is too small", () ->
            dueThrowFor(ARGUMENT, Edges::rich, TrenchBook::addUnit, -1, LEAST));
        edge("2 a sort that is too large", () ->
            dueThrowFor(ARGUMENT, Edges::rich, TrenchBook::addUnit, 4, MOST));
        edge("2 the least sort", () -> {
            TrenchBook book = empty();
            due("addUnit(0)", book.addUnit(0), 0);
            due("unit(0, 0)", book.unit(0, 0), 0);
        });
        edge("2 the greatest sort", () -> {
            TrenchBook book = empty();
            due("addUnit(3)", book.addUnit(3), 0);
            due("unit(0, 0)", book.unit(0, 0), 3);
        });
        edge("2 the 40th unit is added", () -> {
            TrenchBook book = layers(39);
            due("addUnit(2)", book.addUnit(2), 39);
            due("count(0)", book.count(0), 40);
            due("unit(39, 0)", book.unit(39, 0), 2);
        });
        edge("2 no unit is added if there are 40", () -> {
            dueThrow(STATE, () -> layers(40), book -> book.addUnit(0));
            dueThrow(STATE, Edges::full, book -> book.addUnit(3));
        });
        edge("2 a bad sort is told before there being 40", () ->
            dueThrowFor(ARGUMENT, Edges::full, TrenchBook::addUnit, -1, 4));
    }

    // ---- promise 3

    private static void relateKinds() {
        edge("3 a kind that is too small", () ->
            dueThrowFor(ARGUMENT, Edges::rich, (book, kind) -> book.relate(kind, 6, 0), -1, LEAST));
        edge("3 a kind that is too large", () ->
            dueThrowFor(ARGUMENT, Edges::rich, (book, kind) -> book.relate(kind, 6, 0), 5, MOST));
        edge("3 the least kind", () -> dueTold(bookOf(LAYER, LAYER), OVER, 0, 1));
        edge("3 the greatest kind", () -> dueTold(bookOf(LAYER, LAYER), SAME, 0, 1));
        edge("3 a bad kind is told before a bad unit", () -> {
            dueThrow(ARGUMENT, Edges::empty, book -> book.relate(-1, 0, 0));
            dueThrow(ARGUMENT, Edges::rich, book -> book.relate(5, -1, 0));
            dueThrow(ARGUMENT, Edges::rich, book -> book.relate(5, 0, 7));
        });
    }

    private static void relateUnits() {
        edge("3 a unit a that is too small", () ->
            dueThrowFor(INDEX, Edges::rich, (book, a) -> book.relate(OVER, a, 0), -1, LEAST));
        edge("3 a unit a that is too large", () ->
            dueThrowFor(INDEX, Edges::rich, (book, a) -> book.relate(OVER, a, 0), 7, 39, 40, MOST));
        edge("3 a unit b that is too small", () ->
            dueThrowFor(INDEX, Edges::rich, (book, b) -> book.relate(OVER, 6, b), -1, LEAST));
        edge("3 a unit b that is too large", () ->
            dueThrowFor(INDEX, Edges::rich, (book, b) -> book.relate(OVER, 6, b), 7, 39, 40, MOST));
        edge("3 no unit there yet", () -> {
            for (int each = OVER; each <= SAME; each++) {
                int kind = each;
                dueThrow(INDEX, Edges::empty, book -> book.relate(kind, 0, 0));
            }
        });
        edge("3 the first unit and the last one", () -> {
            dueTold(layers(7), OVER, 0, 6);
            dueTold(layers(7), OVER, 6, 0);
            dueTold(layers(40), OVER, 0, 39);
            dueTold(layers(40), OVER, 39, 0);
        });
        edge("3 a bad unit is told before it is refused", () -> {
            dueThrow(INDEX, Edges::rich, book -> book.relate(OVER, 7, 7));
            dueThrow(INDEX, Edges::rich, book -> book.relate(CUTS, 0, 7));
        });
    }

    private static void relateFull() {
        edge("3 the 80th relation is told", () -> {
            TrenchBook book = related(79);
            dueTold(book, OVER, 18, 19);
            due("count(1)", book.count(1), 80);
        });
        edge("3 no relation is told if there are 80", () -> {
            dueThrow(STATE, () -> related(80), book -> book.relate(OVER, 18, 19));
            dueThrow(STATE, Edges::full, book -> book.relate(OVER, 0, 39));
        });
        edge("3 there being 80 is thrown though it would be refused", () -> {
            dueThrow(STATE, () -> related(80), book -> book.relate(OVER, 0, 0));
            dueThrow(STATE, () -> related(80), book -> book.relate(CUTS, 0, 1));
            dueThrow(STATE, () -> related(80), book -> book.relate(OVER, 0, 1));
            dueThrow(STATE, () -> related(80), book -> book.relate(OVER, 1, 0));
        });
        edge("3 with 79 a refused one is answered", () -> {
            dueKept(1, () -> related(79), book -> book.relate(OVER, 0, 0));
            dueKept(3, () -> related(79), book -> book.relate(OVER, 0, 1));
        });
        edge("3 a bad kind is told before there being 80", () ->
            dueThrowFor(ARGUMENT, () -> related(80), (book, kind) -> book.relate(kind, 18, 19), -1, 5));
        edge("3 a bad unit is told before there being 80", () -> {
            dueThrowFor(INDEX, () -> related(80), (book, a) -> book.relate(OVER, a, 19), -1, 20);
            dueThrowFor(INDEX, () -> related(80), (book, b) -> book.relate(OVER, 18, b), -1, 20);
        });
        edge("3 with one of 80 taken back there is room again", () -> {
            TrenchBook book = related(80);
            book.takeBack(40);
            dueTold(book, OVER, 18, 19);
        });
    }

    private static void relateSameUnit() {
        edge("3 refused by 1: a and b are the same unit", () -> {
            dueKept(1, Edges::rich, book -> book.relate(OVER, 0, 0));
            dueKept(1, Edges::rich, book -> book.relate(CUTS, 1, 1));
            dueKept(1, Edges::rich, book -> book.relate(AGAINST, 3, 3));
            dueKept(1, Edges::rich, book -> book.relate(SAME, 6, 6));
        });
        edge("3 not refused by 1: other units of one sort", () -> {
            dueTold(layers(2), OVER, 0, 1);
            dueTold(layers(2), SAME, 1, 0);
        });
    }

    private static void relateSorts() {
        edge("3 kind 0 takes all sorts", () -> dueSorts(OVER, "LL LC LF LW CL CC CF CW FL FC FF FW WL WC WF WW"));
        edge("3 refused by 2: a cuts b, and a is no cut", () -> dueSorts(CUTS, "CL CC CF CW"));
        edge("3 refused by 2: a fills b, and a is no fill or b no cut", () -> dueSorts(FILLS, "FC"));
        edge("3 refused by 2: a stands against b, and a is no wall", () -> dueSorts(AGAINST, "WL WC WF WW"));
        edge("3 refused by 2: a and b the same, with different sorts", () -> dueSorts(SAME, "LL CC FF WW"));
    }

    /** Of all pairs of sorts a relation of this kind takes these, and refuses all others by 2. */
    private static void dueSorts(int kind, String taken) {
        for (int sortOfA = LAYER; sortOfA <= WALL; sortOfA++) {
            for (int sortOfB = LAYER; sortOfB <= WALL; sortOfB++) {
                int[] sorts = {sortOfA, sortOfB};
                String pair = "" + "LCFW".charAt(sortOfA) + "LCFW".charAt(sortOfB);
                if ((" " + taken + " ").contains(" " + pair + " ")) {
                    dueTold(bookOf(sorts), kind, 0, 1);
                } else {
                    dueKept(2, () -> bookOf(sorts), book -> book.relate(kind, 0, 1));
                }
            }
        }
    }

    private static void relateTold() {
        edge("3 refused by 3: told already", () -> {
            dueKept(3, Edges::rich, book -> book.relate(CUTS, 1, 0));
            dueKept(3, Edges::rich, book -> book.relate(FILLS, 2, 1));
            dueKept(3, Edges::rich, book -> book.relate(AGAINST, 3, 2));
            dueKept(3, Edges::rich, book -> book.relate(SAME, 4, 0));
            dueKept(3, Edges::rich, book -> book.relate(OVER, 6, 5));
        });
        edge("3 refused by 3: for 4 also the other way round", () ->
            dueKept(3, Edges::rich, book -> book.relate(SAME, 0, 4)));
        edge("3 not refused by 3: of another kind", () -> {
            dueTold(rich(), OVER, 1, 0);
            dueTold(rich(), CUTS, 5, 4);
        });
        edge("3 not refused by 3: with another unit of the body", () -> dueTold(rich(), CUTS, 1, 4));
        edge("3 not refused by 3: the same by way of others only", () -> {
            dueTold(oneBody(3), SAME, 0, 2);
            dueTold(oneBody(3), SAME, 2, 0);
        });
        edge("3 not refused by 3: taken back", () -> {
            TrenchBook book = rich();
            book.takeBack(0);
            dueTold(book, CUTS, 1, 0);
        });
        edge("3 not refused by 3: the last one or the only one, taken back", () -> {
            TrenchBook book = rich();
            book.takeBack(5);
            dueTold(book, OVER, 6, 5);
            TrenchBook only = layers(2);
            only.relate(SAME, 0, 1);
            only.takeBack(0);
            dueTold(only, SAME, 1, 0);
        });
        edge("3 refused by 3: the first one and the last one of 79", () -> {
            dueKept(3, () -> related(79), book -> book.relate(OVER, 0, 1));
            dueKept(3, () -> related(79), book ->
                book.relate(book.relation(78, 0), book.relation(78, 1), book.relation(78, 2)));
        });
    }

    private static void relateLoops() {
        edge("3 refused by 4: turned round, by each kind", () -> {
            dueLoop(OVER, LAYER, LAYER);
            dueLoop(CUTS, CUT, LAYER);
            dueLoop(FILLS, FILL, CUT);
            dueLoop(AGAINST, WALL, LAYER);
            dueLoop(SAME, LAYER, LAYER);
        });
        edge("3 refused by 4: by way of one other body", () ->
            dueKept(4, () -> chain(3), book -> book.relate(OVER, 2, 0)));
        edge("3 refused by 4: by the longest way there can be", () -> {
            dueKept(4, () -> chain(40), book -> book.relate(OVER, 39, 0));
            dueKept(4, () -> chain(40), book -> book.relate(SAME, 39, 0));
            dueKept(4, () -> chain(40), book -> book.relate(SAME, 0, 39));
        });
        edge("3 refused by 4: by way of a unit that is the same", () ->
            dueKept(4, Edges::rich, book -> book.relate(OVER, 4, 1)));
        edge("3 refused by 4: both of one body", () -> {
            dueKept(4, Edges::rich, book -> book.relate(OVER, 0, 4));
            dueKept(4, Edges::rich, book -> book.relate(OVER, 4, 0));
            dueKept(4, () -> oneBody(40), book -> book.relate(OVER, 39, 0));
        });
        edge("3 refused by 4: the same, though one is later", () -> {
            dueKept(4, Edges::rich, book -> book.relate(SAME, 6, 0));
            dueKept(4, Edges::rich, book -> book.relate(SAME, 0, 6));
            dueKept(4, Edges::rich, book -> book.relate(SAME, 4, 6));
            dueKept(4, Edges::rich, book -> book.relate(SAME, 6, 4));
        });
        edge("3 not refused by 4: the same, and neither is later", () -> dueTold(rich(), SAME, 1, 5));
        edge("3 not refused by 4: later in the same sense already", () -> {
            dueTold(chain(3), OVER, 0, 2);
            dueTold(chain(40), OVER, 0, 39);
        });
        edge("3 not refused by 4: what made the loop is taken back", () -> {
            TrenchBook book = chain(3);
            book.takeBack(0);
            dueTold(book, OVER, 2, 0);
        });
    }

    /** With b over a told, a relation of this kind that makes a later than b is refused by 4. */
    private static void dueLoop(int kind, int sortOfA, int sortOfB) {
        dueKept(4, () -> {
            TrenchBook book = bookOf(sortOfA, sortOfB);
            book.relate(OVER, 1, 0);
            return book;
        }, book -> book.relate(kind, 0, 1));
    }

    private static void relateLeastReason() {
        edge("3 the least reason: 1, though 2 and 4 apply too", () -> {
            dueKept(1, Edges::rich, book -> book.relate(CUTS, 0, 0));
            dueKept(1, Edges::rich, book -> book.relate(FILLS, 2, 2));
            dueKept(1, Edges::rich, book -> book.relate(FILLS, 1, 1));
            dueKept(1, Edges::rich, book -> book.relate(AGAINST, 6, 6));
        });
        edge("3 the least reason: 2, though 4 applies too", () -> {
            dueKept(2, Edges::rich, book -> book.relate(CUTS, 0, 6));
            dueKept(2, Edges::rich, book -> book.relate(CUTS, 0, 4));
            dueKept(2, Edges::rich, book -> book.relate(FILLS, 1, 2));
            dueKept(2, Edges::rich, book -> book.relate(AGAINST, 0, 6));
            dueKept(2, Edges::rich, book -> book.relate(SAME, 0, 1));
        });
    }

    /** It is taken, and stands behind the others. */
    private static void dueTold(TrenchBook book, int kind, int a, int b) {
        int before = book.count(1);
        due("relate(" + kind + ", " + a + ", " + b + ")", book.relate(kind, a, b), 0);
        due("count(1)", book.count(1), before + 1);
        dueRelation(book, before, kind, a, b);
    }

    private static void dueRelation(TrenchBook book, int relation, int kind, int a, int b) {
        due("relation(" + relation + ", 0)", book.relation(relation, 0), kind);
        due("relation(" + relation + ", 1)", book.relation(relation, 1), a);
        due("relation(" + relation + ", 2)", book.relation(relation, 2), b);
    }

    // ---- promise 4

    private static void takeBack() {
        edge("4 a relation that is too small", () ->
            dueThrowFor(INDEX, Edges::rich, TrenchBook::takeBack, -1, LEAST));
        edge("4 a relation that is too large", () -> {
            dueThrowFor(INDEX, Edges::rich, TrenchBook::takeBack, 6, 79, 80, MOST);
            dueThrowFor(INDEX, Edges::full, TrenchBook::takeBack, 80);
        });
        edge("4 no relation there yet", () -> {
            dueThrowFor(INDEX, Edges::empty, TrenchBook::takeBack, 0);
            dueThrowFor(INDEX, () -> layers(2), TrenchBook::takeBack, 0);
        });
        edge("4 the first relation, and those behind it have numbers that are 1 less", () -> {
            TrenchBook book = rich();
            due("takeBack(0)", book.takeBack(0), 5);
            dueRelation(book, 0, FILLS, 2, 1);
            dueRelation(book, 1, AGAINST, 3, 2);
            dueRelation(book, 2, SAME, 4, 0);
            dueRelation(book, 3, OVER, 5, 4);
            dueRelation(book, 4, OVER, 6, 5);
            due("count(1)", book.count(1), 5);
        });
        edge("4 one amid others, and those before it keep their numbers", () -> {
            TrenchBook book = rich();
            due("takeBack(2)", book.takeBack(2), 5);
            dueRelation(book, 0, CUTS, 1, 0);
            dueRelation(book, 1, FILLS, 2, 1);
            dueRelation(book, 2, SAME, 4, 0);
            dueRelation(book, 4, OVER, 6, 5);
        });
        edge("4 the last relation", () -> {
            TrenchBook book = rich();
            due("takeBack(5)", book.takeBack(5), 5);
            dueRelation(book, 4, OVER, 5, 4);
        });
        edge("4 the number of one that was taken back is too large then", () ->
            dueThrow(INDEX, () -> {
                TrenchBook book = rich();
                book.takeBack(5);
                return book;
            }, book -> book.takeBack(5)));
        edge("4 the only relation: none is left", () -> {
            TrenchBook book = related(1);
            due("takeBack(0)", book.takeBack(0), 0);
            due("digest()", book.digest(), layers(20).digest());
        });
        edge("4 the first and the last one of 80", () -> {
            TrenchBook book = related(80);
            due("takeBack(79)", book.takeBack(79), 79);
            due("digest()", book.digest(), related(79).digest());
            due("takeBack(0)", book.takeBack(0), 78);
            dueRelation(book, 0, OVER, 0, 2);
            dueRelation(book, 77, related(79).relation(78, 0), related(79).relation(78, 1),
                related(79).relation(78, 2));
        });
    }

    private static void takeBackMatrix() {
        edge("4 with a relation its order is gone", () -> {
            TrenchBook book = chain(3);
            book.takeBack(1);
            due("order(1, 2)", book.order(1, 2), 2);
            due("order(0, 2)", book.order(0, 2), 2);
            due("order(0, 1)", book.order(0, 1), 1);
        });
        edge("4 an order that another relation tells too stays", () -> {
            TrenchBook book = chain(3);
            book.relate(OVER, 0, 2);
            book.takeBack(0);
            due("order(0, 2)", book.order(0, 2), 1);
        });
        edge("4 with a relation of kind 4 its body is parted", () -> {
            TrenchBook book = oneBody(40);
            due("takeBack(19)", book.takeBack(19), 38);
            due("count(2)", book.count(2), 2);
            due("unit(19, 1)", book.unit(19, 1), 0);
            due("unit(20, 1)", book.unit(20, 1), 20);
            due("unit(39, 2)", book.unit(39, 2), 20);
            due("unit(0, 2)", book.unit(0, 2), 20);
        });
        edge("4 with a relation of kind 4 the level of a unit that was parted is its own", () -> {
            TrenchBook book = chain(2);
            book.relate(SAME, book.addUnit(LAYER), 0);
            due("unit(2, 3)", book.unit(2, 3), 1);
            book.takeBack(1);
            due("unit(2, 3) then", book.unit(2, 3), 0);
            due("unit(2, 4) then", book.unit(2, 4), 0);
        });
        edge("4 with the last relation of 0 to 3 there is one level again", () -> {
            TrenchBook book = layers(3);
            book.relate(OVER, 2, 1);
            book.relate(SAME, 2, 0);
            due("takeBack(0)", book.takeBack(0), 1);
            due("count(7)", book.count(7), 1);
            due("count(3)", book.count(3), 0);
        });
    }

    // ---- promise 5

    private static void relation() {
        edge("5 a relation that is too small", () ->
            dueThrowFor(INDEX, Edges::rich, (book, relation) -> book.relation(relation, 0), -1, LEAST));
        edge("5 a relation that is too large", () -> {
            dueThrowFor(INDEX, Edges::rich, (book, relation) -> book.relation(relation, 2), 6, 79, 80, MOST);
            dueThrowFor(INDEX, Edges::full, (book, relation) -> book.relation(relation, 0), 80);
        });
        edge("5 no relation there yet", () -> {
            dueThrow(INDEX, Edges::empty, book -> book.relation(0, 0));
            dueThrow(INDEX, () -> layers(2), book -> book.relation(0, 0));
        });
        edge("5 a what that is too small", () ->
            dueThrowFor(INDEX, Edges::rich, (book, what) -> book.relation(0, what), -1, LEAST));
        edge("5 a what that is too large", () ->
            dueThrowFor(INDEX, Edges::rich, (book, what) -> book.relation(0, what), 3, MOST));
        edge("5 a relation and a what that are both bad", () ->
            dueThrow(INDEX, Edges::rich, book -> book.relation(6, 3)));
        edge("5 the first relation and the last one, the least what and the greatest one", () -> {
            dueKept(CUTS, Edges::rich, book -> book.relation(0, 0));
            dueKept(0, Edges::rich, book -> book.relation(0, 2));
            dueKept(OVER, Edges::rich, book -> book.relation(5, 0));
            dueKept(6, Edges::rich, book -> book.relation(5, 1));
            dueKept(5, Edges::rich, book -> book.relation(5, 2));
        });
        edge("5 the last one of 80", () -> dueRelation(full(), 79, OVER, 2, 5));
        edge("5 of kind 4 a and b are told as they were given", () -> {
            TrenchBook book = layers(2);
            book.relate(SAME, 1, 0);
            dueRelation(book, 0, SAME, 1, 0);
        });
    }

    // ---- promise 6

    private static void countArguments() {
        edge("6 a what that is too small", () ->
            dueThrowFor(INDEX, Edges::rich, TrenchBook::count, -1, LEAST));
        edge("6 a what that is too large", () ->
            dueThrowFor(INDEX, Edges::rich, TrenchBook::count, 9, MOST));
        edge("6 the least what and the greatest one", () -> {
            dueKept(7, Edges::rich, book -> book.count(0));
            dueKept(8, Edges::rich, book -> book.count(8));
        });
    }

    private static void countNothing() {
        edge("6 everything is 0 at first, levels without units too", () -> {
            for (int what = 0; what <= 8; what++) {
                due("count(" + what + ")", empty().count(what), 0);
            }
        });
        edge("6 one unit is one body, on one level", () -> dueCounts(layers(1), 1, 0, 1, 0, 0, 0, 0, 1, 0));
    }

    private static void countMost() {
        edge("6 40 units, 80 relations, 60 finds", () -> dueCounts(full(), 40, 80, 40, 39, 60, 1, 0, 40, 39));
        edge("6 40 units of one body", () -> dueCounts(oneBody(40), 40, 39, 1, 0, 0, 0, 0, 1, 0));
        edge("6 40 bodies without relations", () -> dueCounts(layers(40), 40, 0, 40, 0, 0, 0, 0, 1, 0));
        edge("6 40 units that are dug", () -> {
            TrenchBook book = layers(40);
            for (int unit = 0; unit < 40; unit++) {
                book.dig(unit);
            }
            due("count(5)", book.count(5), 40);
        });
        edge("6 as many links as relations", () -> {
            TrenchBook book = layers(40);
            for (int above = 0; above < 4; above++) {
                for (int below = 20; below < 40; below++) {
                    book.relate(OVER, above, below);
                }
            }
            due("count(3)", book.count(3), 80);
        });
        edge("6 a link that two or three relations tell is one", () -> {
            TrenchBook book = rich();
            book.relate(OVER, 1, 0);
            due("count(3)", book.count(3), 5);
            book.relate(CUTS, 1, 4);
            due("count(3)", book.count(3), 5);
        });
    }

    private static void dueCounts(TrenchBook book, int... counts) {
        for (int what = 0; what <= 8; what++) {
            due("count(" + what + ")", book.count(what), counts[what]);
        }
    }

    private static void countDoubt() {
        edge("6 a body whose bounds are equal is not in doubt", () -> {
            TrenchBook book = withFinds(0);
            book.date(0, -5000, 100);
            book.addFind(0, 0, 100, 100);
            due("count(6)", book.count(6), 0);
        });
        edge("6 a body whose lower bound is greater by 1 is in doubt", () -> {
            TrenchBook book = withFinds(0);
            book.date(0, -5000, 100);
            book.addFind(0, 0, 101, 101);
            due("count(6)", book.count(6), 1);
        });
        edge("6 a body in doubt is counted once, for all its units", () -> {
            TrenchBook book = oneBody(40);
            book.date(39, 1, 1);
            book.date(0, 0, 0);
            due("count(6)", book.count(6), 1);
        });
        edge("6 40 bodies in doubt", () -> {
            TrenchBook book = chain(40);
            book.date(39, 2000, 2000);
            book.date(0, -5000, -5000);
            due("count(6)", book.count(6), 40);
        });
    }

    private static void countOutOfPhase() {
        edge("6 out of phase: a later one whose phase is less by 1", () -> {
            TrenchBook book = chain(2);
            book.setPhase(1, 1);
            due("count(8)", book.count(8), 1);
        });
        edge("6 not out of phase: a later one whose phase is equal", () -> {
            TrenchBook book = chain(2);
            book.setPhase(0, 20);
            book.setPhase(1, 20);
            due("count(8)", book.count(8), 0);
        });
        edge("6 not out of phase: a later one whose phase is greater", () -> {
            TrenchBook book = chain(2);
            book.setPhase(0, 1);
            due("count(8)", book.count(8), 0);
        });
        edge("6 out of phase: not by links alone", () -> {
            TrenchBook book = chain(40);
            book.setPhase(39, 1);
            due("count(8)", book.count(8), 39);
        });
        edge("6 not out of phase: units that are not in order", () -> {
            TrenchBook book = layers(2);
            book.setPhase(1, 20);
            due("count(8)", book.count(8), 0);
        });
        edge("6 each with itself or turned round is not counted", () -> {
            TrenchBook book = oneBody(2);
            due("count(8), equal", book.count(8), 0);
            book.setPhase(0, 1);
            due("count(8), the first one's is greater", book.count(8), 1);
            book.setPhase(1, 2);
            due("count(8), the second one's is greater", book.count(8), 1);
        });
        edge("6 the most pairs that there can be", () -> {
            TrenchBook book = chain(40);
            for (int unit = 0; unit < 40; unit++) {
                book.setPhase(unit, (unit + 1) / 2);
            }
            due("count(8)", book.count(8), 40 * 39 / 2 - 19);
        });
    }

    // ---- promise 7

    private static void unitArguments() {
        edge("7 a unit that is too small", () ->
            dueThrowFor(INDEX, Edges::rich, (book, unit) -> book.unit(unit, 0), -1, LEAST));
        edge("7 a unit that is too large", () -> {
            dueThrowFor(INDEX, Edges::rich, (book, unit) -> book.unit(unit, 9), 7, 39, 40, MOST);
            dueThrowFor(INDEX, Edges::full, (book, unit) -> book.unit(unit, 0), 40);
        });
        edge("7 no unit there yet", () ->
            dueThrowFor(INDEX, Edges::empty, (book, what) -> book.unit(0, what), 0, 1, 9));
        edge("7 a what that is too small", () ->
            dueThrowFor(INDEX, Edges::rich, (book, what) -> book.unit(0, what), -1, LEAST));
        edge("7 a what that is too large", () ->
            dueThrowFor(INDEX, Edges::rich, (book, what) -> book.unit(0, what), 10, MOST));
        edge("7 a unit and a what that are both bad", () ->
            dueThrow(INDEX, Edges::rich, book -> book.unit(7, 10)));
        edge("7 the first unit and the last one, the least what and the greatest one", () -> {
            dueKept(LAYER, Edges::rich, book -> book.unit(0, 0));
            dueKept(1, Edges::rich, book -> book.unit(0, 9));
            dueKept(LAYER, Edges::rich, book -> book.unit(6, 0));
            dueKept(1, Edges::rich, book -> book.unit(6, 9));
        });
    }

    private static void unitBodies() {
        edge("7 a unit that is like no other one is a body by itself", () -> {
            due("unit(39, 1)", layers(40).unit(39, 1), 39);
            due("unit(39, 2)", layers(40).unit(39, 2), 1);
        });
        edge("7 a body is called by its smallest unit", () -> {
            for (int unit = 0; unit < 40; unit++) {
                due("unit(" + unit + ", 1)", oneBody(40).unit(unit, 1), 0);
            }
            TrenchBook book = layers(40);
            book.relate(SAME, 39, 38);
            book.relate(SAME, 37, 39);
            due("unit(38, 1)", book.unit(38, 1), 37);
            due("unit(39, 1)", book.unit(39, 1), 37);
            due("unit(36, 1)", book.unit(36, 1), 36);
        });
        edge("7 the units of a body: 40 at most", () -> {
            due("unit(0, 2)", oneBody(40).unit(0, 2), 40);
            due("unit(39, 2)", oneBody(40).unit(39, 2), 40);
        });
        edge("7 two bodies become one, whatever is told of them", () -> {
            TrenchBook book = layers(4);
            book.relate(SAME, 0, 1);
            book.relate(SAME, 3, 2);
            book.relate(SAME, 3, 1);
            due("unit(2, 1)", book.unit(2, 1), 0);
            due("unit(2, 2)", book.unit(2, 2), 4);
        });
    }

    private static void unitMatrix() {
        edge("7 levels: 0 if there is no earlier or later one", () -> {
            dueUnit(layers(1), 0, 3, 0);
            dueUnit(layers(1), 0, 4, 0);
            dueUnit(chain(2), 1, 3, 0);
            dueUnit(chain(2), 0, 4, 0);
        });
        edge("7 levels: 1 more than the greatest of the others", () -> {
            TrenchBook book = layers(5);
            book.relate(OVER, 0, 1);
            book.relate(OVER, 1, 2);
            book.relate(OVER, 0, 3);
            book.relate(OVER, 4, 2);
            dueUnit(book, 0, 3, 2);
            dueUnit(book, 3, 3, 0);
            dueUnit(book, 3, 4, 1);
            dueUnit(book, 4, 3, 1);
            dueUnit(book, 2, 4, 2);
        });
        edge("7 levels: 39 at most", () -> {
            dueUnit(chain(40), 0, 3, 39);
            dueUnit(chain(40), 0, 4, 0);
            dueUnit(chain(40), 39, 3, 0);
            dueUnit(chain(40), 39, 4, 39);
        });
        edge("7 earlier and later bodies: none, and 39 at most", () -> {
            dueUnit(layers(40), 0, 5, 0);
            dueUnit(layers(40), 0, 6, 0);
            dueUnit(chain(40), 0, 5, 39);
            dueUnit(chain(40), 0, 6, 0);
            dueUnit(chain(40), 39, 5, 0);
            dueUnit(chain(40), 39, 6, 39);
        });
        edge("7 bodies are counted, not units", () -> {
            dueUnit(rich(), 6, 5, 2);
            dueUnit(rich(), 4, 6, 5);
        });
    }

    private static void unitRest() {
        edge("7 not dug at first, dug then", () -> {
            TrenchBook book = layers(40);
            dueUnit(book, 39, 7, 0);
            book.dig(39);
            dueUnit(book, 39, 7, 1);
            dueUnit(book, 38, 7, 0);
        });
        edge("7 a unit is dug, not its body", () -> {
            TrenchBook book = oneBody(40);
            book.dig(39);
            dueUnit(book, 39, 7, 1);
            dueUnit(book, 0, 7, 0);
            TrenchBook first = oneBody(40);
            first.dig(0);
            dueUnit(first, 0, 7, 1);
            dueUnit(first, 39, 7, 0);
        });
        edge("7 a phase of 0 at first, of 20 at most", () -> {
            TrenchBook book = layers(40);
            dueUnit(book, 39, 8, 0);
            book.setPhase(39, 20);
            dueUnit(book, 39, 8, 20);
            dueUnit(book, 38, 8, 0);
        });
        edge("7 no finds at first, 60 at most", () -> {
            dueUnit(withFinds(0), 0, 9, 0);
            dueUnit(withFinds(60), 0, 9, 60);
        });
        edge("7 finds in the unit, not in its body", () -> dueUnit(rich(), 4, 9, 0));
    }

    private static void dueUnit(TrenchBook book, int unit, int what, int want) {
        due("unit(" + unit + ", " + what + ")", book.unit(unit, what), want);
    }
}
