import java.math.BigInteger;

/** The boundary cases of promises 21 to 27 (digging and phases), a test for each of their sentences. */
public final class DigEdgesTest extends Edges {
    private static final BigInteger WHOLE = BigInteger.ONE.shiftLeft(64);

    public static void main(String[] args) {
        digArguments();
        digRefused();
        dig();
        next();
        setPhase();
        phaseAll();
        outOfPhaseNone();
        outOfPhaseFirst();
        meanHeight();
        digestParts();
        digestWraps();
        limits();
        end();
    }

    // ---- promise 21

    private static void digArguments() {
        edge("21 a unit that is too small", () ->
            dueThrowFor(INDEX, Edges::rich, TrenchBook::dig, -1, LEAST));
        edge("21 a unit that is too large", () -> {
            dueThrowFor(INDEX, Edges::rich, TrenchBook::dig, 7, 39, 40, MOST);
            dueThrowFor(INDEX, Edges::full, TrenchBook::dig, 40);
        });
        edge("21 no unit there yet", () -> dueThrow(INDEX, Edges::empty, book -> book.dig(0)));
        edge("21 the first unit and the last one", () -> {
            TrenchBook book = layers(40);
            due("dig(0)", book.dig(0), 39);
            due("dig(39)", book.dig(39), 38);
            due("unit(0, 7)", book.unit(0, 7), 1);
            due("unit(39, 7)", book.unit(39, 7), 1);
            due("unit(1, 7)", book.unit(1, 7), 0);
        });
    }

    private static void digRefused() {
        edge("21 cannot be dug: it is", () -> {
            dueThrow(STATE, Edges::rich, book -> book.dig(6));
            dueThrow(STATE, Edges::full, book -> book.dig(0));
        });
        edge("21 cannot be dug: a directly later one is not", () -> {
            dueThrow(STATE, Edges::rich, book -> book.dig(1));
            dueThrow(STATE, Edges::full, book -> book.dig(2));
        });
        edge("21 cannot be dug: a later one is not, however far", () ->
            dueThrow(STATE, () -> chain(40), book -> book.dig(39)));
        edge("21 cannot be dug: one unit of a later body is not", () ->
            dueThrow(STATE, () -> {
                TrenchBook book = layers(40);
                for (int unit = 1; unit < 39; unit++) {
                    book.relate(SAME, unit, unit + 1);
                }
                book.relate(OVER, 20, 0);
                for (int unit = 1; unit < 39; unit++) {
                    book.dig(unit);
                }
                return book;
            }, book -> book.dig(0)));
        edge("21 cannot be dug: that of its body is covered", () -> {
            dueThrow(STATE, () -> {
                TrenchBook book = layers(3);
                book.relate(SAME, 1, 2);
                book.relate(OVER, 0, 1);
                return book;
            }, book -> book.dig(2));
        });
        edge("21 cannot be dug: a relation told since covers it", () ->
            dueThrow(STATE, () -> {
                TrenchBook book = rich();
                book.relate(OVER, 4, book.addUnit(LAYER));
                return book;
            }, book -> book.dig(7)));
    }

    private static void dig() {
        edge("21 can be dug: with no later one", () -> due("dig(0)", layers(1).dig(0), 0));
        edge("21 can be dug: with all later ones dug", () -> {
            TrenchBook book = chain(40);
            for (int unit = 0; unit < 40; unit++) {
                due("dig(" + unit + ")", book.dig(unit), unit < 39 ? 1 : 0);
            }
            due("count(5)", book.count(5), 40);
        });
        edge("21 can be dug: another unit of its body is not dug", () -> {
            TrenchBook book = oneBody(40);
            due("dig(39)", book.dig(39), 39);
            due("dig(0)", book.dig(0), 38);
        });
        edge("21 can be dug: an earlier one is not dug, or is", () -> {
            TrenchBook book = layers(2);
            book.dig(1);
            book.relate(OVER, 0, 1);
            due("dig(0)", book.dig(0), 0);
        });
        edge("21 can be dug: what covered it is taken back", () -> {
            TrenchBook book = chain(2);
            book.takeBack(0);
            due("dig(1)", book.dig(1), 1);
        });
        edge("21 how many can be dug then: those that it laid bare, too", () -> {
            TrenchBook book = layers(40);
            for (int unit = 1; unit < 40; unit++) {
                book.relate(OVER, 0, unit);
            }
            due("dig(0)", book.dig(0), 39);
        });
    }

    // ---- promise 22

    private static void next() {
        edge("22 an index that is too small", () -> {
            dueThrowFor(INDEX, Edges::rich, TrenchBook::next, -1, LEAST);
            dueThrow(INDEX, Edges::empty, book -> book.next(-1));
        });
        edge("22 an index that is too large", () -> {
            dueThrowFor(INDEX, Edges::rich, TrenchBook::next, 40, MOST);
            dueThrow(INDEX, Edges::empty, book -> book.next(40));
            dueThrow(INDEX, () -> layers(40), book -> book.next(40));
        });
        edge("22 the least index and the greatest one", () -> {
            dueKept(0, () -> layers(40), book -> book.next(0));
            dueKept(39, () -> layers(40), book -> book.next(39));
            dueKept(-1, Edges::rich, book -> book.next(39));
        });
        edge("22 -1 with no unit there yet", () -> dueNext(empty()));
        edge("22 -1 if all are dug", () -> {
            TrenchBook book = layers(1);
            book.dig(0);
            dueNext(book);
        });
        edge("22 in ascending order, -1 if there are not so many", () -> {
            dueNext(rich(), 2, 5);
            dueNext(chain(40), 0);
            dueNext(full(), 1);
        });
        edge("22 units are told, not bodies", () -> dueNext(oneBody(4), 0, 1, 2, 3));
    }

    private static void dueNext(TrenchBook book, int... units) {
        for (int index = 0; index < 40; index++) {
            due("next(" + index + ")", book.next(index), index < units.length ? units[index] : -1);
        }
    }

    // ---- promise 23

    private static void setPhase() {
        edge("23 a unit that is too small", () ->
            dueThrowFor(INDEX, Edges::rich, (book, unit) -> book.setPhase(unit, 1), -1, LEAST));
        edge("23 a unit that is too large", () -> {
            dueThrowFor(INDEX, Edges::rich, (book, unit) -> book.setPhase(unit, 1), 7, 39, 40, MOST);
            dueThrowFor(INDEX, Edges::full, (book, unit) -> book.setPhase(unit, 1), 40);
        });
        edge("23 no unit there yet", () -> dueThrow(INDEX, Edges::empty, book -> book.setPhase(0, 0)));
        edge("23 a phase that is too small", () ->
            dueThrowFor(ARGUMENT, Edges::rich, (book, phase) -> book.setPhase(0, phase), -1, LEAST));
        edge("23 a phase that is too large", () ->
            dueThrowFor(ARGUMENT, Edges::rich, (book, phase) -> book.setPhase(0, phase), 21, MOST));
        edge("23 a bad unit is told before a bad phase", () -> {
            dueThrow(INDEX, Edges::rich, book -> book.setPhase(7, 21));
            dueThrow(INDEX, Edges::rich, book -> book.setPhase(-1, -1));
            dueThrow(INDEX, Edges::empty, book -> book.setPhase(0, 21));
        });
        edge("23 the least phase and the greatest one; the phase before", () -> {
            TrenchBook book = layers(1);
            due("setPhase(0, 20)", book.setPhase(0, 20), 0);
            due("unit(0, 8)", book.unit(0, 8), 20);
            due("setPhase(0, 0)", book.setPhase(0, 0), 20);
            due("unit(0, 8)", book.unit(0, 8), 0);
            due("setPhase(0, 0)", book.setPhase(0, 0), 0);
        });
        edge("23 the first unit and the last one, and no other", () -> {
            TrenchBook book = oneBody(40);
            due("setPhase(0, 1)", book.setPhase(0, 1), 0);
            due("setPhase(39, 2)", book.setPhase(39, 2), 0);
            due("unit(0, 8)", book.unit(0, 8), 1);
            due("unit(1, 8)", book.unit(1, 8), 0);
            due("unit(38, 8)", book.unit(38, 8), 0);
            due("unit(39, 8)", book.unit(39, 8), 2);
        });
    }

    // ---- promise 24

    private static void phaseAll() {
        edge("24 no unit there yet", () -> dueKept(0, Edges::empty, TrenchBook::phaseAll));
        edge("24 no phase is another one then", () -> {
            dueKept(0, () -> layers(40), TrenchBook::phaseAll);
            dueKept(0, () -> {
                TrenchBook book = chain(40);
                book.phaseAll();
                return book;
            }, TrenchBook::phaseAll);
        });
        edge("24 the level, but at most 20", () -> {
            TrenchBook book = chain(40);
            due("phaseAll()", book.phaseAll(), 39);
            for (int unit = 0; unit < 40; unit++) {
                due("unit(" + unit + ", 8)", book.unit(unit, 8), Math.min(20, 39 - unit));
            }
        });
        edge("24 a phase of 20 on a level of 20 or more is not another one", () -> {
            TrenchBook book = chain(40);
            book.setPhase(0, 20);
            book.setPhase(19, 20);
            book.setPhase(20, 20);
            due("phaseAll()", book.phaseAll(), 37);
        });
        edge("24 all 40 are others", () -> {
            TrenchBook book = layers(40);
            for (int unit = 0; unit < 40; unit++) {
                book.setPhase(unit, 1 + unit % 20);
            }
            due("phaseAll()", book.phaseAll(), 40);
            due("digest()", book.digest(), layers(40).digest());
        });
        edge("24 units are counted, not bodies, and levels are from below", () -> {
            TrenchBook book = rich();
            due("phaseAll()", book.phaseAll(), 6);
            int[] phases = {0, 1, 2, 3, 0, 1, 2};
            for (int unit = 0; unit < 7; unit++) {
                due("unit(" + unit + ", 8)", book.unit(unit, 8), phases[unit]);
            }
        });
    }

    // ---- promise 25

    private static void outOfPhaseNone() {
        edge("25 -1 with no unit there yet", () -> duePair(empty(), -1, -1));
        edge("25 -1 if there is none", () -> {
            duePair(layers(1), -1, -1);
            duePair(chain(40), -1, -1);
            duePair(oneBody(40), -1, -1);
        });
        edge("25 -1 if the later one's phase is equal", () -> {
            TrenchBook book = chain(2);
            book.setPhase(0, 20);
            book.setPhase(1, 20);
            duePair(book, -1, -1);
        });
        edge("25 the later one's phase is less by 1", () -> {
            TrenchBook book = chain(2);
            book.setPhase(0, 19);
            book.setPhase(1, 20);
            duePair(book, 0, 1);
        });
        edge("25 -1 if the later one's phase is greater", () -> {
            TrenchBook book = chain(2);
            book.setPhase(0, 1);
            duePair(book, -1, -1);
        });
        edge("25 -1 if neither is later", () -> {
            TrenchBook book = layers(2);
            book.setPhase(0, 20);
            duePair(book, -1, -1);
        });
    }

    private static void outOfPhaseFirst() {
        edge("25 of the same body: the smaller one first, whichever phase is less", () -> {
            TrenchBook book = oneBody(40);
            book.setPhase(39, 1);
            duePair(book, 0, 39);
            book.setPhase(39, 0);
            book.setPhase(0, 1);
            duePair(book, 0, 1);
        });
        edge("25 the first one by the first unit", () -> {
            TrenchBook book = layers(4);
            book.relate(OVER, 3, 0);
            book.relate(OVER, 2, 1);
            book.setPhase(0, 1);
            book.setPhase(1, 1);
            duePair(book, 2, 1);
        });
        edge("25 then by the second one", () -> {
            TrenchBook book = layers(4);
            book.relate(OVER, 3, 2);
            book.relate(OVER, 3, 1);
            book.setPhase(2, 20);
            book.setPhase(1, 1);
            duePair(book, 3, 1);
            book.setPhase(1, 0);
            duePair(book, 3, 2);
        });
        edge("25 the first one is the later one, though it is the greater", () -> {
            TrenchBook book = layers(40);
            book.relate(OVER, 39, 0);
            book.setPhase(0, 1);
            duePair(book, 39, 0);
        });
        edge("25 later by way of others", () -> {
            TrenchBook book = chain(40);
            book.setPhase(0, 4);
            for (int unit = 1; unit < 39; unit++) {
                book.setPhase(unit, 5);
            }
            book.setPhase(39, 5);
            duePair(book, 0, 1);
            for (int unit = 1; unit < 39; unit++) {
                book.setPhase(unit, 4);
            }
            book.setPhase(0, 3);
            book.setPhase(1, 3);
            duePair(book, 0, 2);
        });
        edge("25 units are told, not bodies", () -> {
            TrenchBook book = layers(4);
            book.relate(SAME, 0, 3);
            book.relate(SAME, 1, 2);
            book.relate(OVER, 0, 1);
            book.setPhase(0, 20);
            book.setPhase(3, 20);
            book.setPhase(1, 20);
            book.setPhase(2, 20);
            duePair(book, -1, -1);
            book.setPhase(3, 19);
            duePair(book, 0, 3);
            book.setPhase(0, 19);
            duePair(book, 0, 1);
        });
        edge("25 tells only", () -> {
            dueKept(0, Edges::rich, book -> book.outOfPhase(false));
            dueKept(4, Edges::rich, book -> book.outOfPhase(true));
        });
    }

    private static void duePair(TrenchBook book, int first, int second) {
        due("outOfPhase(false)", book.outOfPhase(false), first);
        due("outOfPhase(true)", book.outOfPhase(true), second);
    }

    // ---- promise 26

    private static void meanHeight() {
        edge("26 0 if there are none", () -> {
            dueDouble("meanHeight()", empty().meanHeight(), 0.0);
            dueDouble("meanHeight()", layers(40).meanHeight(), 0.0);
        });
        edge("26 the least height and the greatest one", () -> {
            TrenchBook book = withFinds(1);
            book.place(0, 0, 0, -1000);
            dueDouble("meanHeight()", book.meanHeight(), -1000.0);
            book.place(0, 0, 0, 1000);
            dueDouble("meanHeight()", book.meanHeight(), 1000.0);
        });
        edge("26 60 finds", () -> {
            TrenchBook book = withFinds(60);
            book.place(59, 0, 0, 1);
            dueDouble("meanHeight() of one 1", book.meanHeight(), 1.0 / 60);
            book.place(0, 0, 0, -2);
            dueDouble("meanHeight() of a -2 too", book.meanHeight(), -1.0 / 60);
        });
        edge("26 it is no whole number", () -> {
            TrenchBook book = withFinds(2);
            book.place(0, 0, 0, 1000);
            book.place(1, 0, 0, 999);
            dueDouble("meanHeight()", book.meanHeight(), 999.5);
            book.place(0, 0, 0, -1);
            book.place(1, 0, 0, 0);
            dueDouble("meanHeight()", book.meanHeight(), -0.5);
        });
        edge("26 heights that make 0", () -> {
            TrenchBook book = withFinds(2);
            book.place(0, 0, 0, 1000);
            book.place(1, 0, 0, -1000);
            dueDouble("meanHeight()", book.meanHeight(), 0.0);
        });
    }

    // ---- promise 27

    private static void digestParts() {
        edge("27 without units, relations and finds: 431 and nine zeros", () ->
            due("digest()", empty().digest(), 431L * 31 * 31 * 31 * 31 * 31 * 31 * 31 * 31 * 31));
        edge("27 with units alone", () -> dueDigest(() -> layers(1)));
        edge("27 with units and relations", () -> dueDigest(() -> chain(3)));
        edge("27 with units and finds", () -> dueDigest(() -> withFinds(3)));
        edge("27 with all", () -> dueDigest(Edges::rich));
        edge("27 with 40 units, 80 relations and 60 finds", () -> dueDigest(Edges::full));
        edge("27 tells only", () -> {
            TrenchBook book = rich();
            due("digest() twice", book.digest(), book.digest());
            dueKept(0, Edges::rich, same -> same.digest() * 0);
        });
        edge("27 each number told counts", () -> {
            dueOther(book -> book.setPhase(6, 1));
            dueOther(book -> book.date(6, -4999, 1999));
            dueOther(book -> book.place(2, 1, 0, 0));
            dueOther(book -> book.place(2, 0, 1, 0));
            dueOther(book -> book.place(2, 0, 0, 1));
            dueOther(book -> book.move(2, 3));
            dueOther(book -> book.dig(5));
            dueOther(book -> book.takeBack(5));
        });
    }

    private static void dueOther(Call change) {
        TrenchBook book = rich();
        change.on(book);
        due("digest() is as before the change", book.digest() == rich().digest(), false);
    }

    private static void digestWraps() {
        edge("27 wraps around to a negative number", () -> {
            TrenchBook book = negative();
            due("digest() is negative", book.digest() < 0, true);
            dueDigest(DigEdgesTest::negative);
        });
        edge("27 wraps around to a positive number", () -> {
            TrenchBook book = positive();
            due("digest() is positive", book.digest() > 0, true);
            dueDigest(DigEdgesTest::positive);
        });
        edge("27 with a unit it is beyond 64 bits already", () ->
            due("the sum is beyond", folded(() -> layers(1)).bitLength() > 64, true));
        edge("27 negative numbers are added with their sign", () -> dueDigest(() -> {
            TrenchBook book = withFinds(1);
            book.addFind(0, 0, -5000, -1);
            book.place(1, 0, 0, -1000);
            book.date(0, -5000, -4999);
            return book;
        }));
    }

    private static TrenchBook negative() {
        return withSign(true);
    }

    private static TrenchBook positive() {
        return withSign(false);
    }

    /** The fewest layers whose wrapped sum has this sign. */
    private static TrenchBook withSign(boolean isNegative) {
        for (int units = 1; units < 40; units++) {
            int each = units;
            if (wrapped(folded(() -> layers(each))) < 0 == isNegative) {
                return layers(units);
            }
        }
        throw new IllegalStateException("no object has such a digest");
    }

    private static void dueDigest(Maker maker) {
        due("digest()", maker.make().digest(), wrapped(folded(maker)));
    }

    private static long wrapped(BigInteger sum) {
        BigInteger rest = sum.mod(WHOLE);
        return (rest.testBit(63) ? rest.subtract(WHOLE) : rest).longValueExact();
    }

    /** The checksum as a number without bounds, from what the calls tell of objects of this kind. */
    private static BigInteger folded(Maker maker) {
        BigInteger sum = BigInteger.valueOf(431);
        TrenchBook book = maker.make();
        int units = book.count(0);
        int relations = book.count(1);
        int finds = book.count(4);
        for (int what = 0; what <= 8; what++) {
            sum = with(sum, book.count(what));
        }
        for (int unit = 0; unit < units; unit++) {
            // an object is good for 512 calls, which a full one needs before all is told
            book = maker.make();
            for (int what = 0; what <= 9; what++) {
                sum = with(sum, book.unit(unit, what));
            }
            sum = with(with(sum, book.bound(unit, false)), book.bound(unit, true));
        }
        book = maker.make();
        for (int relation = 0; relation < relations; relation++) {
            for (int what = 0; what <= 2; what++) {
                sum = with(sum, book.relation(relation, what));
            }
        }
        for (int find = 0; find < finds; find++) {
            book = maker.make();
            for (int what = 0; what <= 7; what++) {
                sum = with(sum, book.find(find, what));
            }
        }
        return sum;
    }

    private static BigInteger with(BigInteger sum, int number) {
        return sum.multiply(BigInteger.valueOf(31)).add(BigInteger.valueOf(number));
    }

    // ---- What it is, and terms

    private static void limits() {
        edge("an object answers 512 calls", () -> {
            TrenchBook book = full();
            long due = full().digest();
            for (int call = 0; call < 300; call++) {
                due("digest()", book.digest(), due);
            }
            due("count(0)", book.count(0), 40);
        });
        edge("a full object takes no more of anything, and keeps what it has", () -> {
            dueThrow(STATE, Edges::full, book -> book.addUnit(0));
            dueThrow(STATE, Edges::full, book -> book.relate(OVER, 3, 6));
            dueThrow(STATE, Edges::full, book -> book.addFind(0, 0, 0, 0));
        });
    }
}
