/** What the tests of boundary cases have in common: named tests, what is due, objects to begin with. */
abstract class Edges {
    static final Class<?> ARGUMENT = IllegalArgumentException.class;
    static final Class<?> INDEX = IndexOutOfBoundsException.class;
    static final Class<?> STATE = IllegalStateException.class;

    static final int LAYER = 0;
    static final int CUT = 1;
    static final int FILL = 2;
    static final int WALL = 3;

    static final int OVER = 0;
    static final int CUTS = 1;
    static final int FILLS = 2;
    static final int AGAINST = 3;
    static final int SAME = 4;

    static final int LEAST = Integer.MIN_VALUE;
    static final int MOST = Integer.MAX_VALUE;

    private static int tests = 0;
    private static int failed = 0;
    private static String sentence = "";
    private static boolean hasFailed;

    interface Test {
        void run();
    }

    interface Maker {
        TrenchBook make();
    }

    interface Call {
        long on(TrenchBook book);
    }

    interface CallWith {
        long on(TrenchBook book, int argument);
    }

    // ---- tests

    /** One test for one sentence of the document; whatever it throws fails this test alone. */
    static void edge(String named, Test test) {
        sentence = named;
        hasFailed = false;
        tests++;
        try {
            test.run();
        } catch (RuntimeException thrown) {
            tell("the test was ended by " + thrown);
        }
        if (hasFailed) {
            failed++;
        }
    }

    static void end() {
        System.out.println(failed == 0 ? "all " + tests + " tests hold" : failed + " of " + tests + " fail");
        System.exit(tests > 0 && failed == 0 ? 0 : 1);
    }

    private static void tell(String fault) {
        hasFailed = true;
        System.out.println(sentence + ": " + fault);
    }

    // ---- what is due

    static void due(String call, long got, long want) {
        if (got != want) {
            tell(call + " answered " + got + ", due is " + want);
        }
    }

    static void due(String call, boolean got, boolean want) {
        due(call, got ? 1 : 0, want ? 1 : 0);
    }

    static void dueDouble(String call, double got, double want) {
        if (Double.compare(got, want) != 0) {
            tell(call + " answered " + got + ", due is " + want);
        }
    }

    /** The call throws just this exception, and changes nothing. */
    static void dueThrow(Class<?> want, Maker maker, Call call) {
        TrenchBook book = maker.make();
        Class<?> got = thrownBy(book, call);
        if (got != want) {
            tell("threw " + got + ", due is " + want);
        }
        dueUnchanged(book, maker);
    }

    static void dueThrowFor(Class<?> want, Maker maker, CallWith call, int... arguments) {
        for (int argument : arguments) {
            dueThrow(want, maker, book -> call.on(book, argument));
        }
    }

    /** The call answers this, and changes nothing. */
    static void dueKept(int want, Maker maker, Call call) {
        TrenchBook book = maker.make();
        due("the call", call.on(book), want);
        dueUnchanged(book, maker);
    }

    private static Class<?> thrownBy(TrenchBook book, Call call) {
        try {
            call.on(book);
            return null;
        } catch (RuntimeException thrown) {
            return thrown.getClass();
        }
    }

    private static void dueUnchanged(TrenchBook book, Maker maker) {
        String got = wholeState(book);
        String want = wholeState(maker.make());
        if (!got.equals(want)) {
            tell("something is changed: " + got + ", due is " + want);
        }
    }

    /**
     * All that can be found out about an object. It is used up by this: without relations, and with
     * all finds in one unit, the bounds show each date that others hid.
     */
    private static String wholeState(TrenchBook book) {
        StringBuilder text = new StringBuilder();
        int units = book.count(0);
        int finds = book.count(4);
        text.append(book.digest()).append(' ').append(book.meanHeight());
        text.append(' ').append(book.outOfPhase(false)).append(' ').append(book.outOfPhase(true));
        for (int relation = book.count(1) - 1; relation >= 0; relation--) {
            book.takeBack(relation);
        }
        for (int gathering = 0; gathering < Math.min(2, units); gathering++) {
            for (int find = 0; find < finds; find++) {
                book.move(find, gathering);
            }
            text.append(' ').append(book.digest());
        }
        for (int unit = 0; unit < units; unit++) {
            text.append(' ').append(book.date(unit, 1, 0));
        }
        text.append(' ').append(book.digest());
        return text.toString();
    }

    // ---- objects to begin with

    static TrenchBook empty() {
        return new TrenchBook();
    }

    static TrenchBook bookOf(int... sorts) {
        TrenchBook book = new TrenchBook();
        for (int sort : sorts) {
            book.addUnit(sort);
        }
        return book;
    }

    static TrenchBook layers(int units) {
        return bookOf(new int[units]);
    }

    /** Layers, each one over the next one. */
    static TrenchBook chain(int units) {
        TrenchBook book = layers(units);
        for (int unit = 1; unit < units; unit++) {
            book.relate(OVER, unit - 1, unit);
        }
        return book;
    }

    /** Layers that are all the same. */
    static TrenchBook oneBody(int units) {
        TrenchBook book = layers(units);
        for (int unit = 1; unit < units; unit++) {
            book.relate(SAME, unit - 1, unit);
        }
        return book;
    }

    /** Twenty layers, and as many relations of kind 0 between them; 18 over 19 is not among them. */
    static TrenchBook related(int relations) {
        TrenchBook book = layers(20);
        int told = 0;
        for (int a = 0; a < 20; a++) {
            for (int b = a + 1; b < 20 && told < relations; b++) {
                book.relate(OVER, a, b);
                told++;
            }
        }
        return book;
    }

    /** One layer with as many finds, all of sort 0 and of the years 0 to 10. */
    static TrenchBook withFinds(int finds) {
        TrenchBook book = layers(1);
        for (int find = 0; find < finds; find++) {
            book.addFind(0, 0, 0, 10);
        }
        return book;
    }

    /** Seven units of all sorts, six relations, three finds, three dates; something dug and in phases. */
    static TrenchBook rich() {
        TrenchBook book = bookOf(LAYER, CUT, FILL, WALL, LAYER, CUT, LAYER);
        book.relate(CUTS, 1, 0);
        book.relate(FILLS, 2, 1);
        book.relate(AGAINST, 3, 2);
        book.relate(SAME, 4, 0);
        book.relate(OVER, 5, 4);
        book.relate(OVER, 6, 5);
        book.addFind(2, 3, 100, 200);
        book.addFind(0, 5, -50, 50);
        book.addFind(6, 9, 1000, 1500);
        book.place(0, 10, 20, 30);
        book.place(1, 5000, 0, -1000);
        book.date(0, -100, 300);
        book.date(3, 150, 400);
        book.date(6, -5000, 2000);
        book.dig(3);
        book.dig(6);
        book.setPhase(1, 4);
        book.setPhase(3, 2);
        book.setPhase(0, 20);
        return book;
    }

    /** 40 units, 80 relations, 60 finds. */
    static TrenchBook full() {
        TrenchBook book = chain(40);
        for (int unit = 0; unit < 38; unit++) {
            book.relate(OVER, unit, unit + 2);
        }
        for (int unit = 0; unit < 3; unit++) {
            book.relate(OVER, unit, unit + 3);
        }
        for (int find = 0; find < 60; find++) {
            book.addFind(find % 40, find % 10, find - 5000, find);
        }
        book.place(59, 1, 2, 60);
        book.date(0, -7, 7);
        book.dig(0);
        book.setPhase(39, 20);
        return book;
    }
}
