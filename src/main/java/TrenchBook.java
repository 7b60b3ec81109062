/**
 * A recorder for excavations: units of the ground and their relations, the matrix that follows from
 * them, finds and dates, digging and phases.
 *
 * Sets of units or bodies are held as the bits of a long, since there are at most 40 of them. All
 * rows are made once, in the constructors, and used again, so that no call makes objects.
 */
public final class TrenchBook {
    private static final int MOST_UNITS = 40;
    private static final int MOST_RELATIONS = 80;
    private static final int MOST_FINDS = 60;

    private static final int CUT = 1;
    private static final int FILL = 2;
    private static final int WALL = 3;

    private static final int OVER = 0;
    private static final int CUTS = 1;
    private static final int FILLS = 2;
    private static final int AGAINST = 3;
    private static final int SAME = 4;

    private static final int FIRST_YEAR = -5000;
    private static final int LAST_YEAR = 2000;
    private static final int FARTHEST = 5000;
    private static final int HIGHEST = 1000;
    private static final int LAST_FIND_SORT = 9;
    private static final int LAST_PHASE = 20;

    private static final int COUNTS = 9;
    private static final int UNIT_FACTS = 10;
    private static final int RELATION_FACTS = 3;
    private static final int FIND_FACTS = 8;

    private final Units units;
    private final Relations relations;
    private final Matrix matrix;
    private final Finds finds;
    private final Bounds bounds;

    public TrenchBook() {
        units = new Units();
        relations = new Relations();
        matrix = new Matrix();
        finds = new Finds();
        bounds = new Bounds();
    }

    // ---- units and relations

    public int addUnit(int sort) throws IllegalArgumentException, IllegalStateException {
        if (!isWithin(sort, 0, WALL)) {
            throw new IllegalArgumentException("a unit's sort is 0 to 3");
        }
        if (units.size >= MOST_UNITS) {
            throw new IllegalStateException("there are 40 units");
        }
        int added = units.append(sort);
        renewMatrix();
        return added;
    }

    public int relate(int kind, int a, int b)
            throws IllegalArgumentException, IndexOutOfBoundsException, IllegalStateException {
        if (!isWithin(kind, OVER, SAME)) {
            throw new IllegalArgumentException("a relation's kind is 0 to 4");
        }
        requireUnit(a);
        requireUnit(b);
        if (relations.size >= MOST_RELATIONS) {
            throw new IllegalStateException("there are 80 relations");
        }
        int refusal = whyRefused(kind, a, b);
        if (refusal == 0) {
            relations.append(kind, a, b);
            renewMatrix();
        }
        return refusal;
    }

    public int takeBack(int relation) throws IndexOutOfBoundsException {
        requireRelation(relation);
        relations.remove(relation);
        renewMatrix();
        return relations.size;
    }

    public int relation(int relation, int what) throws IndexOutOfBoundsException {
        requireRelation(relation);
        requireFact(what, RELATION_FACTS);
        switch (what) {
            case 0: return relations.kinds[relation];
            case 1: return relations.laters[relation];
            default: return relations.earliers[relation];
        }
    }

    public int count(int what) throws IndexOutOfBoundsException {
        requireFact(what, COUNTS);
        switch (what) {
            case 0: return units.size;
            case 1: return relations.size;
            case 2: return Long.bitCount(matrix.bodies);
            case 3: return matrix.linkCount();
            case 4: return finds.size;
            case 5: return Long.bitCount(units.dug);
            case 6: return Long.bitCount(bodiesInDoubt());
            case 7: return matrix.levelCount();
            default: return pairsOutOfPhase();
        }
    }

    public int unit(int unit, int what) throws IndexOutOfBoundsException {
        requireUnit(unit);
        requireFact(what, UNIT_FACTS);
        int body = matrix.bodyOf[unit];
        switch (what) {
            case 0: return units.sorts[unit];
            case 1: return body;
            case 2: return Long.bitCount(matrix.members[body]);
            case 3: return matrix.fromBelow[body];
            case 4: return matrix.fromAbove[body];
            case 5: return Long.bitCount(matrix.earlier[body]);
            case 6: return Long.bitCount(matrix.later[body]);
            case 7: return has(units.dug, unit) ? 1 : 0;
            case 8: return units.phases[unit];
            default: return finds.countIn(unit);
        }
    }

    // ---- the matrix

    public int order(int a, int b) throws IndexOutOfBoundsException {
        requireUnit(a);
        requireUnit(b);
        if (matrix.isSameBody(a, b)) {
            return 0;
        }
        if (matrix.isLater(a, b)) {
            return 1;
        }
        return matrix.isLater(b, a) ? -1 : 2;
    }

    public boolean isLinked(int a, int b) throws IndexOutOfBoundsException {
        requireUnit(a);
        requireUnit(b);
        return has(matrix.links[matrix.bodyOf[a]], matrix.bodyOf[b]);
    }

    public int row(int level, boolean isBelow, int index) throws IndexOutOfBoundsException {
        requirePlace(level);
        requirePlace(index);
        return elementAt(matrix.bodiesOnLevel(level, isBelow), index);
    }

    public int way(int a, int b, int index) throws IndexOutOfBoundsException, IllegalArgumentException {
        requireUnit(a);
        requireUnit(b);
        if (!isWithin(index, 0, MOST_UNITS - 1)) {
            throw new IllegalArgumentException("a place on the way is 0 to 39");
        }
        return matrix.bodyOnWay(matrix.bodyOf[a], matrix.bodyOf[b], index);
    }

    public int between(int a, int b) throws IndexOutOfBoundsException {
        requireUnit(a);
        requireUnit(b);
        return Long.bitCount(matrix.earlier[matrix.bodyOf[a]] & matrix.later[matrix.bodyOf[b]]);
    }

    // ---- finds and dates

    public int addFind(int unit, int sort, int first, int last)
            throws IndexOutOfBoundsException, IllegalArgumentException, IllegalStateException {
        requireUnit(unit);
        if (!isWithin(sort, 0, LAST_FIND_SORT)) {
            throw new IllegalArgumentException("a find's sort is 0 to 9");
        }
        requireYears(first, last);
        if (first > last) {
            throw new IllegalArgumentException("a find's first year is not greater than its last one");
        }
        if (finds.size >= MOST_FINDS) {
            throw new IllegalStateException("there are 60 finds");
        }
        int added = finds.append(unit, sort, first, last);
        renewBounds();
        return added;
    }

    public int place(int find, int x, int y, int z)
            throws IndexOutOfBoundsException, IllegalArgumentException {
        requireFind(find);
        requirePoint(x, y, z);
        int before = finds.zs[find];
        finds.xs[find] = x;
        finds.ys[find] = y;
        finds.zs[find] = z;
        return before;
    }

    public int move(int find, int unit) throws IndexOutOfBoundsException {
        requireFind(find);
        requireUnit(unit);
        int before = finds.units[find];
        finds.units[find] = unit;
        renewBounds();
        return before;
    }

    public int find(int find, int what) throws IndexOutOfBoundsException {
        requireFind(find);
        requireFact(what, FIND_FACTS);
        switch (what) {
            case 0: return finds.units[find];
            case 1: return finds.sorts[find];
            case 2: return finds.firsts[find];
            case 3: return finds.lasts[find];
            case 4: return finds.xs[find];
            case 5: return finds.ys[find];
            case 6: return finds.zs[find];
            default: return misfit(find);
        }
    }

    public int date(int unit, int first, int last)
            throws IndexOutOfBoundsException, IllegalArgumentException {
        requireUnit(unit);
        requireYears(first, last);
        int before = has(units.dated, unit) ? 1 : 0;
        units.setDate(unit, first, last);
        renewBounds();
        return before;
    }

    public int bound(int unit, boolean isUpper) throws IndexOutOfBoundsException {
        requireUnit(unit);
        int body = matrix.bodyOf[unit];
        return isUpper ? bounds.upper[body] : bounds.lower[body];
    }

    public int doubt(int index) throws IndexOutOfBoundsException {
        requirePlace(index);
        return elementAt(bodiesInDoubt(), index);
    }

    public int nearest(int x, int y, int z, int sort) throws IllegalArgumentException {
        requirePoint(x, y, z);
        if (!isWithin(sort, -1, LAST_FIND_SORT)) {
            throw new IllegalArgumentException("the sort looked for is -1 to 9");
        }
        return finds.closest(x, y, z, sort);
    }

    // ---- digging and phases

    public int dig(int unit) throws IndexOutOfBoundsException, IllegalStateException {
        requireUnit(unit);
        if (!canBeDug(unit)) {
            throw new IllegalStateException("this unit cannot be dug now");
        }
        units.dug |= bit(unit);
        return Long.bitCount(unitsToDig());
    }

    public int next(int index) throws IndexOutOfBoundsException {
        requirePlace(index);
        return elementAt(unitsToDig(), index);
    }

    public int setPhase(int unit, int phase) throws IndexOutOfBoundsException, IllegalArgumentException {
        requireUnit(unit);
        if (!isWithin(phase, 0, LAST_PHASE)) {
            throw new IllegalArgumentException("a phase is 0 to 20");
        }
        int before = units.phases[unit];
        units.phases[unit] = phase;
        return before;
    }

    public int phaseAll() {
        int changed = 0;
        for (int unit = 0; unit < units.size; unit++) {
            int phase = Math.min(LAST_PHASE, matrix.fromBelow[matrix.bodyOf[unit]]);
            if (units.phases[unit] != phase) {
                units.phases[unit] = phase;
                changed++;
            }
        }
        return changed;
    }

    public int outOfPhase(boolean isSecond) {
        for (int first = 0; first < units.size; first++) {
            for (int second = 0; second < units.size; second++) {
                if (isPairOutOfPhase(first, second)) {
                    return isSecond ? second : first;
                }
            }
        }
        return -1;
    }

    public double meanHeight() {
        if (finds.size <= 0) {
            return 0;
        }
        int sum = 0;
        for (int find = 0; find < finds.size; find++) {
            sum += finds.zs[find];
        }
        return (double) sum / finds.size;
    }

    public long digest() {
        long sum = 431;
        for (int what = 0; what < COUNTS; what++) {
            sum = sum * 31 + count(what);
        }
        for (int unit = 0; unit < units.size; unit++) {
            for (int what = 0; what < UNIT_FACTS; what++) {
                sum = sum * 31 + unit(unit, what);
            }
            sum = sum * 31 + bound(unit, false);
            sum = sum * 31 + bound(unit, true);
        }
        for (int relation = 0; relation < relations.size; relation++) {
            for (int what = 0; what < RELATION_FACTS; what++) {
                sum = sum * 31 + relation(relation, what);
            }
        }
        for (int find = 0; find < finds.size; find++) {
            for (int what = 0; what < FIND_FACTS; what++) {
                sum = sum * 31 + find(find, what);
            }
        }
        return sum;
    }

    // ---- what arguments have to be

    private void requireUnit(int unit) {
        if (!isWithin(unit, 0, units.size - 1)) {
            throw new IndexOutOfBoundsException("there is no such unit");
        }
    }

    private void requireRelation(int relation) {
        if (!isWithin(relation, 0, relations.size - 1)) {
            throw new IndexOutOfBoundsException("there is no such relation");
        }
    }

    private void requireFind(int find) {
        if (!isWithin(find, 0, finds.size - 1)) {
            throw new IndexOutOfBoundsException("there is no such find");
        }
    }

    private static void requireFact(int what, int facts) {
        if (!isWithin(what, 0, facts - 1)) {
            throw new IndexOutOfBoundsException("nothing is told under this number");
        }
    }

    private static void requirePlace(int index) {
        if (!isWithin(index, 0, MOST_UNITS - 1)) {
            throw new IndexOutOfBoundsException("a level or an index is 0 to 39");
        }
    }

    private static void requireYears(int first, int last) {
        if (!isWithin(first, FIRST_YEAR, LAST_YEAR) || !isWithin(last, FIRST_YEAR, LAST_YEAR)) {
            throw new IllegalArgumentException("a year is -5000 to 2000");
        }
    }

    private static void requirePoint(int x, int y, int z) {
        if (!isWithin(x, 0, FARTHEST) || !isWithin(y, 0, FARTHEST)) {
            throw new IllegalArgumentException("x and y are 0 to 5000");
        }
        if (!isWithin(z, -HIGHEST, HIGHEST)) {
            throw new IllegalArgumentException("z is -1000 to 1000");
        }
    }

    private static boolean isWithin(int number, int least, int greatest) {
        return number >= least && number <= greatest;
    }

    // ---- what follows from what is told

    private void renewMatrix() {
        matrix.renew(units.size, relations);
        renewBounds();
    }

    private void renewBounds() {
        bounds.renew(units, finds, matrix);
    }

    private int whyRefused(int kind, int a, int b) {
        if (a == b) {
            return 1;
        }
        if (!doSortsFit(kind, units.sorts[a], units.sorts[b])) {
            return 2;
        }
        if (relations.isTold(kind, a, b)) {
            return 3;
        }
        return wouldMakeLoop(kind, a, b) ? 4 : 0;
    }

    private static boolean doSortsFit(int kind, int sortOfA, int sortOfB) {
        switch (kind) {
            case CUTS: return sortOfA == CUT;
            case FILLS: return sortOfA == FILL && sortOfB == CUT;
            case AGAINST: return sortOfA == WALL;
            case SAME: return sortOfA == sortOfB;
            default: return true;
        }
    }

    private boolean wouldMakeLoop(int kind, int a, int b) {
        if (kind == SAME) {
            return matrix.isLater(a, b) || matrix.isLater(b, a);
        }
        return matrix.isSameBody(a, b) || matrix.isLater(b, a);
    }

    private long bodiesInDoubt() {
        long found = 0;
        for (int body = 0; body < units.size; body++) {
            if (has(matrix.bodies, body) && bounds.lower[body] > bounds.upper[body]) {
                found |= bit(body);
            }
        }
        return found;
    }

    private int misfit(int find) {
        int body = matrix.bodyOf[finds.units[find]];
        if (finds.firsts[find] > bounds.upper[body]) {
            return 2;
        }
        return finds.lasts[find] < bounds.lower[body] ? 1 : 0;
    }

    private boolean canBeDug(int unit) {
        if (has(units.dug, unit)) {
            return false;
        }
        for (int other = 0; other < units.size; other++) {
            if (matrix.isLater(other, unit) && !has(units.dug, other)) {
                return false;
            }
        }
        return true;
    }

    private long unitsToDig() {
        long found = 0;
        for (int unit = 0; unit < units.size; unit++) {
            if (canBeDug(unit)) {
                found |= bit(unit);
            }
        }
        return found;
    }

    private boolean isPairOutOfPhase(int first, int second) {
        if (matrix.isSameBody(first, second)) {
            return first < second && units.phases[first] != units.phases[second];
        }
        return matrix.isLater(first, second) && units.phases[first] < units.phases[second];
    }

    private int pairsOutOfPhase() {
        int pairs = 0;
        for (int first = 0; first < units.size; first++) {
            for (int second = 0; second < units.size; second++) {
                if (isPairOutOfPhase(first, second)) {
                    pairs++;
                }
            }
        }
        return pairs;
    }

    // ---- sets of units or bodies

    private static long bit(int element) {
        return 1L << element;
    }

    private static boolean has(long set, int element) {
        return (set & bit(element)) != 0;
    }

    private static int elementAt(long set, int index) {
        int left = index;
        for (int element = 0; element < MOST_UNITS; element++) {
            if (has(set, element)) {
                if (left == 0) {
                    return element;
                }
                left--;
            }
        }
        return -1;
    }

    /** The units, each with its sort, its date, its phase, and whether it is dug. */
    private static final class Units {
        int size;
        long dug;
        long dated;
        final int[] sorts = new int[MOST_UNITS];
        final int[] phases = new int[MOST_UNITS];
        final int[] firsts = new int[MOST_UNITS];
        final int[] lasts = new int[MOST_UNITS];

        int append(int sort) {
            sorts[size] = sort;
            size++;
            return size - 1;
        }

        void setDate(int unit, int first, int last) {
            firsts[unit] = first;
            lasts[unit] = last;
            if (first <= last) {
                dated |= bit(unit);
            } else {
                dated &= ~bit(unit);
            }
        }
    }

    /** The relations, in the order in which they were told. */
    private static final class Relations {
        int size;
        final int[] kinds = new int[MOST_RELATIONS];
        final int[] laters = new int[MOST_RELATIONS];
        final int[] earliers = new int[MOST_RELATIONS];

        void append(int kind, int later, int earlier) {
            kinds[size] = kind;
            laters[size] = later;
            earliers[size] = earlier;
            size++;
        }

        void remove(int relation) {
            for (int behind = relation + 1; behind < size; behind++) {
                kinds[behind - 1] = kinds[behind];
                laters[behind - 1] = laters[behind];
                earliers[behind - 1] = earliers[behind];
            }
            size--;
        }

        boolean isTold(int kind, int a, int b) {
            for (int relation = 0; relation < size; relation++) {
                if (kinds[relation] == kind) {
                    boolean isSo = laters[relation] == a && earliers[relation] == b;
                    boolean isTurned = laters[relation] == b && earliers[relation] == a;
                    if (isSo || kind == SAME && isTurned) {
                        return true;
                    }
                }
            }
            return false;
        }
    }

    /**
     * What follows from the relations. bodyOf has an entry for each unit; the other rows are looked
     * up by a body, and have empty sets at the units that are not the smallest one of their body.
     */
    private static final class Matrix {
        int size;
        long bodies;
        final int[] bodyOf = new int[MOST_UNITS];
        final long[] members = new long[MOST_UNITS];
        final long[] directlyEarlier = new long[MOST_UNITS];
        final long[] earlier = new long[MOST_UNITS];
        final long[] later = new long[MOST_UNITS];
        final long[] links = new long[MOST_UNITS];
        final int[] fromBelow = new int[MOST_UNITS];
        final int[] fromAbove = new int[MOST_UNITS];
        final int[] stepsLeft = new int[MOST_UNITS];

        boolean isSameBody(int a, int b) {
            return bodyOf[a] == bodyOf[b];
        }

        boolean isLater(int a, int b) {
            return has(earlier[bodyOf[a]], bodyOf[b]);
        }

        void renew(int unitCount, Relations relations) {
            size = unitCount;
            joinUnits(relations);
            gatherMembers();
            gatherDirectlyEarlier(relations);
            gatherEarlier();
            gatherLater();
            gatherLinks();
            rank(bodies, earlier, fromBelow);
            rank(bodies, later, fromAbove);
        }

        private void joinUnits(Relations relations) {
            for (int unit = 0; unit < size; unit++) {
                bodyOf[unit] = unit;
            }
            for (int relation = 0; relation < relations.size; relation++) {
                if (relations.kinds[relation] == SAME) {
                    joinBodies(bodyOf[relations.laters[relation]], bodyOf[relations.earliers[relation]]);
                }
            }
        }

        private void joinBodies(int one, int other) {
            int joined = Math.min(one, other);
            for (int unit = 0; unit < size; unit++) {
                if (bodyOf[unit] == one || bodyOf[unit] == other) {
                    bodyOf[unit] = joined;
                }
            }
        }

        private void gatherMembers() {
            bodies = 0;
            for (int unit = 0; unit < size; unit++) {
                members[unit] = 0;
            }
            for (int unit = 0; unit < size; unit++) {
                bodies |= bit(bodyOf[unit]);
                members[bodyOf[unit]] |= bit(unit);
            }
        }

        private void gatherDirectlyEarlier(Relations relations) {
            for (int body = 0; body < size; body++) {
                directlyEarlier[body] = 0;
            }
            for (int relation = 0; relation < relations.size; relation++) {
                if (relations.kinds[relation] != SAME) {
                    int above = bodyOf[relations.laters[relation]];
                    directlyEarlier[above] |= bit(bodyOf[relations.earliers[relation]]);
                }
            }
        }

        private void gatherEarlier() {
            for (int body = 0; body < size; body++) {
                earlier[body] = directlyEarlier[body];
            }
            for (int middle = 0; middle < size; middle++) {
                for (int above = 0; above < size; above++) {
                    if (has(earlier[above], middle)) {
                        earlier[above] |= earlier[middle];
                    }
                }
            }
        }

        private void gatherLater() {
            for (int below = 0; below < size; below++) {
                later[below] = 0;
                for (int above = 0; above < size; above++) {
                    if (has(earlier[above], below)) {
                        later[below] |= bit(above);
                    }
                }
            }
        }

        private void gatherLinks() {
            for (int above = 0; above < size; above++) {
                long reached = 0;
                for (int middle = 0; middle < size; middle++) {
                    if (has(earlier[above], middle)) {
                        reached |= earlier[middle];
                    }
                }
                links[above] = directlyEarlier[above] & ~reached;
            }
        }

        /**
         * Ranks the bodies of a set: a body's rank is the round in which all bodies of the set that
         * stand before it are ranked, which is the length of the longest way that leads to it.
         */
        private void rank(long set, long[] before, int[] ranks) {
            long ranked = 0;
            for (int round = 0; round < MOST_UNITS && ranked != set; round++) {
                long waiting = set & ~ranked;
                for (int body = 0; body < size; body++) {
                    if (has(waiting, body) && (before[body] & waiting) == 0) {
                        ranks[body] = round;
                        ranked |= bit(body);
                    }
                }
            }
        }

        int linkCount() {
            int found = 0;
            for (int body = 0; body < size; body++) {
                found += Long.bitCount(links[body]);
            }
            return found;
        }

        int levelCount() {
            int levels = 0;
            for (int body = 0; body < size; body++) {
                if (has(bodies, body)) {
                    levels = Math.max(levels, fromBelow[body] + 1);
                }
            }
            return levels;
        }

        long bodiesOnLevel(int level, boolean isBelow) {
            int[] levels = isBelow ? fromBelow : fromAbove;
            long found = 0;
            for (int body = 0; body < size; body++) {
                if (has(bodies, body) && levels[body] == level) {
                    found |= bit(body);
                }
            }
            return found;
        }

        int bodyOnWay(int top, int bottom, int index) {
            long overBottom = later[bottom] | bit(bottom);
            if (!has(overBottom, top)) {
                return -1;
            }
            // In this set all ways down end at the bottom, so that a rank is the steps that are left.
            rank(overBottom, earlier, stepsLeft);
            int reached = top;
            for (int step = 0; step < index && reached >= 0; step++) {
                reached = nextOnWay(reached, links[reached] & overBottom);
            }
            return reached;
        }

        private int nextOnWay(int body, long candidates) {
            for (int candidate = 0; candidate < size; candidate++) {
                if (has(candidates, candidate) && stepsLeft[candidate] == stepsLeft[body] - 1) {
                    return candidate;
                }
            }
            return -1;
        }
    }

    /** The finds, each with its unit, its sort, its years and its place. */
    private static final class Finds {
        int size;
        final int[] units = new int[MOST_FINDS];
        final int[] sorts = new int[MOST_FINDS];
        final int[] firsts = new int[MOST_FINDS];
        final int[] lasts = new int[MOST_FINDS];
        final int[] xs = new int[MOST_FINDS];
        final int[] ys = new int[MOST_FINDS];
        final int[] zs = new int[MOST_FINDS];

        int append(int unit, int sort, int first, int last) {
            units[size] = unit;
            sorts[size] = sort;
            firsts[size] = first;
            lasts[size] = last;
            size++;
            return size - 1;
        }

        int countIn(int unit) {
            int found = 0;
            for (int find = 0; find < size; find++) {
                if (units[find] == unit) {
                    found++;
                }
            }
            return found;
        }

        int closest(int x, int y, int z, int sort) {
            int best = -1;
            int least = 0;
            for (int find = 0; find < size; find++) {
                if (sort == -1 || sorts[find] == sort) {
                    int square = squareOfDistance(find, x, y, z);
                    if (best == -1 || square < least) {
                        best = find;
                        least = square;
                    }
                }
            }
            return best;
        }

        private int squareOfDistance(int find, int x, int y, int z) {
            int dx = xs[find] - x;
            int dy = ys[find] - y;
            int dz = zs[find] - z;
            return dx * dx + dy * dy + dz * dz;
        }
    }

    /** The bounds of the bodies: own ones, of a body's dates and finds alone, and those that follow. */
    private static final class Bounds {
        final int[] ownLower = new int[MOST_UNITS];
        final int[] ownUpper = new int[MOST_UNITS];
        final int[] lower = new int[MOST_UNITS];
        final int[] upper = new int[MOST_UNITS];

        void renew(Units units, Finds finds, Matrix matrix) {
            for (int body = 0; body < units.size; body++) {
                ownLower[body] = FIRST_YEAR;
                ownUpper[body] = LAST_YEAR;
            }
            gatherDates(units, matrix);
            gatherFinds(finds, matrix);
            spread(units.size, matrix);
        }

        private void gatherDates(Units units, Matrix matrix) {
            for (int unit = 0; unit < units.size; unit++) {
                if (has(units.dated, unit)) {
                    int body = matrix.bodyOf[unit];
                    ownLower[body] = Math.max(ownLower[body], units.firsts[unit]);
                    ownUpper[body] = Math.min(ownUpper[body], units.lasts[unit]);
                }
            }
        }

        private void gatherFinds(Finds finds, Matrix matrix) {
            for (int find = 0; find < finds.size; find++) {
                int body = matrix.bodyOf[finds.units[find]];
                ownLower[body] = Math.max(ownLower[body], finds.firsts[find]);
            }
        }

        private void spread(int size, Matrix matrix) {
            for (int body = 0; body < size; body++) {
                lower[body] = ownLower[body];
                upper[body] = ownUpper[body];
                for (int other = 0; other < size; other++) {
                    if (has(matrix.earlier[body], other)) {
                        lower[body] = Math.max(lower[body], ownLower[other]);
                    }
                    if (has(matrix.later[body], other)) {
                        upper[body] = Math.min(upper[body], ownUpper[other]);
                    }
                }
            }
        }
    }
}
