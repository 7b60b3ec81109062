import java.util.ArrayList;
import java.util.HashMap;
import java.util.List;
import java.util.Map;
import java.util.TreeSet;

/**
 * Long runs of calls, some of them wrong, on a TrenchBook and on a model that follows the document's
 * words as plainly as can be; each answer and each exception has to be the same.
 */
public final class ModelTest {
    private static final int RUNS = 150;
    private static final int CALLS = 512;

    private static int wrong = 0;

    private interface Call {
        long run();
    }

    public static void main(String[] args) {
        for (int run = 0; run < RUNS && wrong < 20; run++) {
            new Run(run).go();
        }
        System.out.println(wrong == 0 ? RUNS + " runs are as the model's" : wrong + " answers differ");
        System.exit(wrong == 0 ? 0 : 1);
    }

    // ---- one run

    private static final class Run {
        private final int number;
        private long seed;
        private final TrenchBook book = new TrenchBook();
        private final Model model = new Model();
        private final int units;
        private final boolean isForward;
        private final int sorts;
        private final int wrongs;

        Run(int number) {
            this.number = number;
            seed = number * 7919L + 17;
            units = 1 + pick(40);
            isForward = pick(3) > 0;
            sorts = pick(3) == 0 ? 1 : 4;
            wrongs = 4 + pick(60);
        }

        void go() {
            for (int call = 0; call < CALLS && wrong < 20; call++) {
                if (call % 50 == 49 || call == CALLS - 1) {
                    compare("digest()", book::digest, model::digest);
                } else if (model.sorts.size() < units && pick(3) > 0) {
                    int sort = arg(sorts);
                    compare("addUnit(" + sort + ")", () -> book.addUnit(sort), () -> model.addUnit(sort));
                } else {
                    callOne(pick(34));
                }
            }
        }

        private void callOne(int which) {
            if (which < 9) {
                callRelate();
            } else if (which < 14) {
                callMatrix(which);
            } else if (which < 23) {
                callFinds(which);
            } else {
                callRest(which);
            }
        }

        private void callRelate() {
            int kind = pick(2) == 0 ? 0 : arg(5);
            int one = arg(model.sorts.size());
            int other = arg(model.sorts.size());
            // in most runs the smaller unit is the later one, so that long ways come about
            int a = isForward ? Math.min(one, other) : one;
            int b = isForward ? Math.max(one, other) : other;
            compare("relate(" + kind + ", " + a + ", " + b + ")",
                () -> book.relate(kind, a, b), () -> model.relate(kind, a, b));
        }

        private void callMatrix(int which) {
            int a = arg(model.sorts.size());
            int b = arg(model.sorts.size());
            int index = pick(4) == 0 ? arg(40) : arg(6);
            boolean isBelow = pick(2) == 0;
            String two = "(" + a + ", " + b + ")";
            switch (which) {
                case 9: compare("order" + two, () -> book.order(a, b), () -> model.order(a, b)); break;
                case 10: compare("isLinked" + two, () -> book.isLinked(a, b) ? 1 : 0,
                    () -> model.isLinked(a, b)); break;
                case 11: compare("row(" + index + ", " + isBelow + ", " + b % 5 + ")",
                    () -> book.row(index, isBelow, b % 5), () -> model.row(index, isBelow, b % 5)); break;
                case 12: compare("way(" + a + ", " + b + ", " + index + ")",
                    () -> book.way(a, b, index), () -> model.way(a, b, index)); break;
                default: compare("between" + two, () -> book.between(a, b), () -> model.between(a, b));
            }
        }

        private void callFinds(int which) {
            int unit = arg(model.sorts.size());
            int find = arg(model.finds.size());
            int sort = arg(10);
            int what = arg(8);
            int first = year();
            int last = pick(2) == 0 ? year() : Math.min(2000, first + pick(3000));
            int x = arg(5001);
            int y = arg(5001);
            int z = arg(2001) - 1000;
            boolean isUpper = pick(2) == 0;
            switch (which) {
                case 14: compare("addFind(" + unit + ", " + sort + ", " + first + ", " + last + ")",
                    () -> book.addFind(unit, sort, first, last),
                    () -> model.addFind(unit, sort, first, last)); break;
                case 15: compare("place(" + find + ", " + x + ", " + y + ", " + z + ")",
                    () -> book.place(find, x, y, z), () -> model.place(find, x, y, z)); break;
                case 16: compare("move(" + find + ", " + unit + ")",
                    () -> book.move(find, unit), () -> model.move(find, unit)); break;
                case 17: compare("find(" + find + ", 7)", () -> book.find(find, 7),
                    () -> model.find(find, 7)); break;
                case 18: compare("find(" + find + ", " + what + ")", () -> book.find(find, what),
                    () -> model.find(find, what)); break;
                case 19: compare("date(" + unit + ", " + first + ", " + last + ")",
                    () -> book.date(unit, first, last), () -> model.date(unit, first, last)); break;
                case 20: compare("bound(" + unit + ", " + isUpper + ")", () -> book.bound(unit, isUpper),
                    () -> model.bound(unit, isUpper)); break;
                case 21: compare("doubt(" + what + ")", () -> book.doubt(what),
                    () -> model.doubt(what)); break;
                default: compare("nearest(" + x + ", " + y + ", " + z + ", " + (sort - 1) + ")",
                    () -> book.nearest(x, y, z, sort - 1), () -> model.nearest(x, y, z, sort - 1));
            }
        }

        private void callRest(int which) {
            int unit = arg(model.sorts.size());
            int relation = arg(model.relations.size());
            int what = arg(10);
            int phase = arg(21);
            boolean isSecond = pick(2) == 0;
            switch (which) {
                case 23: compare("takeBack(" + relation + ")", () -> book.takeBack(relation),
                    () -> model.takeBack(relation)); break;
                case 24: compare("relation(" + relation + ", " + what % 4 + ")",
                    () -> book.relation(relation, what % 4),
                    () -> model.relation(relation, what % 4)); break;
                case 25: compare("count(" + what + ")", () -> book.count(what),
                    () -> model.count(what)); break;
                case 26: compare("unit(" + unit + ", " + what + ")", () -> book.unit(unit, what),
                    () -> model.unit(unit, what)); break;
                case 27: case 28: compare("dig(" + unit + ")", () -> book.dig(unit),
                    () -> model.dig(unit)); break;
                case 29: compare("next(" + what + ")", () -> book.next(what),
                    () -> model.next(what)); break;
                case 30: compare("setPhase(" + unit + ", " + phase + ")",
                    () -> book.setPhase(unit, phase), () -> model.setPhase(unit, phase)); break;
                case 31: compare("outOfPhase(" + isSecond + ")", () -> book.outOfPhase(isSecond),
                    () -> model.outOfPhase(isSecond)); break;
                case 32: compare("meanHeight()", () -> Double.doubleToRawLongBits(book.meanHeight()),
                    () -> Double.doubleToRawLongBits(model.meanHeight())); break;
                default:
                    if (pick(6) == 0) {
                        compare("phaseAll()", book::phaseAll, model::phaseAll);
                    }
            }
        }

        /** Mostly 0 up to the end, sometimes just outside of it. */
        private int arg(int end) {
            if (end <= 0 || pick(wrongs) == 0) {
                return pick(2) == 0 ? -1 : end;
            }
            return pick(end);
        }

        private int year() {
            return arg(7001) - 5000;
        }

        private int pick(int end) {
            seed = seed * 6364136223846793005L + 1442695040888963407L;
            return (int) ((seed >>> 33) % end);
        }

        private void compare(String call, Call one, Call other) {
            String got = answer(one);
            String due = answer(other);
            if (!got.equals(due)) {
                wrong++;
                System.out.println("run " + number + ": " + call + " answered " + got + ", the model " + due);
            }
        }

        private static String answer(Call call) {
            try {
                return Long.toString(call.run());
            } catch (RuntimeException thrown) {
                return thrown.getClass().getName();
            }
        }
    }

    // ---- the model

    private static final class Find {
        int unit;
        int sort;
        int first;
        int last;
        int x;
        int y;
        int z;
    }

    private static final class Model {
        final List<Integer> sorts = new ArrayList<>();
        final List<int[]> dates = new ArrayList<>();
        final List<Boolean> dug = new ArrayList<>();
        final List<Integer> phases = new ArrayList<>();
        final List<int[]> relations = new ArrayList<>();
        final List<Find> finds = new ArrayList<>();

        // What was worked out since the last change; it only makes the model quicker.
        private final Map<String, Object> known = new HashMap<>();

        private void index(boolean isGood) {
            if (!isGood) {
                throw new IndexOutOfBoundsException();
            }
        }

        private void argument(boolean isGood) {
            if (!isGood) {
                throw new IllegalArgumentException();
            }
        }

        private void state(boolean isGood) {
            if (!isGood) {
                throw new IllegalStateException();
            }
        }

        private boolean in(int number, int least, int greatest) {
            return least <= number && number <= greatest;
        }

        private boolean isUnit(int unit) {
            return in(unit, 0, sorts.size() - 1);
        }

        private boolean isFind(int find) {
            return in(find, 0, finds.size() - 1);
        }

        // -- bodies

        private TreeSet<Integer> body(int unit) {
            return of("body " + unit, () -> {
                TreeSet<Integer> body = new TreeSet<>();
                reach(unit, body);
                return body;
            });
        }

        private void reach(int unit, TreeSet<Integer> body) {
            if (body.add(unit)) {
                for (int[] told : relations) {
                    if (told[0] == 4 && told[1] == unit) {
                        reach(told[2], body);
                    }
                    if (told[0] == 4 && told[2] == unit) {
                        reach(told[1], body);
                    }
                }
            }
        }

        private TreeSet<Integer> bodies() {
            return of("bodies", () -> {
                TreeSet<Integer> all = new TreeSet<>();
                for (int unit = 0; unit < sorts.size(); unit++) {
                    all.add(body(unit).first());
                }
                return all;
            });
        }

        private boolean isDirectlyLater(int one, int other) {
            return of("directly " + one + " " + other, () -> {
                for (int[] told : relations) {
                    if (told[0] < 4 && body(told[1]).first() == one && body(told[2]).first() == other) {
                        return true;
                    }
                }
                return false;
            });
        }

        private boolean isLater(int one, int other) {
            return of("later " + one + " " + other, () -> {
                if (isDirectlyLater(one, other)) {
                    return true;
                }
                for (int next : bodies()) {
                    if (isDirectlyLater(one, next) && isLater(next, other)) {
                        return true;
                    }
                }
                return false;
            });
        }

        private boolean isLink(int one, int other) {
            return of("link " + one + " " + other, () -> {
                boolean hasThird = false;
                for (int third : bodies()) {
                    hasThird |= isLater(one, third) && isLater(third, other);
                }
                return isDirectlyLater(one, other) && !hasThird;
            });
        }

        private int level(int body, boolean isBelow) {
            return of("level " + body + " " + isBelow, () -> {
                int level = 0;
                for (int other : bodies()) {
                    if (isBelow ? isLater(body, other) : isLater(other, body)) {
                        level = Math.max(level, level(other, isBelow) + 1);
                    }
                }
                return level;
            });
        }

        @SuppressWarnings("unchecked")
        private <T> T of(String name, java.util.function.Supplier<T> work) {
            if (!known.containsKey(name)) {
                known.put(name, work.get());
            }
            return (T) known.get(name);
        }

        // -- units and relations

        int addUnit(int sort) {
            argument(in(sort, 0, 3));
            state(sorts.size() < 40);
            known.clear();
            sorts.add(sort);
            dates.add(null);
            dug.add(false);
            phases.add(0);
            return sorts.size() - 1;
        }

        int relate(int kind, int a, int b) {
            argument(in(kind, 0, 4));
            index(isUnit(a) && isUnit(b));
            state(relations.size() < 80);
            if (a == b) {
                return 1;
            }
            int sa = sorts.get(a);
            int sb = sorts.get(b);
            if (kind == 1 && sa != 1 || kind == 2 && (sa != 2 || sb != 1) || kind == 3 && sa != 3
                || kind == 4 && sa != sb) {
                return 2;
            }
            for (int[] told : relations) {
                if (told[0] == kind && (told[1] == a && told[2] == b
                    || kind == 4 && told[1] == b && told[2] == a)) {
                    return 3;
                }
            }
            relations.add(new int[] {kind, a, b});
            known.clear();
            if (hasLoop()) {
                relations.remove(relations.size() - 1);
                known.clear();
                return 4;
            }
            return 0;
        }

        /** Takes away bodies that have none directly earlier, as long as there are any. */
        private boolean hasLoop() {
            TreeSet<Integer> left = new TreeSet<>(bodies());
            boolean isGoing = true;
            while (isGoing) {
                isGoing = left.removeIf(body -> {
                    for (int other : left) {
                        if (isDirectlyLater(body, other)) {
                            return false;
                        }
                    }
                    return true;
                });
            }
            return !left.isEmpty();
        }

        int takeBack(int relation) {
            index(in(relation, 0, relations.size() - 1));
            known.clear();
            relations.remove(relation);
            return relations.size();
        }

        int relation(int relation, int what) {
            index(in(relation, 0, relations.size() - 1) && in(what, 0, 2));
            return relations.get(relation)[what];
        }

        int count(int what) {
            index(in(what, 0, 8));
            int count = 0;
            switch (what) {
                case 0: return sorts.size();
                case 1: return relations.size();
                case 2: return bodies().size();
                case 3:
                    for (int one : bodies()) {
                        for (int other : bodies()) {
                            count += isLink(one, other) ? 1 : 0;
                        }
                    }
                    return count;
                case 4: return finds.size();
                case 5:
                    for (boolean isDug : dug) {
                        count += isDug ? 1 : 0;
                    }
                    return count;
                case 6: return inDoubt().size();
                case 7:
                    for (int body : bodies()) {
                        count = Math.max(count, level(body, true) + 1);
                    }
                    return count;
                default: return pairs().size();
            }
        }

        int unit(int unit, int what) {
            index(isUnit(unit) && in(what, 0, 9));
            int body = body(unit).first();
            int count = 0;
            switch (what) {
                case 0: return sorts.get(unit);
                case 1: return body;
                case 2: return body(unit).size();
                case 3: return level(body, true);
                case 4: return level(body, false);
                case 5:
                    for (int other : bodies()) {
                        count += isLater(body, other) ? 1 : 0;
                    }
                    return count;
                case 6:
                    for (int other : bodies()) {
                        count += isLater(other, body) ? 1 : 0;
                    }
                    return count;
                case 7: return dug.get(unit) ? 1 : 0;
                case 8: return phases.get(unit);
                default:
                    for (Find find : finds) {
                        count += find.unit == unit ? 1 : 0;
                    }
                    return count;
            }
        }

        // -- the matrix

        int order(int a, int b) {
            index(isUnit(a) && isUnit(b));
            int one = body(a).first();
            int other = body(b).first();
            return one == other ? 0 : isLater(one, other) ? 1 : isLater(other, one) ? -1 : 2;
        }

        int isLinked(int a, int b) {
            index(isUnit(a) && isUnit(b));
            return isLink(body(a).first(), body(b).first()) ? 1 : 0;
        }

        int row(int level, boolean isBelow, int index) {
            index(in(level, 0, 39) && in(index, 0, 39));
            List<Integer> row = new ArrayList<>();
            for (int body : bodies()) {
                if (level(body, isBelow) == level) {
                    row.add(body);
                }
            }
            return index < row.size() ? row.get(index) : -1;
        }

        int way(int a, int b, int index) {
            index(isUnit(a) && isUnit(b));
            argument(in(index, 0, 39));
            List<Integer> way = longest(body(a).first(), body(b).first());
            return index < way.size() ? way.get(index) : -1;
        }

        /** The longest way of links, the least of several; empty if there is none. */
        private List<Integer> longest(int from, int to) {
            return of("way " + from + " " + to, () -> {
                List<Integer> best = new ArrayList<>();
                if (from == to) {
                    best.add(to);
                    return best;
                }
                for (int next : bodies()) {
                    if (isLink(from, next) && !longest(next, to).isEmpty()) {
                        List<Integer> way = new ArrayList<>();
                        way.add(from);
                        way.addAll(longest(next, to));
                        if (way.size() > best.size() || way.size() == best.size() && isLess(way, best)) {
                            best = way;
                        }
                    }
                }
                return best;
            });
        }

        private boolean isLess(List<Integer> one, List<Integer> other) {
            for (int place = 0; place < one.size(); place++) {
                int difference = one.get(place) - other.get(place);
                if (difference != 0) {
                    return difference < 0;
                }
            }
            return false;
        }

        int between(int a, int b) {
            index(isUnit(a) && isUnit(b));
            int count = 0;
            for (int body : bodies()) {
                if (isLater(body(a).first(), body) && isLater(body, body(b).first())) {
                    count++;
                }
            }
            return count;
        }

        // -- finds and dates

        int addFind(int unit, int sort, int first, int last) {
            index(isUnit(unit));
            argument(in(sort, 0, 9) && in(first, -5000, 2000) && in(last, -5000, 2000) && first <= last);
            state(finds.size() < 60);
            known.clear();
            Find find = new Find();
            find.unit = unit;
            find.sort = sort;
            find.first = first;
            find.last = last;
            finds.add(find);
            return finds.size() - 1;
        }

        int place(int find, int x, int y, int z) {
            index(isFind(find));
            argument(in(x, 0, 5000) && in(y, 0, 5000) && in(z, -1000, 1000));
            Find placed = finds.get(find);
            int before = placed.z;
            placed.x = x;
            placed.y = y;
            placed.z = z;
            return before;
        }

        int move(int find, int unit) {
            index(isFind(find) && isUnit(unit));
            known.clear();
            int before = finds.get(find).unit;
            finds.get(find).unit = unit;
            return before;
        }

        int find(int find, int what) {
            index(isFind(find) && in(what, 0, 7));
            Find told = finds.get(find);
            int[] facts = {told.unit, told.sort, told.first, told.last, told.x, told.y, told.z};
            if (what < 7) {
                return facts[what];
            }
            int body = body(told.unit).first();
            if (told.first > upper(body)) {
                return 2;
            }
            return told.last < lower(body) ? 1 : 0;
        }

        int date(int unit, int first, int last) {
            index(isUnit(unit));
            argument(in(first, -5000, 2000) && in(last, -5000, 2000));
            known.clear();
            int before = dates.get(unit) == null ? 0 : 1;
            dates.set(unit, last < first ? null : new int[] {first, last});
            return before;
        }

        private int lower(int body) {
            return of("lower " + body, () -> {
                int lower = -5000;
                for (int unit : body(body)) {
                    if (dates.get(unit) != null) {
                        lower = Math.max(lower, dates.get(unit)[0]);
                    }
                    for (Find find : finds) {
                        if (find.unit == unit) {
                            lower = Math.max(lower, find.first);
                        }
                    }
                }
                for (int other : bodies()) {
                    if (isLater(body, other)) {
                        lower = Math.max(lower, lower(other));
                    }
                }
                return lower;
            });
        }

        private int upper(int body) {
            return of("upper " + body, () -> {
                int upper = 2000;
                for (int unit : body(body)) {
                    if (dates.get(unit) != null) {
                        upper = Math.min(upper, dates.get(unit)[1]);
                    }
                }
                for (int other : bodies()) {
                    if (isLater(other, body)) {
                        upper = Math.min(upper, upper(other));
                    }
                }
                return upper;
            });
        }

        int bound(int unit, boolean isUpper) {
            index(isUnit(unit));
            return isUpper ? upper(body(unit).first()) : lower(body(unit).first());
        }

        private List<Integer> inDoubt() {
            List<Integer> found = new ArrayList<>();
            for (int body : bodies()) {
                if (lower(body) > upper(body)) {
                    found.add(body);
                }
            }
            return found;
        }

        int doubt(int index) {
            index(in(index, 0, 39));
            return index < inDoubt().size() ? inDoubt().get(index) : -1;
        }

        int nearest(int x, int y, int z, int sort) {
            argument(in(x, 0, 5000) && in(y, 0, 5000) && in(z, -1000, 1000) && in(sort, -1, 9));
            int best = -1;
            long least = Long.MAX_VALUE;
            for (int number = 0; number < finds.size(); number++) {
                Find find = finds.get(number);
                long dx = find.x - x;
                long dy = find.y - y;
                long dz = find.z - z;
                long square = dx * dx + dy * dy + dz * dz;
                if ((sort == -1 || find.sort == sort) && square < least) {
                    best = number;
                    least = square;
                }
            }
            return best;
        }

        // -- digging and phases

        private List<Integer> toDig() {
            List<Integer> found = new ArrayList<>();
            for (int unit = 0; unit < sorts.size(); unit++) {
                boolean isFree = !dug.get(unit);
                for (int later : bodies()) {
                    if (isLater(later, body(unit).first())) {
                        for (int above : body(later)) {
                            isFree &= dug.get(above);
                        }
                    }
                }
                if (isFree) {
                    found.add(unit);
                }
            }
            return found;
        }

        int dig(int unit) {
            index(isUnit(unit));
            state(toDig().contains(unit));
            dug.set(unit, true);
            return toDig().size();
        }

        int next(int index) {
            index(in(index, 0, 39));
            return index < toDig().size() ? toDig().get(index) : -1;
        }

        int setPhase(int unit, int phase) {
            index(isUnit(unit));
            argument(in(phase, 0, 20));
            return phases.set(unit, phase);
        }

        int phaseAll() {
            int changed = 0;
            for (int unit = 0; unit < sorts.size(); unit++) {
                int phase = Math.min(20, level(body(unit).first(), true));
                changed += phases.set(unit, phase) == phase ? 0 : 1;
            }
            return changed;
        }

        private List<int[]> pairs() {
            List<int[]> pairs = new ArrayList<>();
            for (int first = 0; first < sorts.size(); first++) {
                for (int second = 0; second < sorts.size(); second++) {
                    int one = body(first).first();
                    int other = body(second).first();
                    int phase = phases.get(first);
                    int otherPhase = phases.get(second);
                    if (one == other && first < second && phase != otherPhase
                        || isLater(one, other) && phase < otherPhase) {
                        pairs.add(new int[] {first, second});
                    }
                }
            }
            return pairs;
        }

        int outOfPhase(boolean isSecond) {
            return pairs().isEmpty() ? -1 : pairs().get(0)[isSecond ? 1 : 0];
        }

        double meanHeight() {
            double sum = 0;
            for (Find find : finds) {
                sum += find.z;
            }
            return finds.isEmpty() ? 0 : sum / finds.size();
        }

        long digest() {
            List<Integer> told = new ArrayList<>();
            for (int what = 0; what < 9; what++) {
                told.add(count(what));
            }
            for (int unit = 0; unit < sorts.size(); unit++) {
                for (int what = 0; what < 10; what++) {
                    told.add(unit(unit, what));
                }
                told.add(bound(unit, false));
                told.add(bound(unit, true));
            }
            for (int[] relation : relations) {
                told.add(relation[0]);
                told.add(relation[1]);
                told.add(relation[2]);
            }
            for (int find = 0; find < finds.size(); find++) {
                for (int what = 0; what < 8; what++) {
                    told.add(find(find, what));
                }
            }
            long sum = 431;
            for (int number : told) {
                sum = sum * 31 + number;
            }
            return sum;
        }
    }
}
