import java.util.ArrayList;
import java.util.Arrays;
import java.util.LinkedHashMap;
import java.util.List;
import java.util.Map;
import java.util.Random;

/**
 * Runs of up to 512 calls, whose arguments come from seeds, against a second program of the document that is written
 * as plainly as Java allows: it throws where the document says that something fails.
 */
public final class ModelRuns {
    private static final int RUNS = 6000, CALLS = 512, WRONG_SHOWN = 10;
    /** How often each why came is counted: 0 .. 5 of makings, and from here on 0 .. 8 of readings. */
    private static final int READINGS = 6;

    /** Why a making or a reading fails. */
    private static final class Fails extends RuntimeException {
        final int why;

        Fails(int why) {
            super(null, null, false, false);
            this.why = why;
        }
    }

    private record Const(int kind, int version, int name, int order, boolean loud) { }

    private record PartOf(int name, int sort, int of) { }

    private record CheckOf(int how, int a, int b) { }

    private static final class Rec {
        int kind, version;
        Object[] values;
    }

    private static final class Row {
        int[] items;
    }

    private static final class Model {
        final Map<String, List<Const>> constants = new LinkedHashMap<>();
        final Map<String, List<PartOf>> parts = new LinkedHashMap<>();
        final Map<String, List<CheckOf>> checks = new LinkedHashMap<>();
        final Object[] places = new Object[10];
        final long[] givenNumbers = new long[5];
        final int[] givenPlaces = new int[5];
        List<Long> tape = new ArrayList<>();
        int status = -1, why, whyLeaf = -3, whyRecords, made, well, failed;
        int at, last, open, readFor;

        static <T> List<T> of(Map<String, List<T>> map, int kind, int version) {
            return map.computeIfAbsent(kind + "." + version, k -> new ArrayList<>());
        }

        static boolean in(long i, int low, int high) {
            return low <= i && i <= high;
        }

        static boolean place(int i) {
            return in(i, 0, 9);
        }

        static boolean recordVersion(int kind, int version) {
            return in(kind, 2, 5) && in(version, 0, 2);
        }

        static boolean enumVersion(int kind, int version) {
            return in(kind, 0, 1) && in(version, 0, 2);
        }

        static int family(Object o) {
            if (o instanceof Const c) {
                return c.loud ? 2 : 1;
            }
            return o == null ? 0 : o instanceof Row ? 3 : 4;
        }

        int constant(int kind, int version, int name, boolean loud) {
            if (!enumVersion(kind, version) || !in(name, 0, 9)) {
                return -1;
            }
            List<Const> all = of(constants, kind, version);
            if (all.stream().anyMatch(c -> c.name == name)) {
                return -1;
            }
            all.add(new Const(kind, version, name, all.size(), loud));
            return all.size() - 1;
        }

        int part(int kind, int version, int name, int sort, int of) {
            if (!recordVersion(kind, version) || !in(name, 0, 9) || !in(sort, 0, 4)
                || sort == 2 && !in(of, 0, 1) || sort == 3 && !in(of, 2, 5)
                || of(parts, kind, version).stream().anyMatch(p -> p.name == name)) {
                return -1;
            }
            List<PartOf> all = of(parts, kind, version);
            if (all.size() == 5) {
                return -2;
            }
            all.add(new PartOf(name, sort, of));
            return all.size() - 1;
        }

        int check(int kind, int version, int how, int a, int b) {
            if (!recordVersion(kind, version) || !in(how, 0, 4)) {
                return -1;
            }
            List<PartOf> all = of(parts, kind, version);
            int sort = new int[] {0, 0, 4, 3, 2}[how];
            if (!in(a, 0, all.size() - 1) || all.get(a).sort != sort
                || how != 1 && (!in(b, 0, all.size() - 1) || all.get(b).sort != 0)) {
                return -1;
            }
            List<CheckOf> mine = of(checks, kind, version);
            if (mine.size() == 2) {
                return -2;
            }
            mine.add(new CheckOf(how, a, b));
            return mine.size() - 1;
        }

        int hold(int place, int kind, int version, int name) {
            if (!place(place) || !enumVersion(kind, version) || !in(name, 0, 9)) {
                return -1;
            }
            for (Const c : of(constants, kind, version)) {
                if (c.name == name) {
                    places[place] = c;
                    return c.order;
                }
            }
            return -3;
        }

        int row(int place, int n) {
            if (!place(place) || n != -3 && !in(n, 0, 8)) {
                return -1;
            }
            places[place] = null;
            if (n != -3) {
                Row r = new Row();
                r.items = new int[n];
                places[place] = r;
            }
            return 1;
        }

        int item(int place, int i, int v) {
            if (place(place) && places[place] instanceof Row r && in(i, 0, r.items.length - 1)) {
                int was = r.items[i];
                r.items[i] = v;
                return was;
            }
            return -1;
        }

        int share(int place, int from) {
            if (!place(place) || !place(from)) {
                return -1;
            }
            places[place] = places[from];
            return family(places[from]);
        }

        int give(int p, long v, int place) {
            if (!in(p, 0, 4) || !place(place)) {
                return -1;
            }
            givenNumbers[p] = v;
            givenPlaces[p] = place;
            return 1;
        }

        Rec making(int kind, int version, Object[] values) {
            List<PartOf> all = of(parts, kind, version);
            for (int p = 0; p < all.size(); p++) {
                PartOf part = all.get(p);
                Object v = values[p];
                if (part.sort == 0 && (long) v != (int) (long) v) {
                    throw new Fails(2);
                }
                if (part.sort >= 2 && v != null) {
                    if (part.sort == 2 && !(v instanceof Const) || part.sort == 3 && !(v instanceof Rec)
                        || part.sort == 4 && !(v instanceof Row)) {
                        throw new Fails(1);
                    }
                    if (v instanceof Const c && (c.kind != part.of || c.version != version)
                        || v instanceof Rec r && (r.kind != part.of || r.version != version)) {
                        throw new Fails(2);
                    }
                }
            }
            for (CheckOf c : of(checks, kind, version)) {
                checking(c, values);
            }
            made++;
            Rec r = new Rec();
            r.kind = kind;
            r.version = version;
            r.values = values;
            return r;
        }

        static void checking(CheckOf c, Object[] values) {
            Object a = values[c.a];
            if (a == null) {
                throw new Fails(3);
            }
            boolean holds;
            if (c.how == 1) {
                if ((long) a == 0) {
                    throw new Fails(5);
                }
                holds = 100 % (int) (long) a == 0;
            } else {
                int b = (int) (long) values[c.b];
                if (c.how == 0) {
                    holds = (int) (long) a <= b;
                } else if (a instanceof Row r) {
                    if (!in(b, 0, r.items.length - 1)) {
                        throw new Fails(4);
                    }
                    holds = r.items[b] > 0;
                } else if (a instanceof Rec r) {
                    if (r.values.length == 0) {
                        throw new Fails(4);
                    }
                    if (!(r.values[0] instanceof Long)) {
                        throw new Fails(1);
                    }
                    holds = (long) r.values[0] == b;
                } else {
                    holds = ((Const) a).order < b;
                }
            }
            if (!holds) {
                throw new Fails(2);
            }
        }

        int make(int kind, int version, int place) {
            if (!recordVersion(kind, version) || !place(place)) {
                return -1;
            }
            why = 0;
            whyLeaf = -3;
            whyRecords = 0;
            Object[] values = new Object[of(parts, kind, version).size()];
            for (int p = 0; p < values.length; p++) {
                values[p] = of(parts, kind, version).get(p).sort < 2 ? (Object) givenNumbers[p] : places[givenPlaces[p]];
            }
            try {
                places[place] = making(kind, version, values);
            } catch (Fails f) {
                why = f.why;
            }
            return why;
        }

        int about(int place, int what) {
            if (!place(place) || !in(what, 0, 3)) {
                return -1;
            }
            Object o = places[place];
            if (what == 0) {
                return family(o);
            }
            if (o instanceof Const c) {
                return what == 1 ? c.kind : what == 2 ? c.version : c.order;
            }
            if (o instanceof Rec r) {
                return what == 1 ? r.kind : what == 2 ? r.version : r.values.length;
            }
            return what < 3 ? -3 : o instanceof Row r ? r.items.length : 0;
        }

        long number(int place, int p) {
            status = -1;
            if (place(place) && places[place] instanceof Rec r && in(p, 0, r.values.length - 1)) {
                status = 0;
                return r.values[p] instanceof Long v ? v : family(r.values[p]) - 10;
            }
            return 0;
        }

        int take(int place, int p, int to) {
            if (place(place) && place(to) && places[place] instanceof Rec r && in(p, 0, r.values.length - 1)
                && !(r.values[p] instanceof Long)) {
                places[to] = r.values[p];
                return family(places[to]);
            }
            return -1;
        }

        static boolean alike(Object a, Object b, int within) {
            if (a instanceof Long && b instanceof Long) {
                return a.equals(b);
            }
            if (a instanceof Row x && b instanceof Row y) {
                return Arrays.equals(x.items, y.items);
            }
            if (a == b || !(a instanceof Rec) || !(b instanceof Rec) || within == 6) {
                return a == b;
            }
            Rec x = (Rec) a;
            Rec y = (Rec) b;
            boolean all = x.kind == y.kind && x.version == y.version && x.values.length == y.values.length;
            for (int p = 0; all && p < x.values.length; p++) {
                all = alike(x.values[p], y.values[p], within + 1);
            }
            return all;
        }

        int like(int a, int b) {
            return place(a) && place(b) ? alike(places[a], places[b], 0) ? 1 : 0 : -1;
        }

        void writing(Rec r, List<Long> to) {
            if (to.size() > 250) {
                return;
            }
            to.add((long) r.kind);
            to.add((long) r.values.length);
            for (int p = 0; p < r.values.length; p++) {
                PartOf part = of(parts, r.kind, r.version).get(p);
                to.add((long) part.name);
                to.add((long) part.sort);
                Object v = r.values[p];
                if (part.sort < 2) {
                    to.add((long) v);
                } else if (v == null) {
                    to.add(part.sort == 3 ? 0L : -1L);
                } else if (v instanceof Const c) {
                    to.add((long) c.name);
                } else if (v instanceof Rec inner) {
                    to.add(1L);
                    writing(inner, to);
                } else {
                    int[] items = ((Row) v).items;
                    to.add((long) items.length);
                    for (int i : items) {
                        to.add((long) i);
                    }
                }
            }
        }

        int write(int place) {
            if (!place(place) || !(places[place] instanceof Rec r)) {
                return -1;
            }
            List<Long> fresh = new ArrayList<>();
            writing(r, fresh);
            if (fresh.size() > 250) {
                return -2;
            }
            tape = fresh;
            return tape.size();
        }

        long leaf(int k) {
            status = in(k, 0, tape.size() - 1) ? 0 : -1;
            return status == 0 ? tape.get(k) : 0;
        }

        int set(int k, long v) {
            if (!in(k, 0, tape.size())) {
                return -1;
            }
            if (k == tape.size()) {
                if (k == 250) {
                    return -2;
                }
                tape.add(v);
            }
            tape.set(k, v);
            return tape.size();
        }

        int cut(int n) {
            if (!in(n, 0, tape.size())) {
                return -1;
            }
            int went = tape.size() - n;
            tape = new ArrayList<>(tape.subList(0, n));
            return went;
        }

        long want() {
            last = at;
            if (at == tape.size()) {
                throw new Fails(4);
            }
            return tape.get(at++);
        }

        Rec reading() {
            open++;
            long kind = want();
            if (!in(kind, 2, 5)) {
                throw new Fails(2);
            }
            List<PartOf> all = of(parts, (int) kind, readFor);
            Object[] values = new Object[all.size()];
            for (int p = 0; p < values.length; p++) {
                values[p] = all.get(p).sort < 2 ? (Object) 0L : null;
            }
            long n = want();
            for (long i = 0; i < n; i++) {
                long name = want();
                long sort = sort();
                int p = 0;
                while (p < values.length && all.get(p).name != name) {
                    p++;
                }
                if (p == values.length) {
                    through((int) sort);
                } else if (all.get(p).sort != sort) {
                    throw new Fails(1);
                } else {
                    values[p] = value(all.get(p));
                }
            }
            Rec r = making((int) kind, readFor, values);
            open--;
            return r;
        }

        long sort() {
            long sort = want();
            if (!in(sort, 0, 4)) {
                throw new Fails(2);
            }
            return sort;
        }

        void deep() {
            if (open == 6) {
                throw new Fails(8);
            }
        }

        int items() {
            long m = want();
            if (m < -1) {
                throw new Fails(6);
            }
            if (m > 8) {
                throw new Fails(2);
            }
            return (int) m;
        }

        Object value(PartOf part) {
            if (part.sort < 2) {
                return want();
            }
            if (part.sort == 2) {
                long name = want();
                for (Const c : of(constants, part.of, readFor)) {
                    if (c.name == name) {
                        return c;
                    }
                }
                if (name != -1) {
                    throw new Fails(7);
                }
                return null;
            }
            if (part.sort == 3) {
                if (want() == 0) {
                    return null;
                }
                deep();
                return reading();
            }
            int m = items();
            if (m == -1) {
                return null;
            }
            Row r = new Row();
            r.items = new int[m];
            for (int i = 0; i < m; i++) {
                r.items[i] = (int) want();
            }
            return r;
        }

        void through(int sort) {
            if (sort < 3) {
                want();
            } else if (sort == 4) {
                for (int m = items(); m > 0; m--) {
                    want();
                }
            } else if (want() != 0) {
                deep();
                open++;
                if (!in(want(), 2, 5)) {
                    throw new Fails(2);
                }
                for (long n = want(); n > 0; n--) {
                    want();
                    through((int) sort());
                }
                open--;
            }
        }

        int read(int version, int place) {
            if (!in(version, 0, 2) || !place(place)) {
                return -1;
            }
            at = 0;
            open = 0;
            readFor = version;
            why = 0;
            whyLeaf = -3;
            whyRecords = 0;
            try {
                places[place] = reading();
                well++;
            } catch (Fails f) {
                failed++;
                why = f.why;
                whyLeaf = last;
                whyRecords = open;
            }
            return why;
        }

        int cause(int what) {
            return what == 0 ? why : what == 1 ? whyLeaf : what == 2 ? whyRecords : -1;
        }

        int count(int what) {
            int held = 0;
            for (Object o : places) {
                held += o == null ? 0 : 1;
            }
            int[] all = {made, well, failed, tape.size(), held};
            return in(what, 0, 4) ? all[what] : -1;
        }
    }

    private static final long[] ODD = {Long.MIN_VALUE, Long.MAX_VALUE, 1L << 32, (1L << 32) + 1, -1L << 32,
        Integer.MIN_VALUE, Integer.MAX_VALUE, Integer.MIN_VALUE - 1L, Integer.MAX_VALUE + 1L, 10, -2, -3, -4};

    private final Random random;
    private final Model model = new Model();
    private final RecordLeaves x = new RecordLeaves();
    private final List<String> calls = new ArrayList<>();
    private final int run;
    /** How many calls of a hundred get a number at random, and in how few versions and kinds most calls are. */
    private final int oddness, kinds, versions;
    private final int[] seen;

    private ModelRuns(int run, int[] seen) {
        this.run = run;
        this.seen = seen;
        random = new Random(run * 7919L + 11);
        oddness = random.nextInt(3) == 0 ? 8 : 1;
        kinds = 1 + random.nextInt(4);
        versions = 1 + random.nextInt(3);
    }

    private boolean odd() {
        return random.nextInt(100) < oddness;
    }

    /** A number below n most times, else one beside it or far away. */
    private int upTo(int n) {
        if (!odd()) {
            return random.nextInt(n);
        }
        int[] other = {-1, n, Integer.MIN_VALUE, Integer.MAX_VALUE, n + 1, -2};
        return other[random.nextInt(other.length)];
    }

    private int recordKind() {
        return odd() ? upTo(7) : 2 + random.nextInt(kinds);
    }

    private int version() {
        return odd() ? upTo(3) : random.nextInt(versions);
    }

    private long number() {
        if (odd()) {
            return ODD[random.nextInt(ODD.length)];
        }
        return random.nextInt(3) == 0 ? random.nextInt(120) - 10 : random.nextInt(4);
    }

    private boolean due(String call, long got, long want) {
        calls.add(call + " = " + want);
        if (got == want) {
            return true;
        }
        System.out.println("run " + run + ": " + call + " answered " + got + ", due is " + want + "; behind");
        for (int i = Math.max(0, calls.size() - 60); i < calls.size(); i++) {
            System.out.println("    " + calls.get(i));
        }
        return false;
    }

    private static String text(String name, Object... arguments) {
        return name + Arrays.toString(arguments);
    }

    private boolean shape() {
        int kind = recordKind(), version = version(), name = upTo(random.nextBoolean() ? 10 : 5);
        switch (random.nextInt(5)) {
            case 0: {
                int of = upTo(2);
                boolean loud = random.nextBoolean();
                return due(text("constant", of, version, name, loud), x.constant(of, version, name, loud),
                    model.constant(of, version, name, loud));
            }
            case 1: {
                int how = upTo(5), a = upTo(5), b = upTo(5);
                if (Model.recordVersion(kind, version) && how >= 0 && how < 5 && !odd()) {
                    a = partOfSort(kind, version, new int[] {0, 0, 4, 3, 2}[how]);
                    b = partOfSort(kind, version, 0);
                }
                return due(text("check", kind, version, how, a, b), x.check(kind, version, how, a, b),
                    model.check(kind, version, how, a, b));
            }
            default: {
                int sort = upTo(5);
                int of = odd() ? upTo(6) : sort == 2 ? random.nextInt(2) : 2 + random.nextInt(kinds);
                return due(text("part", kind, version, name, sort, of), x.part(kind, version, name, sort, of),
                    model.part(kind, version, name, sort, of));
            }
        }
    }

    /** The number of the first or the last part of a sort, or one that there is not. */
    private int partOfSort(int kind, int version, int sort) {
        List<PartOf> all = Model.of(model.parts, kind, version);
        boolean first = random.nextBoolean();
        int found = -1;
        for (int p = 0; p < all.size() && !(first && found >= 0); p++) {
            found = all.get(p).sort == sort ? p : found;
        }
        return found;
    }

    private boolean place() {
        int place = upTo(10), other = upTo(10), i = upTo(9);
        switch (random.nextInt(9)) {
            case 0: {
                int kind = upTo(2), version = version(), name = upTo(10);
                return due(text("hold", place, kind, version, name), x.hold(place, kind, version, name),
                    model.hold(place, kind, version, name));
            }
            case 1: {
                int n = random.nextInt(8) == 0 ? -3 : i;
                return due(text("row", place, n), x.row(place, n), model.row(place, n));
            }
            case 2: {
                int v = (int) number();
                return due(text("item", place, i, v), x.item(place, i, v), model.item(place, i, v));
            }
            case 3:
                return due(text("share", place, other), x.share(place, other), model.share(place, other));
            case 4:
                return due(text("about", place, i % 5), x.about(place, i % 5), model.about(place, i % 5));
            case 5:
                return due(text("number", place, i % 6), x.number(place, i % 6), model.number(place, i % 6));
            case 6:
                return due(text("take", place, i % 6, other), x.take(place, i % 6, other), model.take(place, i % 6, other));
            default:
                return due(text("like", place, other), x.like(place, other), model.like(place, other));
        }
    }

    /** For each part a place that fits, if there is one, is given most times; then the record is made. */
    private boolean make() {
        int kind = recordKind(), version = version(), place = upTo(10);
        if (Model.recordVersion(kind, version)) {
            List<PartOf> all = Model.of(model.parts, kind, version);
            for (int p = 0; p < all.size(); p++) {
                int from = random.nextInt(10);
                for (int tries = 0; tries < 30 && !odd() && !fits(all.get(p), version, from); tries++) {
                    from = random.nextInt(10);
                }
                long v = number();
                if (!due(text("give", p, v, from), x.give(p, v, from), model.give(p, v, from))) {
                    return false;
                }
            }
        } else {
            int p = upTo(5);
            if (!due(text("give", p, 3, place), x.give(p, 3, place), model.give(p, 3, place))) {
                return false;
            }
        }
        int why = model.make(kind, version, place);
        seen[Math.max(why, 0)]++;
        return due(text("make", kind, version, place), x.make(kind, version, place), why) && cause();
    }

    private boolean fits(PartOf part, int version, int from) {
        Object o = model.places[from];
        return part.sort < 2 || part.sort == 4 && o instanceof Row
            || part.sort == 2 && o instanceof Const c && c.kind == part.of && c.version == version
            || part.sort == 3 && o instanceof Rec r && r.kind == part.of && r.version == version;
    }

    private boolean cause() {
        boolean fine = true;
        for (int what = -1; what < 4; what++) {
            fine = fine && due("cause(" + what + ")", x.cause(what), model.cause(what));
        }
        for (int what = -1; what < 6; what++) {
            fine = fine && due("count(" + what + ")", x.count(what), model.count(what));
        }
        return fine && due("status()", x.status(), model.status);
    }

    private boolean status() {
        return due("status()", x.status(), model.status);
    }

    private long changed(long leaf) {
        long[] other = {leaf + 1, leaf - 1, -1, 0, random.nextInt(10), ODD[random.nextInt(ODD.length)], -leaf, leaf + (1L << 32)};
        return other[random.nextInt(other.length)];
    }

    private boolean tape() {
        int place = upTo(10), size = model.tape.size();
        switch (random.nextInt(6)) {
            case 0:
                return due(text("write", place), x.write(place), model.write(place));
            case 1: {
                int k = random.nextInt(3) == 0 ? upTo(251) : upTo(size + 1);
                return due(text("leaf", k), x.leaf(k), model.leaf(k)) && status();
            }
            case 2: {
                int n = random.nextInt(4) == 0 ? upTo(251) : Math.max(0, size - random.nextInt(4));
                return due(text("cut", n), x.cut(n), model.cut(n));
            }
            case 3:
                return read(version(), place);
            default: {
                int k = upTo(size + 1);
                long v = changed(k >= 0 && k < size ? model.tape.get(k) : 1);
                return due(text("set", k, v), x.set(k, v), model.set(k, v));
            }
        }
    }

    private boolean read(int version, int place) {
        int why = model.read(version, place);
        seen[READINGS + Math.max(why, 0)]++;
        return due(text("read", version, place), x.read(version, place), why) && cause();
    }

    /** Leaves as they might be written by a version that knows more; a chain goes on to the depth that is too much. */
    private void leaves(List<Long> to, int depth, boolean chain) {
        long kind = recordKind();
        to.add(kind);
        int n = chain ? 1 : random.nextInt(depth > 3 ? 3 : 5);
        to.add((long) (odd() ? n + 1 : n));
        List<PartOf> all = Model.of(model.parts, (int) kind, random.nextInt(versions));
        for (int i = 0; i < n; i++) {
            boolean known = !all.isEmpty() && random.nextInt(4) > 0;
            PartOf part = known ? all.get(random.nextInt(all.size())) : new PartOf(random.nextInt(10), random.nextInt(5), 0);
            if (chain) {
                part = all.stream().filter(p -> p.sort == 3 && known).findFirst().orElse(new PartOf(random.nextInt(10), 3, 0));
            }
            to.add((long) part.name);
            to.add((long) (odd() ? upTo(5) : part.sort));
            if (part.sort == 2) {
                to.add(random.nextInt(3) == 0 ? -1L : random.nextInt(10));
            } else if (part.sort == 3) {
                boolean more = depth < 7 && (chain || random.nextInt(3) > 0);
                to.add(more ? 1L : 0L);
                if (more) {
                    leaves(to, depth + 1, chain && random.nextInt(12) > 0);
                }
            } else if (part.sort == 4) {
                int m = random.nextInt(5) - 1;
                to.add(random.nextInt(15) == 0 ? changed(m) : (long) m);
                for (int k = 0; k < m; k++) {
                    to.add(number());
                }
            } else {
                to.add(number());
            }
        }
    }

    private boolean freshTape() {
        List<Long> to = new ArrayList<>();
        leaves(to, 0, random.nextInt(4) == 0);
        boolean fine = due("cut[0]", x.cut(0), model.cut(0));
        for (int k = 0; fine && k < Math.min(to.size(), 60); k++) {
            fine = due(text("set", k, to.get(k)), x.set(k, to.get(k)), model.set(k, to.get(k)));
        }
        return fine && read(version(), upTo(10));
    }

    private boolean play() {
        boolean fine = true;
        int shaping = 10 + random.nextInt(50);
        while (fine && calls.size() < shaping) {
            fine = shape();
        }
        while (fine && calls.size() < CALLS - 100) {
            switch (random.nextInt(12)) {
                case 0:
                    fine = shape();
                    break;
                case 1:
                    fine = freshTape();
                    break;
                case 2:
                case 3:
                    fine = make();
                    break;
                case 4:
                case 5:
                case 6:
                case 7:
                    fine = place();
                    break;
                default:
                    fine = tape();
            }
        }
        return fine;
    }

    public static void main(String[] args) {
        int wrong = 0;
        int[] seen = new int[READINGS + 9];
        for (int run = 0; run < RUNS && wrong < WRONG_SHOWN; run++) {
            ModelRuns one = new ModelRuns(run, seen);
            try {
                wrong += one.play() ? 0 : 1;
            } catch (RuntimeException thrown) {
                wrong++;
                System.out.println("run " + run + ": " + thrown + " behind " + one.calls);
            }
        }
        // Runs in which some failure never comes would pass whatever the program does there.
        for (int why = 0; why < seen.length; why++) {
            if (wrong == 0 && seen[why] < 40) {
                wrong++;
                System.out.println("too few failures of number " + why + ": " + seen[why]);
            }
        }
        System.out.println(wrong == 0 ? "the runs are as the model's, whys " + Arrays.toString(seen) : wrong + " runs are wrong");
        if (wrong != 0) {
            System.exit(1);
        }
    }
}
