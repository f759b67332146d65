import java.util.Arrays;
import java.util.LinkedHashMap;
import java.util.Map;
import java.util.function.Supplier;

/**
 * The document's boundary cases, a test for each sentence that names one: the last input that is still taken and the
 * first that is not, on both sides where there are two. That a refused call changes nothing is tested by RefusedCalls.
 */
public final class BoundaryTests {
    private static final int BAD = RecordLeaves.BAD, FULL = RecordLeaves.FULL, NONE = RecordLeaves.NONE;
    private static final int INT = 0, LONG = 1, CONSTANT = 2, RECORD = 3, ROW = 4;
    private static final int CAST = 1, OWN = 2, NULL = 3, INDEX = 4, ZERO = 5, SIZE = 6, ILLEGAL = 7, DEEP = 8;
    private static final int LOW = Integer.MIN_VALUE, HIGH = Integer.MAX_VALUE;
    private static final long LOWEST = Long.MIN_VALUE, HIGHEST = Long.MAX_VALUE, BEYOND = 1L << 32;

    private interface Call {
        long on(RecordLeaves x, int i);
    }

    private interface Wanted {
        long of(int i);
    }

    private static int wrong = 0;
    private static String sentence = "";

    private static void due(String what, long got, long want) {
        if (got != want) {
            wrong++;
            System.out.println("\"" + sentence + "\": " + what + " answered " + got + ", due is " + want);
        }
    }

    /** Each of low .. high is taken by an object of its own, and what lies beside them is BAD. */
    private static void edges(String what, Supplier<RecordLeaves> start, Call call, int low, int high, Wanted want) {
        for (int i = low; i <= high; i++) {
            due(what + " with " + i, call.on(start.get(), i), want.of(i));
        }
        for (int i : new int[] {low - 1, high + 1, low - 256, high + 256, LOW, HIGH}) {
            due(what + " with " + i, call.on(start.get(), i), BAD);
        }
    }

    /** Names 0 .. 9, in this order, of each version of each enum; the odd ones are loud. */
    private static RecordLeaves everyConstant() {
        RecordLeaves x = new RecordLeaves();
        for (int i = 0; i < 60; i++) {
            x.constant(i / 30, i / 10 % 3, i % 10, i % 2 == 1);
        }
        return x;
    }

    /** An INT of name 0 in each version of each record kind. */
    private static RecordLeaves everyKind() {
        RecordLeaves x = new RecordLeaves();
        for (int i = 0; i < 12; i++) {
            x.part(2 + i / 3, i % 3, 0, INT, 0);
        }
        return x;
    }

    /** Kind 2, version 0: parts 0 .. 4 of sorts 0 .. 4, named 5 .. 9; the constant is of enum 0, the record of kind 2. */
    private static RecordLeaves everySort() {
        RecordLeaves x = new RecordLeaves();
        x.constant(0, 0, 0, false);
        x.constant(0, 0, 9, true);
        for (int sort = 0; sort < 5; sort++) {
            x.part(2, 0, 5 + sort, sort, sort == RECORD ? 2 : 0);
        }
        return x;
    }

    /** Place 1 holds a constant, 2 a loud one, 3 a row of 8, 4 a record of every sort, with all of these in it. */
    private static RecordLeaves everyThing() {
        RecordLeaves x = everySort();
        x.hold(1, 0, 0, 0);
        x.hold(2, 0, 0, 9);
        x.row(3, 8);
        x.make(2, 0, 4);
        x.give(0, 4, 0);
        x.give(2, 0, 2);
        x.give(3, 0, 4);
        x.give(4, 0, 3);
        x.make(2, 0, 4);
        return x;
    }

    private static void tape(RecordLeaves x, long... leaves) {
        x.cut(0);
        for (int k = 0; k < leaves.length; k++) {
            x.set(k, leaves[k]);
        }
    }

    /** The leaves are read for version 0 into place 9, which holds a row of 3, and are due to be taken. */
    private static void taken(String what, RecordLeaves x, long... leaves) {
        tape(x, leaves);
        x.row(9, 3);
        due(what, x.read(0, 9), 0);
        due(what + ", cause(0)", x.cause(0), 0);
        due(what + ", cause(1)", x.cause(1), NONE);
        due(what + ", cause(2)", x.cause(2), 0);
        due(what + ", the place", x.about(9, 0), 4);
    }

    /** As taken(), but the reading is due to fail, at a leaf and with so many records open. */
    private static void fails(String what, int why, int leaf, int open, RecordLeaves x, long... leaves) {
        tape(x, leaves);
        x.row(9, 3);
        int failed = x.count(2);
        due(what, x.read(0, 9), why);
        due(what + ", cause(0)", x.cause(0), why);
        due(what + ", cause(1)", x.cause(1), leaf);
        due(what + ", cause(2)", x.cause(2), open);
        due(what + ", the place", x.about(9, 3), 3);
        due(what + ", count(2)", x.count(2), failed + 1);
    }

    // ---- what it is

    /** 511 calls have been made: place 0 holds a record within 507 others. */
    private static RecordLeaves beforeTheLast() {
        RecordLeaves x = new RecordLeaves();
        x.part(3, 0, 7, RECORD, 3);
        x.part(3, 0, 8, ROW, 0);
        x.give(1, 0, 9);
        for (int call = 4; call <= 511; call++) {
            x.make(3, 0, 0);
        }
        return x;
    }

    private static void lastCall() {
        due("count(0)", beforeTheLast().count(0), 508);
        due("write(0)", beforeTheLast().write(0), FULL);
        due("make(3, 0, 0)", beforeTheLast().make(3, 0, 0), 0);
        due("like(0, 0)", beforeTheLast().like(0, 0), 1);
        due("take(0, 0, 1)", beforeTheLast().take(0, 0, 1), 4);
        due("row(9, 8)", beforeTheLast().row(9, 8), 1);
        due("constant(0, 0, 0, true)", beforeTheLast().constant(0, 0, 0, true), 0);
        due("set(0, 7)", beforeTheLast().set(0, 7), 1);
        due("read(0, 1)", beforeTheLast().read(0, 1), INDEX);
        RecordLeaves x = everySort();
        for (int k = 0; k < 250; k++) {
            x.set(k, k == 0 ? 2 : k == 1 ? 82 : new long[] {9, ROW, 0}[(k - 2) % 3]);
        }
        for (int call = 258; call <= 511; call++) {
            x.read(0, call % 10);
        }
        due("a reading of 82 rows", x.read(0, 9), 0);
    }

    // ---- 1

    private static void enums() {
        edges("constant, the kind", RecordLeaves::new, (x, i) -> x.constant(i, 0, 0, false), 0, 1, i -> 0);
        edges("hold, the kind", BoundaryTests::everyConstant, (x, i) -> x.hold(0, i, 0, 9), 0, 1, i -> 9);
        edges("part, of an enum", RecordLeaves::new, (x, i) -> x.part(2, 0, 0, CONSTANT, i), 0, 1, i -> 0);
    }

    private static void recordKinds() {
        edges("part, the kind", RecordLeaves::new, (x, i) -> x.part(i, 0, 0, INT, 0), 2, 5, i -> 0);
        edges("check, the kind", BoundaryTests::everyKind, (x, i) -> x.check(i, 0, 1, 0, 0), 2, 5, i -> 0);
        edges("make, the kind", RecordLeaves::new, (x, i) -> x.make(i, 0, 0), 2, 5, i -> 0);
        edges("part, of a kind", RecordLeaves::new, (x, i) -> x.part(5, 0, 0, RECORD, i), 2, 5, i -> 0);
    }

    private static void versions() {
        for (int kind = 0; kind < 2; kind++) {
            int k = kind;
            edges("constant, the version", RecordLeaves::new, (x, i) -> x.constant(k, i, 0, false), 0, 2, i -> 0);
            edges("hold, the version", BoundaryTests::everyConstant, (x, i) -> x.hold(0, k, i, 9), 0, 2, i -> 9);
        }
        for (int kind = 2; kind < 6; kind++) {
            int k = kind;
            edges("part, the version", RecordLeaves::new, (x, i) -> x.part(k, i, 0, INT, 0), 0, 2, i -> 0);
            edges("check, the version", BoundaryTests::everyKind, (x, i) -> x.check(k, i, 1, 0, 0), 0, 2, i -> 0);
            edges("make, the version", RecordLeaves::new, (x, i) -> x.make(k, i, 0), 0, 2, i -> 0);
        }
        edges("read, the version", RecordLeaves::new, (x, i) -> x.read(i, 0), 0, 2, i -> INDEX);
    }

    private static void constantNames() {
        edges("constant, the name", RecordLeaves::new, (x, i) -> x.constant(1, 2, i, true), 0, 9, i -> 0);
        edges("hold, the name", BoundaryTests::everyConstant, (x, i) -> x.hold(0, 1, 2, i), 0, 9, i -> i);
        for (int i = 0; i < 60; i++) {
            RecordLeaves x = everyConstant();
            due("a name for the second time", x.constant(i / 30, i / 10 % 3, i % 10, i % 2 == 0), BAD);
        }
        RecordLeaves x = new RecordLeaves();
        due("a name for the first time", x.constant(0, 0, 9, false), 0);
        due("it for the second time", x.constant(0, 0, 9, true), BAD);
        due("another name", x.constant(0, 0, 0, false), 1);
    }

    private static void plainOrLoud() {
        RecordLeaves x = everyConstant();
        for (int i = 0; i < 60; i++) {
            x.hold(3, i / 30, i / 10 % 3, i % 10);
            due("the family", x.about(3, 0), i % 2 == 1 ? 2 : 1);
        }
    }

    private static void orders() {
        RecordLeaves x = new RecordLeaves();
        int[] names = {9, 0, 4, 8, 1, 5, 2, 7, 3, 6};
        for (int order = 0; order < 10; order++) {
            due("the order of name " + names[order], x.constant(1, 1, names[order], false), order);
        }
        for (int name = -1; name <= 10; name++) {
            due("behind ten there is no name", x.constant(1, 1, name, false), BAD);
        }
        for (int order = 0; order < 10; order++) {
            due("hold, name " + names[order], x.hold(5, 1, 1, names[order]), order);
            due("about(5, 3)", x.about(5, 3), order);
        }
    }

    private static void versionsOfTheirOwn() {
        RecordLeaves x = everyConstant();
        for (int i = 0; i < 60; i++) {
            due("hold", x.hold(i % 10, i / 30, i / 10 % 3, i % 10), i % 10);
            due("its kind", x.about(i % 10, 1), i / 30);
            due("its version", x.about(i % 10, 2), i / 10 % 3);
        }
        RecordLeaves y = new RecordLeaves();
        y.constant(0, 1, 5, true);
        for (int kind = 0; kind < 2; kind++) {
            for (int version = 0; version < 3; version++) {
                due("a name that one alone has", y.hold(0, kind, version, 5), kind == 0 && version == 1 ? 0 : NONE);
            }
        }
    }

    private static void fiveParts() {
        for (int i = 0; i < 12; i++) {
            int kind = 2 + i / 3, version = i % 3;
            RecordLeaves x = new RecordLeaves();
            for (int p = 0; p < 5; p++) {
                due("part " + p, x.part(kind, version, p, LONG, 0), p);
                x.make(kind, version, 0);
                due("how many there are", x.about(0, 3), p + 1);
            }
            for (int name = 5; name < 10; name++) {
                due("a sixth part", x.part(kind, version, name, INT, 0), FULL);
            }
            x.make(kind, version, 0);
            due("how many there are", x.about(0, 3), 5);
            due("a part of another version", x.part(kind, (version + 1) % 3, 9, INT, 0), 0);
        }
    }

    private static void partNames() {
        edges("part, the name", RecordLeaves::new, (x, i) -> x.part(5, 2, i, ROW, 0), 0, 9, i -> 0);
        for (int name = 0; name < 10; name++) {
            RecordLeaves x = new RecordLeaves();
            due("a name for the first time", x.part(3, 1, name, INT, 0), 0);
            for (int sort = 0; sort < 5; sort++) {
                due("it for the second time", x.part(3, 1, name, sort, sort == RECORD ? 3 : 1), BAD);
            }
            due("it in another version", x.part(3, 2, name, INT, 0), 0);
            due("it in another kind", x.part(4, 1, name, INT, 0), 0);
            due("another name", x.part(3, 1, (name + 1) % 10, INT, 0), 1);
        }
    }

    private static void sorts() {
        int[] of = {7, 7, 1, 5, 7};
        edges("part, the sort", RecordLeaves::new, (x, i) -> x.part(2, 0, 0, i, i >= 0 && i < 5 ? of[i] : 2), 0, 4, i -> 0);
    }

    private static void ofNotLookedAt() {
        for (int sort : new int[] {INT, LONG, ROW}) {
            for (int of : new int[] {-1, 0, 1, 2, 5, 6, LOW, HIGH}) {
                due("sort " + sort + " of " + of, new RecordLeaves().part(2, 0, 0, sort, of), 0);
            }
        }
    }

    private static long makeOne(RecordLeaves x, int p, long number) {
        x.give(p, number, 0);
        return x.make(2, 0, 5);
    }

    private static void numbersOfMakings() {
        for (long number : new long[] {0, -1, LOW, HIGH}) {
            RecordLeaves x = everySort();
            due("int " + number, makeOne(x, 0, number), 0);
            due("int " + number, x.number(5, 0), number);
        }
        for (long number : new long[] {LOW - 1L, HIGH + 1L, BEYOND, -BEYOND, BEYOND + 1, LOWEST, HIGHEST}) {
            RecordLeaves x = everySort();
            due("int " + number, makeOne(x, 0, number), OWN);
            due("int " + number, x.about(5, 0), 0);
            due("long " + number, makeOne(everySort(), 1, number), 0);
            x = everySort();
            makeOne(x, 1, number);
            due("long " + number, x.number(5, 1), number);
        }
    }

    private static void twoChecks() {
        int[] a = {0, 0, 4, 3, 2};
        for (int how = 0; how < 5; how++) {
            RecordLeaves x = everySort();
            due("the first check, how " + how, x.check(2, 0, how, a[how], 0), 0);
            due("the second check", x.check(2, 0, 0, 0, 0), 1);
            for (int third = 0; third < 5; third++) {
                due("a third check, how " + third, x.check(2, 0, third, a[third], 0), FULL);
            }
        }
        RecordLeaves x = everyKind();
        x.check(2, 0, 0, 0, 0);
        x.check(2, 0, 0, 0, 0);
        due("a third one", x.check(2, 0, 1, 0, 0), FULL);
        due("what is refused is not checked", x.make(2, 0, 1), 0);
        due("another version's", x.check(2, 1, 1, 0, 0), 0);
        due("another kind's", x.check(3, 0, 1, 0, 0), 0);
    }

    private static void hows() {
        int[] a = {0, 0, 4, 3, 2};
        Supplier<RecordLeaves> start = BoundaryTests::everySort;
        edges("check, how", start, (x, i) -> x.check(2, 0, i, i >= 0 && i < 5 ? a[i] : 0, 0), 0, 4, i -> 0);
        for (int how = 0; how < 5; how++) {
            int h = how;
            edges("check, a of how " + h, start, (x, i) -> x.check(2, 0, h, i, 0), a[h], a[h], i -> 0);
            if (how != 1) {
                edges("check, b of how " + h, start, (x, i) -> x.check(2, 0, h, a[h], i), 0, 0, i -> 0);
            }
        }
    }

    /** Parts that there are not: the last that there is, and the next, for as many parts as may be. */
    private static void partsOfChecks() {
        for (int parts = 0; parts <= 5; parts++) {
            int n = parts;
            Supplier<RecordLeaves> start = () -> {
                RecordLeaves x = new RecordLeaves();
                for (int p = 0; p < n; p++) {
                    x.part(4, 2, p, INT, 0);
                }
                return x;
            };
            edges("check, a of " + n + " parts", start, (x, i) -> x.check(4, 2, 1, i, 0), 0, n - 1, i -> 0);
            if (n > 0) {
                edges("check, a of " + n + " parts", start, (x, i) -> x.check(4, 2, 0, i, 0), 0, n - 1, i -> 0);
                edges("check, b of " + n + " parts", start, (x, i) -> x.check(4, 2, 0, 0, i), 0, n - 1, i -> 0);
            }
        }
    }

    /** Kind 4, version 0: part 0 an INT, part 1 what the check wants, which is of enum 0 or kind 5. */
    private static RecordLeaves withCheck(int how) {
        RecordLeaves x = everyConstant();
        int[] sorts = {INT, INT, ROW, RECORD, CONSTANT};
        x.part(4, 0, 0, INT, 0);
        x.part(4, 0, 1, sorts[how], how == 3 ? 5 : 0);
        x.check(4, 0, how, 1, 0);
        return x;
    }

    /** A record is made of b, for part 0, and of a number and a place, for part 1. */
    private static void dueMake(String what, RecordLeaves x, long b, long a, int place, int why) {
        x.give(0, b, 0);
        x.give(1, a, place);
        x.row(8, 3);
        int made = x.count(0);
        due(what + " with " + a + ", " + b, x.make(4, 0, 8), why);
        due(what + " with " + a + ", " + b + ", cause(0)", x.cause(0), why);
        due(what + " with " + a + ", " + b + ", the place", x.about(8, 0), why == 0 ? 4 : 3);
        due(what + " with " + a + ", " + b + ", count(0)", x.count(0), why == 0 ? made + 1 : made);
    }

    private static void checkAtMost() {
        long[] bs = {5, 0, -1, LOW, LOW + 1, HIGH, HIGH - 1};
        for (long b : bs) {
            for (long a : new long[] {b - 1, b, b + 1, LOW, HIGH, 0}) {
                if (a == (int) a) {
                    dueMake("at most", withCheck(0), b, a, 0, a <= b ? 0 : OWN);
                }
            }
        }
    }

    private static void checkDivides() {
        for (int a : new int[] {1, 2, 4, 5, 10, 20, 25, 50, 100}) {
            dueMake("divides", withCheck(1), 0, a, 0, 0);
            dueMake("divides", withCheck(1), 0, -a, 0, 0);
        }
        for (int a : new int[] {3, 6, 24, 26, 49, 51, 99, 101, 200, HIGH, LOW, LOW + 1}) {
            dueMake("does not divide", withCheck(1), 0, a, 0, OWN);
            dueMake("does not divide", withCheck(1), 0, -a == a ? -3 : -a, 0, OWN);
        }
        dueMake("zero", withCheck(1), 0, 0, 0, ZERO);
        for (int b : new int[] {-1, 1, 2, 3, 4, 5, LOW, HIGH}) {
            due("b is not looked at", everySort().check(2, 0, 1, 0, b), 0);
        }
    }

    private static void checkItem() {
        for (int n = 0; n <= 8; n++) {
            RecordLeaves x = withCheck(2);
            x.row(7, n);
            for (int i = 0; i < n; i++) {
                x.item(7, i, 1);
            }
            for (int i = 0; i < n; i++) {
                dueMake("item " + i + " of " + n, x, i, 0, 7, 0);
            }
            for (long i : new long[] {-1, n, LOW, HIGH}) {
                dueMake("item " + i + " of " + n, x, i, 0, 7, INDEX);
            }
        }
        for (int v : new int[] {LOW, -1, 0, 1, 2, HIGH}) {
            RecordLeaves x = withCheck(2);
            x.row(7, 2);
            x.item(7, 1, v);
            dueMake("an item that is " + v, x, 1, 0, 7, v > 0 ? 0 : OWN);
        }
        dueMake("nothing", withCheck(2), -1, 0, 7, NULL);
    }

    private static void checkPartIs() {
        dueMake("nothing", withCheck(3), 0, 0, 7, NULL);
        RecordLeaves x = withCheck(3);
        x.make(5, 0, 7);
        dueMake("no part 0", x, 0, 0, 7, INDEX);
        x.part(5, 0, 4, LONG, 0);
        dueMake("no part 0 when it was made", x, 0, 0, 7, INDEX);
        for (long number : new long[] {0, 6, -6, LOW, HIGH}) {
            x.give(0, number, 0);
            x.make(5, 0, 7);
            dueMake("part 0 is " + number, x, number, 0, 7, 0);
            dueMake("part 0 is " + number, x, number == HIGH ? 0 : number + 1, 0, 7, OWN);
            dueMake("part 0 is " + number, x, number == LOW ? 0 : number - 1, 0, 7, OWN);
            x.give(0, number + BEYOND, 0);
            x.make(5, 0, 7);
            dueMake("part 0 is " + (number + BEYOND), x, number, 0, 7, OWN);
        }
        for (int sort = CONSTANT; sort <= ROW; sort++) {
            RecordLeaves y = withCheck(3);
            y.part(5, 0, 4, sort, sort == RECORD ? 5 : 0);
            y.make(5, 0, 7);
            dueMake("part 0 of sort " + sort + " is nothing", y, 0, 0, 7, CAST);
            y.hold(1, 0, 0, 0);
            y.share(2, 7);
            y.row(3, 1);
            y.give(0, 0, sort - 1);
            due("one with a thing in it", y.make(5, 0, 7), 0);
            dueMake("part 0 of sort " + sort, y, 0, 0, 7, CAST);
        }
    }

    private static void checkOrder() {
        dueMake("nothing", withCheck(4), HIGH, 0, 7, NULL);
        for (int order = 0; order < 10; order++) {
            RecordLeaves x = withCheck(4);
            x.hold(7, 0, 0, order);
            for (long b : new long[] {order - 1, order, LOW, -1}) {
                dueMake("order " + order, x, b, 0, 7, OWN);
            }
            dueMake("order " + order, x, order + 1, 0, 7, 0);
            dueMake("order " + order, x, HIGH, 0, 7, 0);
        }
    }

    // ---- 2

    private static void placesOfCalls() {
        Supplier<RecordLeaves> rows = () -> {
            RecordLeaves x = everyConstant();
            for (int place = 0; place < 10; place++) {
                x.row(place, 8);
            }
            return x;
        };
        Supplier<RecordLeaves> records = () -> {
            RecordLeaves x = new RecordLeaves();
            x.part(2, 0, 0, ROW, 0);
            x.make(2, 0, 0);
            for (int place = 1; place < 10; place++) {
                x.share(place, 0);
            }
            return x;
        };
        edges("hold", BoundaryTests::everyConstant, (x, i) -> x.hold(i, 0, 0, 1), 0, 9, i -> 1);
        edges("row", RecordLeaves::new, (x, i) -> x.row(i, 0), 0, 9, i -> 1);
        edges("row of NONE", RecordLeaves::new, (x, i) -> x.row(i, NONE), 0, 9, i -> 1);
        edges("item", rows, (x, i) -> x.item(i, 7, 5), 0, 9, i -> 0);
        edges("share", rows, (x, i) -> x.share(i, 0), 0, 9, i -> 3);
        edges("share from", rows, (x, i) -> x.share(0, i), 0, 9, i -> 3);
        edges("give", RecordLeaves::new, (x, i) -> x.give(0, 0, i), 0, 9, i -> 1);
        edges("make", RecordLeaves::new, (x, i) -> x.make(5, 2, i), 0, 9, i -> 0);
        edges("about", rows, (x, i) -> x.about(i, 3), 0, 9, i -> 8);
        edges("take", records, (x, i) -> x.take(i, 0, 0), 0, 9, i -> 0);
        edges("take to", records, (x, i) -> x.take(0, 0, i), 0, 9, i -> 0);
        edges("like", rows, (x, i) -> x.like(i, 0), 0, 9, i -> 1);
        edges("like", rows, (x, i) -> x.like(0, i), 0, 9, i -> 1);
        edges("write", records, (x, i) -> x.write(i), 0, 9, i -> 5);
        edges("read", RecordLeaves::new, (x, i) -> x.read(0, i), 0, 9, i -> INDEX);
    }

    /** number() tells 0 beside the places, which edges() can't tell from a part that is 0. */
    private static void placesOfNumber() {
        RecordLeaves x = everyKind();
        x.give(0, 7, 0);
        for (int place = 0; place < 10; place++) {
            x.make(2, 0, place);
            due("number(" + place + ", 0)", x.number(place, 0), 7);
            due("status()", x.status(), 0);
        }
        for (int place : new int[] {-1, 10, LOW, HIGH}) {
            x.number(0, 0);
            due("number(" + place + ", 0)", x.number(place, 0), 0);
            due("status()", x.status(), BAD);
        }
    }

    private static void nothingAtFirst() {
        for (int place = 0; place < 10; place++) {
            RecordLeaves x = new RecordLeaves();
            due("family", x.about(place, 0), 0);
            due("kind", x.about(place, 1), NONE);
            due("version", x.about(place, 2), NONE);
            due("how many", x.about(place, 3), 0);
            due("item", x.item(place, 0, 1), BAD);
            due("number", x.number(place, 0), 0);
            due("status", x.status(), BAD);
            due("take", x.take(place, 0, 1), BAD);
            due("write", x.write(place), BAD);
            due("share", x.share((place + 1) % 10, place), 0);
            due("like", x.like((place + 1) % 10, place), 1);
            due("count(4)", x.count(4), 0);
        }
    }

    private static void severalTheSame() {
        RecordLeaves x = new RecordLeaves();
        x.row(0, 8);
        for (int place = 1; place < 10; place++) {
            due("share", x.share(place, 0), 3);
        }
        due("count(4)", x.count(4), 10);
        for (int place = 9; place >= 0; place--) {
            due("the item that the place before set", x.item(place, 7, place), place == 9 ? 0 : place + 1);
        }
        x.row(0, NONE);
        due("the others hold it", x.item(1, 7, 3), 0);
        due("count(4)", x.count(4), 9);
    }

    private static void rowSizes() {
        for (int n = 0; n <= 8; n++) {
            RecordLeaves x = new RecordLeaves();
            due("row of " + n, x.row(4, n), 1);
            due("family", x.about(4, 0), 3);
            due("how many", x.about(4, 3), n);
            for (int i = 0; i < n; i++) {
                due("all 0", x.item(4, i, i + 1), 0);
            }
        }
        for (int n : new int[] {-1, -2, -4, 9, 10, LOW, HIGH}) {
            RecordLeaves x = new RecordLeaves();
            due("row of " + n, x.row(4, n), BAD);
            due("family", x.about(4, 0), 0);
        }
        RecordLeaves x = new RecordLeaves();
        x.row(4, 8);
        due("NOTHING", x.row(4, NONE), 1);
        due("NOTHING", x.about(4, 0), 0);
        due("NOTHING where it was", x.row(4, NONE), 1);
    }

    private static void newRows() {
        for (int n = 1; n <= 8; n++) {
            RecordLeaves x = new RecordLeaves();
            x.row(4, n);
            x.item(4, n - 1, 6);
            x.share(5, 4);
            x.row(4, n);
            due("the new one's last item", x.item(4, n - 1, 7), 0);
            due("the other one's last item", x.item(5, n - 1, 8), 6);
            due("the new one's last item", x.item(4, n - 1, 0), 7);
        }
    }

    private static void itemsOfRows() {
        for (int n = 0; n <= 8; n++) {
            int size = n;
            Supplier<RecordLeaves> start = () -> {
                RecordLeaves x = new RecordLeaves();
                x.row(6, size);
                return x;
            };
            edges("item of " + n, start, (x, i) -> x.item(6, i, 5), 0, n - 1, i -> 0);
        }
        RecordLeaves x = new RecordLeaves();
        x.row(6, 8);
        int was = 0;
        for (int v : new int[] {BAD, FULL, NONE, LOW, HIGH, 0, 1}) {
            due("which it was", x.item(6, 7, v), was);
            due("the one before", x.item(6, 6, 0), 0);
            was = v;
        }
    }

    private static void itemsOfOthers() {
        RecordLeaves x = everyThing();
        for (int place : new int[] {0, 1, 2, 4}) {
            due("item(" + place + ", 0, 1)", x.item(place, 0, 1), BAD);
        }
    }

    private static void partsWhenMade() {
        RecordLeaves x = new RecordLeaves();
        for (int p = 0; p < 5; p++) {
            x.give(p, 0, 9);
        }
        for (int n = 0; n <= 5; n++) {
            due("make", x.make(3, 2, n), 0);
            if (n < 5) {
                due("one part more", x.part(3, 2, n, n % 2 == 0 ? LONG : ROW, 0), n);
            }
        }
        for (int n = 0; n <= 5; n++) {
            due("how many parts", x.about(n, 3), n);
            due("write", x.write(n), 2 + 3 * n);
            due("how many parts are written", x.leaf(1), n);
            for (int p = -1; p <= 5; p++) {
                boolean there = p >= 0 && p < n;
                due("number(" + n + ", " + p + ")", x.number(n, p), there && p % 2 == 1 ? -10 : 0);
                due("status()", x.status(), there ? 0 : BAD);
                due("take(" + n + ", " + p + ")", x.take(n, p, 9), there && p % 2 == 1 ? 0 : BAD);
            }
            for (int m = 0; m <= 5; m++) {
                due("like(" + n + ", " + m + ")", x.like(n, m), n == m ? 1 : 0);
            }
        }
    }

    private static void families() {
        RecordLeaves x = everyThing();
        int[] want = {0, 1, 2, 3, 4};
        for (int place = 0; place < 5; place++) {
            due("about(" + place + ", 0)", x.about(place, 0), want[place]);
            due("share(9, " + place + ")", x.share(9, place), want[place]);
        }
        due("a constant in it", x.number(4, 2), 2 - 10);
        due("a record in it", x.number(4, 3), 4 - 10);
        due("a row in it", x.number(4, 4), 3 - 10);
        x.take(4, 3, 8);
        due("nothing in it", x.number(8, 2), 0 - 10);
        x.give(2, 0, 1);
        x.make(2, 0, 8);
        due("a plain constant in it", x.number(8, 2), 1 - 10);
    }

    private static void makingCast() {
        int[][] want = {{0, 0, 0, CAST, CAST}, {0, CAST, CAST, CAST, 0}, {0, CAST, CAST, 0, CAST}};
        for (int p = 2; p < 5; p++) {
            for (int place = 0; place < 5; place++) {
                RecordLeaves x = everyThing();
                x.give(p, HIGHEST, place);
                due("part " + p + " of what place " + place + " holds", x.make(2, 0, 9), want[p - 2][place]);
                due("the place", x.about(9, 0), want[p - 2][place] == 0 ? 4 : 0);
            }
        }
        for (int place = 0; place < 5; place++) {
            RecordLeaves x = everyThing();
            x.give(0, 1, place);
            x.give(1, 1, place);
            due("a thing for a number is not looked at", x.make(2, 0, 9), 0);
        }
    }

    private static void makingOwn() {
        for (int kind = 0; kind < 2; kind++) {
            for (int version = 0; version < 3; version++) {
                RecordLeaves x = everyConstant();
                x.part(3, 1, 0, CONSTANT, 1);
                x.hold(0, kind, version, 9);
                due("a constant of " + kind + ", " + version, x.make(3, 1, 1), kind == 1 && version == 1 ? 0 : OWN);
            }
        }
        for (int kind = 2; kind < 6; kind++) {
            for (int version = 0; version < 3; version++) {
                RecordLeaves x = new RecordLeaves();
                x.part(3, 1, 0, RECORD, 4);
                x.give(0, 0, 7);
                x.make(kind, version, 0);
                x.give(0, 0, 0);
                due("a record of " + kind + ", " + version, x.make(3, 1, 1), kind == 4 && version == 1 ? 0 : OWN);
            }
        }
    }

    private static void partByPart() {
        RecordLeaves x = everySort();
        x.check(2, 0, 1, 0, 0);
        x.make(3, 0, 1);
        x.give(2, 0, 1);
        x.give(3, 0, 1);
        x.give(0, BEYOND, 0);
        due("own of part 0 before cast of part 2", x.make(2, 0, 9), OWN);
        x.give(0, 0, 0);
        due("cast of part 2 before own of part 3", x.make(2, 0, 9), CAST);
        x.give(2, 0, 0);
        due("own of part 3 before the check", x.make(2, 0, 9), OWN);
        x.give(3, 0, 0);
        x.give(4, 0, 1);
        due("cast of part 4 before the check", x.make(2, 0, 9), CAST);
        x.give(4, 0, 0);
        due("the check", x.make(2, 0, 9), ZERO);
        x.give(0, 100, 0);
        due("all hold", x.make(2, 0, 9), 0);
    }

    private static void checkByCheck() {
        RecordLeaves x = everySort();
        x.check(2, 0, 2, 4, 0);
        x.check(2, 0, 1, 0, 0);
        due("null before zero", x.make(2, 0, 9), NULL);
        x.row(1, 1);
        x.give(4, 0, 1);
        due("own before zero", x.make(2, 0, 9), OWN);
        x.give(0, 1, 0);
        due("index before what holds", x.make(2, 0, 9), INDEX);
        x.give(0, 0, 0);
        x.item(1, 0, 1);
        due("zero of the second", x.make(2, 0, 9), ZERO);
        RecordLeaves y = everySort();
        y.check(2, 0, 1, 0, 0);
        y.check(2, 0, 2, 4, 0);
        due("zero before null", y.make(2, 0, 9), ZERO);
        y.give(0, 3, 0);
        due("own before null", y.make(2, 0, 9), OWN);
        y.give(0, 1, 0);
        due("null of the second", y.make(2, 0, 9), NULL);
    }

    private static void whatTheVersionHasNow() {
        RecordLeaves x = everyKind();
        due("made before there is a check", x.make(2, 0, 1), 0);
        x.check(2, 0, 1, 0, 0);
        due("made behind it", x.make(2, 0, 2), ZERO);
        due("the one before is held", x.number(1, 0), 0);
        due("status()", x.status(), 0);
        x.give(1, BEYOND, 0);
        x.give(0, 1, 0);
        due("one part", x.make(2, 0, 2), 0);
        x.part(2, 0, 1, INT, 0);
        due("two parts", x.make(2, 0, 3), OWN);
        due("another version's", x.make(2, 1, 3), 0);
    }

    private static void likeTheSame() {
        RecordLeaves x = everyThing();
        for (int a = 0; a < 5; a++) {
            x.share(9, a);
            for (int b = 0; b < 5; b++) {
                due("like(9, " + b + ") of " + a, x.like(9, b), a == b ? 1 : 0);
                due("like(" + b + ", 9) of " + a, x.like(b, 9), a == b ? 1 : 0);
            }
        }
        due("both nothing", x.like(0, 7), 1);
    }

    private static void likeRows() {
        RecordLeaves x = new RecordLeaves();
        for (int n = 0; n <= 8; n++) {
            for (int m = 0; m <= 8; m++) {
                x.row(0, n);
                x.row(1, m);
                due("rows of " + n + " and " + m, x.like(0, 1), n == m ? 1 : 0);
            }
        }
        RecordLeaves y = new RecordLeaves();
        y.row(0, 8);
        y.row(1, 8);
        for (int i = 0; i < 8; i++) {
            for (int v : new int[] {1, -1, LOW, HIGH}) {
                y.item(1, i, v);
                due("item " + i + " is another", y.like(0, 1), 0);
            }
            y.item(1, i, 0);
            due("item " + i + " is the same", y.like(0, 1), 1);
        }
    }

    private static void likeRecords() {
        RecordLeaves x = new RecordLeaves();
        for (int i = 0; i < 12; i++) {
            for (int j = 0; j < 12; j++) {
                x.make(2 + i / 3, i % 3, 0);
                x.make(2 + j / 3, j % 3, 1);
                due("kinds and versions " + i + ", " + j, x.like(0, 1), i == j ? 1 : 0);
            }
        }
        RecordLeaves y = new RecordLeaves();
        for (int p = 0; p < 5; p++) {
            y.part(2, 0, p, LONG, 0);
        }
        y.make(2, 0, 0);
        for (int p = 0; p < 5; p++) {
            for (long v : new long[] {1, -1, BEYOND, LOWEST, HIGHEST}) {
                y.give(p, v, 0);
                y.make(2, 0, 1);
                due("number " + p + " is " + v, y.like(0, 1), 0);
            }
            y.give(p, 0, 0);
            y.make(2, 0, 1);
            due("number " + p + " is the same", y.like(0, 1), 1);
        }
    }

    private static void likeThingsInThem() {
        RecordLeaves x = everyThing();
        x.take(4, 3, 9);
        x.row(6, 8);
        x.row(7, 0);
        x.give(3, 0, 9);
        x.give(4, 0, 6);
        x.make(2, 0, 5);
        due("rows in them are like", x.like(4, 5), 1);
        x.item(6, 7, 1);
        due("rows in them are not", x.like(4, 5), 0);
        x.give(4, 0, 7);
        x.make(2, 0, 5);
        x.give(4, 0, 0);
        x.make(2, 0, 8);
        due("a row of 0 and nothing", x.like(5, 8), 0);
        x.give(2, 0, 1);
        x.make(2, 0, 5);
        due("constants in them are not the same", x.like(5, 8), 0);
        x.give(2, 0, 0);
        x.make(2, 0, 8);
        due("a constant and nothing", x.like(5, 8), 0);
        x.make(2, 0, 5);
        due("nothing both", x.like(5, 8), 1);
    }

    /** Two chains of records, each within the one made behind it; their innermost ones are two, or the same. */
    private static RecordLeaves chains(int records, boolean sameInnermost) {
        RecordLeaves x = new RecordLeaves();
        x.part(2, 0, 0, RECORD, 2);
        x.part(2, 0, 1, ROW, 0);
        x.row(6, 1);
        x.row(7, 1);
        for (int chain = 1; chain <= 2; chain++) {
            x.give(0, 0, 0);
            x.give(1, 0, 5 + chain);
            x.make(2, 0, chain);
            if (chain == 2 && sameInnermost) {
                x.share(2, 3);
            }
            x.share(2 + chain, chain);
            x.give(1, 0, 0);
            for (int i = 1; i < records; i++) {
                x.give(0, 0, chain);
                x.make(2, 0, chain);
            }
        }
        return x;
    }

    private static void likeWithinSix() {
        for (int records = 1; records <= 12; records++) {
            RecordLeaves x = chains(records, false);
            due(records + " records", x.like(1, 2), records <= 6 ? 1 : 0);
            x.item(7, 0, 1);
            due(records + " records, with another row in the innermost", x.like(1, 2), 0);
            due(records + " records, the same innermost", chains(records, true).like(1, 2), records <= 7 ? 1 : 0);
        }
    }

    // ---- 3

    private static void leavesBySet() {
        RecordLeaves x = new RecordLeaves();
        for (int k = 0; k < 250; k++) {
            due("set(" + k + ")", x.set(k, LOWEST + k), k + 1);
        }
        due("set(250)", x.set(250, 1), FULL);
        due("set(251)", x.set(251, 1), BAD);
        due("set(-1)", x.set(-1, 1), BAD);
        due("count(3)", x.count(3), 250);
        due("leaf(249)", x.leaf(249), LOWEST + 249);
        due("leaf(250)", x.leaf(250), 0);
        due("status()", x.status(), BAD);
        due("set(249)", x.set(249, HIGHEST), 250);
        due("leaf(249)", x.leaf(249), HIGHEST);
        due("leaf(248)", x.leaf(248), LOWEST + 248);
        x.cut(249);
        due("set(250) of 249", x.set(250, 1), BAD);
        due("set(249) of 249", x.set(249, 7), 250);
        due("set(250) of 250", x.set(250, 1), FULL);
    }

    /** Place 2 is due to hold a record of 245 leaves and the items of the row that place 9 holds. */
    private static RecordLeaves longRecord(int items) {
        RecordLeaves x = new RecordLeaves();
        for (int name = 0; name < 5; name++) {
            x.part(2, 0, name, name < 4 ? RECORD : ROW, 3);
            x.part(3, 0, name, ROW, 0);
            x.give(name, 0, 1);
        }
        x.row(1, 8);
        x.item(1, 7, 6);
        x.make(3, 0, 2);
        for (int p = 0; p < 4; p++) {
            x.give(p, 0, 2);
        }
        x.give(4, 0, 9);
        x.row(9, items);
        for (int i = 0; i < items; i++) {
            x.item(9, i, 10 + i);
        }
        due("the record is made", x.make(2, 0, 2), 0);
        return x;
    }

    private static void leavesByWrite() {
        for (int items = 0; items <= 8; items++) {
            RecordLeaves x = longRecord(items);
            x.set(0, 77);
            x.set(1, 78);
            boolean fits = items <= 5;
            due(245 + items + " leaves", x.write(2), fits ? 245 + items : FULL);
            due("count(3)", x.count(3), fits ? 245 + items : 2);
            due("leaf(0)", x.leaf(0), fits ? 2 : 77);
            due("leaf(1)", x.leaf(1), fits ? 5 : 78);
            due("the last leaf", x.leaf(x.count(3) - 1), fits ? items == 0 ? 0 : 9 + items : 78);
            if (fits) {
                due("read back", x.read(0, 5), 0);
                due("like", x.like(2, 5), 1);
            }
        }
    }

    private static void leavesOfChains() {
        RecordLeaves x = new RecordLeaves();
        x.part(3, 0, 7, RECORD, 3);
        for (int records = 1; records <= 60; records++) {
            x.make(3, 0, 0);
            due(records + " records", x.write(0), records <= 50 ? 5 * records : FULL);
            due("count(3)", x.count(3), 5 * Math.min(records, 50));
        }
        due("the last flag", x.leaf(249), 0);
        due("the last but one", x.leaf(244), 1);
    }

    /** Records of five records each: how many leaves they would take soon goes beyond a long, but the call ends. */
    private static void leavesOfForks() {
        RecordLeaves x = new RecordLeaves();
        for (int name = 0; name < 5; name++) {
            x.part(3, 0, name, RECORD, 3);
        }
        int[] want = {17, 2 + 15 + 5 * 17, FULL, FULL};
        for (int i = 0; i < 4; i++) {
            x.make(3, 0, 0);
            due("write", x.write(0), want[i]);
        }
        for (int i = 0; i < 100; i++) {
            x.make(3, 0, 0);
        }
        due("write", x.write(0), FULL);
        due("count(3)", x.count(3), 102);
    }

    private static void written(String what, RecordLeaves x, int place, long... leaves) {
        due(what, x.write(place), leaves.length);
        due(what + ", count(3)", x.count(3), leaves.length);
        for (int k = 0; k < leaves.length; k++) {
            due(what + ", leaf(" + k + ")", x.leaf(k), leaves[k]);
        }
    }

    private static void writtenForms() {
        RecordLeaves x = everySort();
        x.make(5, 2, 1);
        written("no parts", x, 1, 5, 0);
        x.make(2, 0, 1);
        written("nothing in it", x, 1, 2, 5, 5, 0, 0, 6, 1, 0, 7, 2, -1, 8, 3, 0, 9, 4, -1);
        x.hold(2, 0, 0, 0);
        x.row(3, 0);
        x.give(0, LOW, 0);
        x.give(1, LOWEST, 0);
        x.give(2, 0, 2);
        x.give(4, 0, 3);
        x.make(2, 0, 4);
        written("a row of 0, name 0", x, 4, 2, 5, 5, 0, LOW, 6, 1, LOWEST, 7, 2, 0, 8, 3, 0, 9, 4, 0);
        x.hold(2, 0, 0, 9);
        x.row(3, 8);
        x.item(3, 0, LOW);
        x.item(3, 7, HIGH);
        x.give(0, HIGH, 0);
        x.give(1, HIGHEST, 0);
        x.make(5, 0, 6);
        x.make(2, 0, 4);
        written("a row of 8, name 9", x, 4,
            2, 5, 5, 0, HIGH, 6, 1, HIGHEST, 7, 2, 9, 8, 3, 0, 9, 4, 8, LOW, 0, 0, 0, 0, 0, 0, HIGH);
        x.part(3, 0, 0, RECORD, 5);
        x.give(0, 0, 6);
        x.make(3, 0, 7);
        written("a record in it", x, 7, 3, 1, 0, 3, 1, 5, 0);
    }

    private static void writtenOnlyRecords() {
        RecordLeaves x = everyThing();
        x.set(0, 4);
        for (int place : new int[] {-1, 0, 1, 2, 3, 10, LOW, HIGH}) {
            due("write(" + place + ")", x.write(place), BAD);
            due("count(3)", x.count(3), 1);
        }
        due("write(4)", x.write(4), 42);
    }

    private static void readKind() {
        for (long kind = 2; kind <= 5; kind++) {
            RecordLeaves x = everySort();
            taken("kind " + kind, x, kind, 0);
            due("its kind", x.about(9, 1), kind);
            taken("kind " + kind + " gone through", everySort(), 2, 1, 0, 3, 1, kind, 0);
        }
        for (long kind : new long[] {1, 6, 0, -1, -2, BEYOND + 2, LOWEST, HIGHEST}) {
            fails("kind " + kind, OWN, 0, 1, everySort(), kind, 0);
            fails("kind " + kind + " within", OWN, 5, 2, everySort(), 2, 1, 8, 3, 1, kind, 0);
            fails("kind " + kind + " gone through", OWN, 5, 2, everySort(), 2, 1, 0, 3, 1, kind, 0);
        }
    }

    private static void readHowMany() {
        for (long n : new long[] {0, -1, -2, -BEYOND + 1, LOWEST}) {
            RecordLeaves x = everySort();
            taken(n + " parts", x, 2, n, 5, 0, 4);
            due("none came", x.number(9, 0), 0);
            taken(n + " parts", x, 2, n);
            taken(n + " parts gone through", x, 2, 2, 0, 3, 1, 3, n, 5, 0, 6);
            due("what is behind them", x.number(9, 0), 6);
        }
        RecordLeaves x = everySort();
        taken("1 part", x, 2, 1, 5, 0, 4, 5, 0);
        due("it came", x.number(9, 0), 4);
        taken("2 parts", x, 2, 2, 5, 0, 4, 5, 0, 6);
        due("they came", x.number(9, 0), 6);
        for (long n : new long[] {3, 249, 250, 251, HIGH, BEYOND, BEYOND + 2, HIGHEST}) {
            fails(n + " parts", INDEX, 8, 1, everySort(), 2, n, 5, 0, 4, 5, 0, 6);
        }
        fullTape();
    }

    /** As many parts as 250 leaves can hold, and the beginning of one more. */
    private static void fullTape() {
        long[] leaves = new long[250];
        leaves[0] = 2;
        leaves[1] = 82;
        for (int k = 2; k < 248; k++) {
            leaves[k] = new long[] {9, ROW, 0}[(k - 2) % 3];
        }
        leaves[248] = 9;
        leaves[249] = ROW;
        taken("82 parts", everySort(), leaves);
        leaves[1] = 83;
        fails("83 parts", INDEX, 250, 1, everySort(), leaves);
    }

    private static void readSort() {
        for (int sort = 0; sort < 5; sort++) {
            for (int name = 5; name < 10; name++) {
                if (sort == name - 5) {
                    taken("name " + name + ", sort " + sort, everySort(), 2, 1, name, sort, 0);
                } else {
                    fails("name " + name + ", sort " + sort, CAST, 3, 1, everySort(), 2, 1, name, sort);
                }
            }
            taken("no such name, sort " + sort, everySort(), 2, 1, 4, sort, 0);
            taken("gone through, sort " + sort, everySort(), 2, 1, 4, 3, 1, 2, 1, 5, sort, 0);
        }
        for (long sort : new long[] {-1, 5, 6, BEYOND, BEYOND + 4, LOWEST, HIGHEST}) {
            fails("name 5, sort " + sort, OWN, 3, 1, everySort(), 2, 1, 5, sort, 0);
            fails("no such name, sort " + sort, OWN, 3, 1, everySort(), 2, 1, 4, sort, 0);
            fails("gone through, sort " + sort, OWN, 8, 2, everySort(), 2, 1, 4, 3, 1, 2, 1, 5, sort, 0);
        }
    }

    private static void readName() {
        RecordLeaves x = new RecordLeaves();
        x.part(2, 0, 0, INT, 0);
        x.part(2, 0, 9, INT, 0);
        taken("names 0, 9", x, 2, 2, 0, 0, 4, 9, 0, 5);
        due("name 0", x.number(9, 0), 4);
        due("name 9", x.number(9, 1), 5);
        for (long name : new long[] {-1, 1, 8, 10, BEYOND, BEYOND + 9, -BEYOND, LOWEST, HIGHEST}) {
            taken("name " + name, x, 2, 1, name, 1, 4);
            due("none came", x.number(9, 0) + x.number(9, 1), 0);
        }
    }

    private static void readLatest() {
        RecordLeaves x = everySort();
        taken("numbers", x, 2, 4, 5, 0, BEYOND, 6, 1, 1, 5, 0, 3, 6, 1, 2);
        due("the latest int", x.number(9, 0), 3);
        due("the latest long", x.number(9, 1), 2);
        fails("the latest is beyond 32 bits", OWN, 7, 1, x, 2, 2, 5, 0, 3, 5, 0, BEYOND);
        taken("things, then nothing", x, 2, 6, 7, 2, 9, 8, 3, 1, 2, 0, 9, 4, 0, 7, 2, -1, 8, 3, 0, 9, 4, -1);
        for (int p = 2; p < 5; p++) {
            due("nothing is the latest", x.number(9, p), -10);
        }
        taken("nothing, then things", x, 2, 6, 7, 2, -1, 8, 3, 0, 9, 4, -1, 7, 2, 9, 8, 3, 1, 2, 0, 9, 4, 0);
        for (int p = 2; p < 5; p++) {
            due("the thing is the latest", x.number(9, p), new int[] {-8, -6, -7}[p - 2]);
        }
        fails("an earlier one that is none fails", ILLEGAL, 4, 1, x, 2, 2, 7, 2, 5, 7, 2, 0);
    }

    private static void readGoneThrough() {
        RecordLeaves x = everySort();
        x.check(2, 0, 1, 0, 0);
        taken("a constant that there is not", x, 3, 1, 0, 2, 8);
        taken("an int beyond 32 bits", x, 3, 1, 0, 0, BEYOND);
        int made = x.count(0);
        taken("a record whose check would fail", x, 3, 1, 0, 3, 1, 2, 0);
        due("one alone was made", x.count(0), made + 1);
        taken("parts of other sorts in it", x, 3, 1, 0, 3, 1, 2, 1, 5, 4, 0);
        fails("the same where it is wanted", ZERO, 1, 1, x, 2, 0);
        fails("a row of -2", SIZE, 4, 1, x, 3, 1, 0, 4, -2);
        fails("a row of 9", OWN, 4, 1, x, 3, 1, 0, 4, 9);
        fails("a leaf that there is not", INDEX, 4, 1, x, 3, 1, 0, 2);
        fails("a kind", OWN, 5, 2, x, 3, 1, 0, 3, 1, 6);
        fails("a sort", OWN, 8, 2, x, 3, 1, 0, 3, 1, 2, 1, 5, 5);
        RecordLeaves y = everySort();
        taken("behind it the next part", y, 2, 2, 0, 3, 1, 3, 1, 5, 0, 7, 5, 0, 8);
        due("the next part", y.number(9, 0), 8);
    }

    private static void readInt() {
        for (long number : new long[] {LOW, HIGH, -1}) {
            RecordLeaves x = everySort();
            taken("int " + number, x, 2, 1, 5, 0, number);
            due("int " + number, x.number(9, 0), number);
        }
        for (long number : new long[] {LOW - 1L, HIGH + 1L, BEYOND, LOWEST, HIGHEST}) {
            fails("int " + number, OWN, 4, 1, everySort(), 2, 1, 5, 0, number);
            fails("int " + number + ", a part behind it", OWN, 7, 1, everySort(), 2, 2, 5, 0, number, 6, 1, 0);
            RecordLeaves x = everySort();
            taken("long " + number, x, 2, 1, 6, 1, number);
            due("long " + number, x.number(9, 1), number);
        }
    }

    private static void readConstant() {
        RecordLeaves x = everySort();
        taken("-1", x, 2, 1, 7, 2, -1);
        due("nothing", x.number(9, 2), -10);
        taken("name 0", x, 2, 1, 7, 2, 0);
        due("a constant", x.number(9, 2), -9);
        taken("name 9", x, 2, 1, 7, 2, 9);
        due("a loud constant", x.number(9, 2), -8);
        x.take(9, 2, 1);
        x.hold(2, 0, 0, 9);
        due("the same constant", x.like(1, 2), 1);
        x.constant(1, 0, 4, false);
        x.constant(0, 1, 4, false);
        for (long name : new long[] {-2, 1, 4, 8, 10, BEYOND, BEYOND + 9, BEYOND - 1, LOWEST, HIGHEST}) {
            fails("name " + name, ILLEGAL, 4, 1, x, 2, 1, 7, 2, name);
            taken("name " + name + " gone through", x, 2, 1, 0, 2, name);
        }
    }

    private static void readRecord() {
        RecordLeaves x = everySort();
        taken("0", x, 2, 1, 8, 3, 0, 2, 0);
        due("nothing", x.number(9, 3), -10);
        for (long flag : new long[] {1, 2, -1, BEYOND, LOWEST, HIGHEST}) {
            taken("flag " + flag, x, 2, 1, 8, 3, flag, 2, 0);
            due("a record", x.number(9, 3), -6);
            taken("flag " + flag + " gone through", x, 2, 2, 0, 3, flag, 2, 0, 5, 0, 3);
            due("what is behind it", x.number(9, 0), 3);
        }
        fails("a record of another kind", OWN, 6, 1, x, 2, 1, 8, 3, 1, 3, 0);
    }

    private static void readRow() {
        for (int m = 0; m <= 8; m++) {
            long[] leaves = new long[8 + m];
            System.arraycopy(new long[] {2, 2, 9, 4, m}, 0, leaves, 0, 5);
            for (int i = 0; i < m; i++) {
                leaves[5 + i] = 20 + i;
            }
            System.arraycopy(new long[] {5, 0, 44}, 0, leaves, 5 + m, 3);
            RecordLeaves x = everySort();
            taken("a row of " + m, x, leaves);
            due("the part behind it", x.number(9, 0), 44);
            due("a row", x.take(9, 4, 1), 3);
            due("how many items", x.about(1, 3), m);
            for (int i = 0; i < m; i++) {
                due("item " + i, x.item(1, i, 0), 20 + i);
            }
            leaves[2] = 4;
            taken("a row of " + m + " gone through", x, leaves);
            due("the part behind it", x.number(9, 0), 44);
        }
        for (int name : new int[] {9, 4}) {
            for (long m : new long[] {-2, -3, -BEYOND, -BEYOND - 1, LOW, LOWEST}) {
                fails("a row of " + m, SIZE, 4, 1, everySort(), 2, 1, name, 4, m, 0, 0, 0, 0, 0, 0, 0, 0, 0, 0);
            }
            for (long m : new long[] {9, 10, BEYOND, BEYOND + 8, BEYOND - 1, HIGHEST}) {
                fails("a row of " + m, OWN, 4, 1, everySort(), 2, 1, name, 4, m, 0, 0, 0, 0, 0, 0, 0, 0, 0, 0);
            }
            RecordLeaves x = everySort();
            taken("no row", x, 2, 2, name, 4, -1, 5, 0, 44);
            due("nothing", x.number(9, 4), -10);
            due("the part behind it", x.number(9, 0), 44);
        }
    }

    private static void readItems() {
        RecordLeaves x = everySort();
        taken("a row of 8", x, 2, 1, 9, 4, 8, LOW, HIGH, LOW - 1L, HIGH + 1L, BEYOND, BEYOND - 1, LOWEST, HIGHEST);
        x.take(9, 4, 1);
        long[] want = {LOW, HIGH, HIGH, LOW, 0, -1, 0, -1};
        for (int i = 0; i < 8; i++) {
            due("item " + i, x.item(1, i, 0), want[i]);
        }
    }

    /** Wanted at each leaf of a record of every sort: cut before it, and whole. */
    private static void readIndex() {
        long[] whole = {2, 6, 5, 0, 1, 6, 1, 1, 7, 2, 9, 8, 3, 1, 2, 1, 9, 4, 1, 7, 9, 4, 2, 5, 5, 0, 3, 1, 4, 1, 0, 0, 3};
        for (int n = 0; n < whole.length; n++) {
            boolean within = n >= 14 && n < 20 || n >= 28;
            fails("cut at " + n, INDEX, n, within ? 2 : 1, everySort(), Arrays.copyOf(whole, n));
        }
        taken("whole", everySort(), whole);
    }

    /** So many records, each but the last with the next one as its part of a name. */
    private static long[] chain(int records, int name) {
        long[] leaves = new long[5 * records];
        for (int i = 0; i < records; i++) {
            leaves[5 * i] = 2;
            leaves[5 * i + 1] = 1;
            leaves[5 * i + 2] = name;
            leaves[5 * i + 3] = RECORD;
            leaves[5 * i + 4] = i < records - 1 ? 1 : 0;
        }
        return leaves;
    }

    private static void readDeep() {
        for (int name : new int[] {8, 3}) {
            for (int records = 1; records <= 9; records++) {
                if (records <= 6) {
                    taken(records + " records", everySort(), chain(records, name));
                } else {
                    fails(records + " records", DEEP, 29, 6, everySort(), chain(records, name));
                }
            }
            long[] cut = Arrays.copyOf(chain(7, name), 30);
            fails("it has not begun: its kind is not wanted", DEEP, 29, 6, everySort(), cut);
            cut[29] = 0;
            taken("nothing within five", everySort(), cut);
            fails("the sixth has begun", INDEX, 25, 6, everySort(), Arrays.copyOf(cut, 25));
        }
        for (int from = 1; from < 6; from++) {
            long[] leaves = chain(7, 8);
            leaves[5 * from + 2] = 3;
            fails("gone through from record " + from, DEEP, 29, 6, everySort(), leaves);
        }
        long[] beside = new long[2 + 40 * 5];
        beside[0] = 2;
        beside[1] = 40;
        for (int i = 0; i < 40; i++) {
            System.arraycopy(new long[] {i % 2 == 0 ? 8 : 3, 3, 1, 2, 0}, 0, beside, 2 + 5 * i, 5);
        }
        RecordLeaves x = everySort();
        taken("40 records beside one another", x, beside);
        due("made", x.count(0), 21);
    }

    private static void readAbsent() {
        RecordLeaves x = everyThing();
        x.give(0, 77, 0);
        x.give(1, 78, 0);
        taken("no parts", x, 2, 0);
        long[] want = {0, 0, -10, -10, -10};
        for (int p = 0; p < 5; p++) {
            due("number(9, " + p + ")", x.number(9, p), want[p]);
        }
        due("how many parts", x.about(9, 3), 5);
    }

    private static void readMaking() {
        RecordLeaves x = everySort();
        x.check(2, 0, 1, 0, 0);
        x.check(2, 0, 2, 4, 0);
        taken("both checks hold", x, 2, 2, 5, 0, 1, 9, 4, 2, 0, 1);
        fails("zero", ZERO, 5, 1, x, 2, 1, 9, 4, 1, 1);
        fails("the first does not hold", OWN, 4, 1, x, 2, 1, 5, 0, 3);
        fails("null", NULL, 4, 1, x, 2, 1, 5, 0, 1);
        fails("index", INDEX, 8, 1, x, 2, 2, 5, 0, 1, 9, 4, 1, 1);
        fails("the second does not hold", OWN, 9, 1, x, 2, 2, 5, 0, 1, 9, 4, 2, 1, 0);
        fails("of the inner one", ZERO, 6, 2, x, 2, 1, 8, 3, 1, 2, 0, 5, 0);
        int made = x.count(0);
        fails("of the outer one", ZERO, 14, 1, x, 2, 1, 8, 3, 1, 2, 2, 5, 0, 1, 9, 4, 2, 0, 1);
        due("the inner one was made", x.count(0), made + 1);
        RecordLeaves y = everyKind();
        y.part(3, 0, 1, RECORD, 4);
        y.part(4, 1, 1, ROW, 0);
        y.check(3, 0, 3, 1, 0);
        taken("part 0 of the inner one", y, 3, 2, 0, 0, 5, 1, 3, 1, 4, 1, 0, 0, 5);
        fails("it is another", OWN, 12, 1, y, 3, 2, 0, 0, 5, 1, 3, 1, 4, 1, 0, 0, 6);
    }

    private static void readBehind() {
        RecordLeaves x = everySort();
        taken("none behind it", x, 2, 1, 5, 0, 4);
        taken("anything behind it", x, 2, 1, 5, 0, 4, LOWEST, -7, 99);
        due("count(3)", x.count(3), 8);
        due("leaf(5)", x.leaf(5), LOWEST);
        due("the same", x.number(9, 0), 4);
    }

    private static void openRecords() {
        RecordLeaves x = everySort();
        fails("none yet", INDEX, 0, 1, x);
        fails("behind one that was made", INDEX, 7, 1, x, 2, 2, 8, 3, 1, 2, 0);
        fails("behind one that was gone through", INDEX, 7, 1, x, 2, 2, 0, 3, 1, 2, 0);
        fails("in one that is made", INDEX, 6, 2, x, 2, 2, 8, 3, 1, 2);
        fails("in one that is gone through", INDEX, 6, 2, x, 2, 2, 0, 3, 1, 2);
        fails("in the third", INDEX, 11, 3, x, 2, 1, 8, 3, 1, 2, 1, 0, 3, 1, 2);
    }

    private static void firstOfSeveral() {
        RecordLeaves x = everySort();
        due("part: FULL", x.part(2, 0, 0, INT, 0), FULL);
        due("part: the name is there", x.part(2, 0, 9, INT, 0), BAD);
        due("part: no such name", x.part(2, 0, 10, INT, 0), BAD);
        due("part: no such sort", x.part(2, 0, 0, 5, 0), BAD);
        due("part: of", x.part(2, 0, 0, CONSTANT, 2), BAD);
        due("part: of", x.part(2, 0, 0, RECORD, 1), BAD);
        x.check(2, 0, 0, 0, 0);
        x.check(2, 0, 0, 0, 0);
        due("check: FULL", x.check(2, 0, 0, 0, 0), FULL);
        due("check: how", x.check(2, 0, 5, 0, 0), BAD);
        due("check: a", x.check(2, 0, 0, 1, 0), BAD);
        due("check: b", x.check(2, 0, 0, 0, 5), BAD);
        due("hold: NONE", x.hold(0, 0, 0, 5), NONE);
        due("hold: the place", x.hold(10, 0, 0, 5), BAD);
        due("hold: the kind", x.hold(0, 2, 0, 5), BAD);
        due("hold: the version", x.hold(0, 0, 3, 5), BAD);
        due("hold: the name", x.hold(0, 0, 0, 10), BAD);
        RecordLeaves y = longRecord(8);
        due("write: FULL", y.write(2), FULL);
        due("write: no record", y.write(1), BAD);
    }

    // ---- the promises' own numbers

    private static void givenParts() {
        edges("give, the part", RecordLeaves::new, (x, i) -> x.give(i, 0, 0), 0, 4, i -> 1);
        for (int p = 0; p < 5; p++) {
            RecordLeaves x = new RecordLeaves();
            for (int name = 0; name < 5; name++) {
                x.part(2, 0, name, LONG, 0);
                x.part(3, 0, name, ROW, 0);
            }
            x.give(p, 5, 0);
            x.give(p, LOWEST, 9);
            x.make(2, 0, 1);
            x.row(9, 8);
            x.make(3, 0, 2);
            for (int q = 0; q < 5; q++) {
                due("0 at first, the latest of part " + p, x.number(1, q), p == q ? LOWEST : 0);
                due("place 0 at first, the latest of part " + p, x.number(2, q), p == q ? -7 : -10);
            }
            x.row(0, 1);
            x.row(9, NONE);
            x.make(3, 0, 2);
            for (int q = 0; q < 5; q++) {
                due("what the place holds then", x.number(2, q), p == q ? -10 : -7);
            }
        }
    }

    private static void whats() {
        edges("about, what", BoundaryTests::everyThing, (x, i) -> x.about(4, i), 0, 3, i -> new int[] {4, 2, 0, 5}[i]);
        edges("about, what", RecordLeaves::new, (x, i) -> x.about(0, i), 0, 3, i -> new int[] {0, NONE, NONE, 0}[i]);
        edges("cause, what", RecordLeaves::new, (x, i) -> x.cause(i), 0, 2, i -> new int[] {0, NONE, 0}[i]);
        edges("count, what", RecordLeaves::new, (x, i) -> x.count(i), 0, 4, i -> 0);
        edges("count, what", BoundaryTests::everyThing, (x, i) -> x.count(i), 0, 4, i -> new int[] {2, 0, 0, 0, 4}[i]);
    }

    private static void aboutThings() {
        RecordLeaves x = everyThing();
        x.constant(1, 2, 5, false);
        x.hold(5, 1, 2, 5);
        x.make(5, 2, 6);
        x.row(7, 0);
        int[][] want = {{0, NONE, NONE, 0}, {1, 0, 0, 0}, {2, 0, 0, 1}, {3, NONE, NONE, 8}, {4, 2, 0, 5}, {1, 1, 2, 0},
            {4, 5, 2, 0}, {3, NONE, NONE, 0}};
        for (int place = 0; place < want.length; place++) {
            for (int what = 0; what < 4; what++) {
                due("about(" + place + ", " + what + ")", x.about(place, what), want[place][what]);
            }
        }
    }

    private static void numbersTold() {
        for (int parts = 0; parts <= 5; parts++) {
            for (int p : new int[] {-1, 0, parts - 1, parts, 4, 5, LOW, HIGH}) {
                RecordLeaves x = new RecordLeaves();
                for (int name = 0; name < parts; name++) {
                    x.part(2, 0, name, LONG, 0);
                    x.give(name, 30 + name, 0);
                }
                x.make(2, 0, 0);
                boolean there = p >= 0 && p < parts;
                due("number " + p + " of " + parts, x.number(0, p), there ? 30 + p : 0);
                due("status()", x.status(), there ? 0 : BAD);
            }
        }
        RecordLeaves x = everyThing();
        for (int place = 0; place < 4; place++) {
            x.number(4, 0);
            due("number(" + place + ", 0)", x.number(place, 0), 0);
            due("status()", x.status(), BAD);
        }
    }

    private static void thingsTaken() {
        edges("take, the part", BoundaryTests::everyThing, (x, i) -> x.take(4, i, 9), 2, 4, i -> new int[] {2, 4, 3}[i - 2]);
        for (int place = 0; place < 4; place++) {
            due("take(" + place + ", 2, 9)", everyThing().take(place, 2, 9), BAD);
        }
        RecordLeaves x = everyThing();
        x.take(4, 3, 5);
        x.row(9, 1);
        due("nothing", x.take(5, 4, 9), 0);
        due("it is held", x.about(9, 0), 0);
    }

    private static void leavesTold() {
        for (int n : new int[] {0, 1, 2, 249, 250}) {
            RecordLeaves x = new RecordLeaves();
            for (int k = 0; k < n; k++) {
                x.set(k, k + 5L);
            }
            for (int k : new int[] {-1, 0, n - 1, n, n + 1, 249, 250, LOW, HIGH}) {
                boolean there = k >= 0 && k < n;
                due("leaf " + k + " of " + n, x.leaf(k), there ? k + 5 : 0);
                due("status()", x.status(), there ? 0 : BAD);
            }
        }
        RecordLeaves x = new RecordLeaves();
        x.set(0, 0);
        due("a leaf that is 0", x.leaf(0), 0);
        due("status()", x.status(), 0);
        x.set(1, 9);
        x.cut(1);
        due("a leaf that went", x.leaf(1), 0);
        due("status()", x.status(), BAD);
    }

    private static RecordLeaves withLeaves(int n) {
        RecordLeaves x = new RecordLeaves();
        for (int k = 0; k < n; k++) {
            x.set(k, k + 5L);
        }
        return x;
    }

    private static void leavesSet() {
        for (int n : new int[] {0, 1, 2, 249}) {
            edges("set of " + n, () -> withLeaves(n), (x, i) -> x.set(i, -1), 0, n, i -> Math.max(n, i + 1));
        }
        RecordLeaves x = withLeaves(3);
        x.set(1, LOWEST);
        long[] want = {5, LOWEST, 7};
        for (int k = 0; k < 3; k++) {
            due("leaf(" + k + ")", x.leaf(k), want[k]);
        }
    }

    private static void leavesCut() {
        for (int n : new int[] {0, 1, 2, 250}) {
            edges("cut of " + n, () -> withLeaves(n), (x, i) -> x.cut(i), 0, n, i -> n - i);
        }
        RecordLeaves x = withLeaves(4);
        due("cut(4)", x.cut(4), 0);
        due("cut(3)", x.cut(3), 1);
        for (int k = 0; k < 3; k++) {
            due("the first ones", x.leaf(k), k + 5);
        }
        due("cut(4) of 3", x.cut(4), BAD);
        due("cut(0)", x.cut(0), 3);
        due("count(3)", x.count(3), 0);
        due("cut(0) of 0", x.cut(0), 0);
        due("set(0, 1)", x.set(0, 1), 1);
    }

    private static void dueCause(String what, RecordLeaves x, int why, int leaf, int records) {
        due(what + ", cause(0)", x.cause(0), why);
        due(what + ", cause(1)", x.cause(1), leaf);
        due(what + ", cause(2)", x.cause(2), records);
    }

    private static void causes() {
        RecordLeaves x = everySort();
        dueCause("none yet", x, 0, NONE, 0);
        x.read(0, 0);
        dueCause("a reading that failed", x, INDEX, 0, 1);
        x.make(2, 0, 10);
        x.make(6, 0, 0);
        x.make(2, 3, 0);
        x.read(3, 0);
        x.read(0, -1);
        dueCause("bad ones behind it", x, INDEX, 0, 1);
        x.make(2, 0, 0);
        dueCause("a making", x, 0, NONE, 0);
        x.read(0, 0);
        x.give(0, BEYOND, 0);
        x.make(2, 0, 0);
        dueCause("a making that failed", x, OWN, NONE, 0);
        x.make(2, 0, 10);
        dueCause("a bad one behind it", x, OWN, NONE, 0);
        x.set(0, 3);
        x.set(1, 0);
        x.read(0, 0);
        dueCause("a reading", x, 0, NONE, 0);
    }

    private static void statuses() {
        RecordLeaves x = everyThing();
        due("none yet", x.status(), BAD);
        x.number(4, 1);
        due("a number that is 0", x.status(), 0);
        x.leaf(0);
        due("no leaf", x.status(), BAD);
        x.set(0, 0);
        x.leaf(0);
        due("a leaf that is 0", x.status(), 0);
        x.number(4, 5);
        due("no number", x.status(), BAD);
        x.number(4, 2);
        due("a family, less 10", x.status(), 0);
        statusBetween(x, 0);
        x.number(0, 0);
        statusBetween(x, BAD);
    }

    /** Calls that are neither number() nor leaf(), fine ones and refused ones. */
    private static void statusBetween(RecordLeaves x, int want) {
        long[] answers = {x.about(4, 0), x.about(4, 4), x.like(4, 4), x.like(4, 10), x.make(2, 0, 4), x.make(2, 3, 4),
            x.write(4), x.write(0), x.read(0, 5), x.read(0, 10), x.cause(0), x.cause(3), x.count(0), x.count(5),
            x.set(0, 2), x.set(-1, 2), x.cut(2), x.cut(-1), x.row(6, 1), x.row(6, 9), x.item(6, 0, 1), x.item(6, 1, 1),
            x.share(7, 6), x.share(7, 10), x.give(0, 0, 0), x.give(5, 0, 0), x.hold(8, 0, 0, 9), x.hold(8, 0, 0, 8),
            x.take(4, 2, 8), x.take(4, 0, 8), x.constant(0, 0, 9, true), x.part(2, 0, 5, INT, 0), x.check(2, 0, 5, 0, 0)};
        due("status() behind " + answers.length + " other calls", x.status(), want);
    }

    private static void counts() {
        RecordLeaves x = everySort();
        x.read(0, 0);
        due("readings that did not fail", x.count(1), 0);
        due("readings that did", x.count(2), 1);
        taken("a reading", x, 2, 1, 8, 3, 1, 2, 0);
        due("readings that did not fail", x.count(1), 1);
        due("records that were made", x.count(0), 2);
        fails("a reading that fails later", INDEX, 7, 1, x, 2, 2, 8, 3, 1, 2, 0);
        due("records that were made", x.count(0), 3);
        due("readings that did not fail", x.count(1), 1);
        x.read(0, 10);
        x.read(-1, 0);
        x.make(2, 0, 10);
        due("bad ones", x.count(0) * 100 + x.count(1) * 10 + x.count(2), 3 * 100 + 10 + 2);
        x.row(9, NONE);
        for (int place = 0; place < 10; place++) {
            due("places that hold a thing", x.count(4), place);
            x.row(place, 0);
        }
        due("places that hold a thing", x.count(4), 10);
    }

    private static Map<String, Runnable> tests() {
        Map<String, Runnable> all = new LinkedHashMap<>();
        all.put("An object is used for at most 512 calls", BoundaryTests::lastCall);
        all.put("KINDS 0, 1 are ENUMS", BoundaryTests::enums);
        all.put("2 .. 5 RECORDS", BoundaryTests::recordKinds);
        all.put("each has VERSIONS 0 .. 2", BoundaryTests::versions);
        all.put("CONSTANTS, each with a NAME 0 .. 9 (once)", BoundaryTests::constantNames);
        all.put("PLAIN or LOUD", BoundaryTests::plainOrLoud);
        all.put("in the ORDER in which they came (from 0)", BoundaryTests::orders);
        all.put("each VERSION's are their own", BoundaryTests::versionsOfTheirOwn);
        all.put("PARTS, 5 at most, numbered from 0", BoundaryTests::fiveParts);
        all.put("PARTS, each with a NAME 0 .. 9 (once)", BoundaryTests::partNames);
        all.put("and a sort: 0 INT, .., 4 ROW", BoundaryTests::sorts);
        all.put("of (.. else not looked at)", BoundaryTests::ofNotLookedAt);
        all.put("a number for an INT beyond 32 bits", BoundaryTests::numbersOfMakings);
        all.put("CHECKS, 2 at most", BoundaryTests::twoChecks);
        all.put("how, PARTS that are of another sort than told", BoundaryTests::hows);
        all.put("PARTS that there are not", BoundaryTests::partsOfChecks);
        all.put("how 0: INT a is INT b at most", BoundaryTests::checkAtMost);
        all.put("1: 100 % INT a is 0 (b is not looked at)", BoundaryTests::checkDivides);
        all.put("2: ITEM INT b of ROW a is above 0", BoundaryTests::checkItem);
        all.put("3: PART 0 of RECORD a, as a number, is INT b", BoundaryTests::checkPartIs);
        all.put("4: the ORDER of CONSTANT a is below INT b", BoundaryTests::checkOrder);
        all.put("PLACES 0 .. 9", BoundaryTests::placesOfCalls);
        all.put("PLACES 0 .. 9, of number()", BoundaryTests::placesOfNumber);
        all.put("or NOTHING (at first)", BoundaryTests::nothingAtFirst);
        all.put("several perhaps the same", BoundaryTests::severalTheSame);
        all.put("a ROW (0 to 8 ints), or NOTHING (n = NONE)", BoundaryTests::rowSizes);
        all.put("a new ROW of n ITEMS, all 0", BoundaryTests::newRows);
        all.put("no such ITEM (BAD may be an ITEM, too)", BoundaryTests::itemsOfRows);
        all.put("BAD: also no ROW", BoundaryTests::itemsOfOthers);
        all.put("with as many PARTS as that had when it was made", BoundaryTests::partsWhenMade);
        all.put("FAMILY: 0 NOTHING, .., 4 RECORD", BoundaryTests::families);
        all.put("1 CAST: it is no THING of that sort's class", BoundaryTests::makingCast);
        all.put("2 OWN: of another KIND, or another VERSION than the one that is made", BoundaryTests::makingOwn);
        all.put("MAKING: PART by PART, then the CHECKS", BoundaryTests::partByPart);
        all.put("Then CHECK by CHECK", BoundaryTests::checkByCheck);
        all.put("PARTS, CHECKS are those that the VERSION has now", BoundaryTests::whatTheVersionHasNow);
        all.put("LIKE: the same; NOTHING both", BoundaryTests::likeTheSame);
        all.put("ROWS of as many and the same ITEMS", BoundaryTests::likeRows);
        all.put("RECORDS of one KIND and VERSION, numbers alike", BoundaryTests::likeRecords);
        all.put("THINGS in them LIKE or both NOTHING", BoundaryTests::likeThingsInThem);
        all.put("and so are RECORDS that are compared within six others", BoundaryTests::likeWithinSix);
        all.put("LEAVES, 250 at most: set()", BoundaryTests::leavesBySet);
        all.put("FULL: more than 250 (THE TAPE is as it was)", BoundaryTests::leavesByWrite);
        all.put("FULL: more than 250, of RECORDS in RECORDS", BoundaryTests::leavesOfChains);
        all.put("FULL: more than 250, of RECORDS that fork", BoundaryTests::leavesOfForks);
        all.put("A RECORD is WRITTEN", BoundaryTests::writtenForms);
        all.put("write(): BAD: none is held", BoundaryTests::writtenOnlyRecords);
        all.put("LEAF k, its KIND (2 OWN: not 2 .. 5)", BoundaryTests::readKind);
        all.put("n times (none, if that is below 1)", BoundaryTests::readHowMany);
        all.put("s is 0 .. 4 (else 2 OWN); 1 CAST: of another sort", BoundaryTests::readSort);
        all.put("If KIND k has in VERSION w a PART of that NAME", BoundaryTests::readName);
        all.put("the latest one that comes", BoundaryTests::readLatest);
        all.put("it is gone through, and nothing is made of it", BoundaryTests::readGoneThrough);
        all.put("An INT, a LONG: a LEAF", BoundaryTests::readInt);
        all.put("A CONSTANT: a LEAF, -1 is NOTHING; 7 ILLEGAL", BoundaryTests::readConstant);
        all.put("A RECORD: a LEAF, 0 is NOTHING, else a RECORD", BoundaryTests::readRecord);
        all.put("A ROW: -1 is NOTHING; 6 SIZE: below 0; 2 OWN: above 8", BoundaryTests::readRow);
        all.put("of which the lowest 32 bits count", BoundaryTests::readItems);
        all.put("4 INDEX: a LEAF that there is not is wanted", BoundaryTests::readIndex);
        all.put("8 DEEP: a RECORD would begin within 6 others (it has not begun)", BoundaryTests::readDeep);
        all.put("PARTS that did not come are 0, NOTHING", BoundaryTests::readAbsent);
        all.put("Behind its PARTS a RECORD is MADE (what fails there fails)", BoundaryTests::readMaking);
        all.put("LEAVES behind it are not looked at", BoundaryTests::readBehind);
        all.put("how many RECORDS had begun and were not at their end", BoundaryTests::openRecords);
        all.put("of several the first here", BoundaryTests::firstOfSeveral);
        all.put("For PART p (0 .. 4) (0, and PLACE 0, at first)", BoundaryTests::givenParts);
        all.put("what = 0 .. 3, 0 .. 2, 0 .. 4", BoundaryTests::whats);
        all.put("its KIND (NONE: a ROW, NOTHING), its VERSION (NONE likewise), .. (0: NOTHING)", BoundaryTests::aboutThings);
        all.put("number(): 0: there is none such (status())", BoundaryTests::numbersTold);
        all.put("take(): a THING or NOTHING. BAD: also a number", BoundaryTests::thingsTaken);
        all.put("leaf(): 0: there is none such (status())", BoundaryTests::leavesTold);
        all.put("if k is how many there are, comes behind them", BoundaryTests::leavesSet);
        all.put("THE TAPE keeps its first n LEAVES", BoundaryTests::leavesCut);
        all.put("Of the latest make(), read() that was not BAD", BoundaryTests::causes);
        all.put("0 behind a number(), leaf() that told something, else BAD", BoundaryTests::statuses);
        all.put("count()", BoundaryTests::counts);
        return all;
    }

    public static void main(String[] args) {
        Map<String, Runnable> all = tests();
        for (Map.Entry<String, Runnable> one : all.entrySet()) {
            sentence = one.getKey();
            one.getValue().run();
        }
        System.out.println(wrong == 0 ? all.size() + " sentences hold" : wrong + " answers are not as due");
        if (wrong != 0) {
            System.exit(1);
        }
    }
}
