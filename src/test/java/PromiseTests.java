/** Each promise of the document by hand: ordinary inputs, the edges that it names, wrong inputs. */
public final class PromiseTests {
    private static final int BAD = RecordLeaves.BAD, FULL = RecordLeaves.FULL, NONE = RecordLeaves.NONE;
    private static final int INT = 0, LONG = 1, CONSTANT = 2, RECORD = 3, ROW = 4;
    private static final int CAST = 1, OWN = 2, NULL = 3, INDEX = 4, ZERO = 5, SIZE = 6, ILLEGAL = 7, DEEP = 8;
    private static final int LOW = Integer.MIN_VALUE, HIGH = Integer.MAX_VALUE;

    private static int wrong = 0;
    private static int promise = 0;

    private static void due(String what, long got, long want) {
        if (got != want) {
            wrong++;
            System.out.println("promise " + promise + ": " + what + " answered " + got + ", due is " + want);
        }
    }

    /** Checks the three answers of cause(). */
    private static void dueCause(String what, RecordLeaves x, int why, int leaf, int records) {
        due(what + ", cause(0)", x.cause(0), why);
        due(what + ", cause(1)", x.cause(1), leaf);
        due(what + ", cause(2)", x.cause(2), records);
    }

    private static void dueLeaves(String what, RecordLeaves x, long... want) {
        due(what + ", count(3)", x.count(3), want.length);
        for (int k = 0; k < want.length; k++) {
            due(what + ", leaf(" + k + ")", x.leaf(k), want[k]);
        }
    }

    private static void tape(RecordLeaves x, long... leaves) {
        x.cut(0);
        for (int k = 0; k < leaves.length; k++) {
            x.set(k, leaves[k]);
        }
    }

    /** A tape is read into a place that holds a row of 3, and what is due of it is checked. */
    private static void dueRead(String what, RecordLeaves x, int version, int why, int leaf, int records) {
        x.row(9, 3);
        due(what, x.read(version, 9), why);
        dueCause(what, x, why, leaf, records);
        due(what + ", the place", x.about(9, 0), why == 0 ? 4 : 3);
    }

    /** Constants 3 (plain), 1 (loud) of enum 0, version 0; 1 (plain) of version 1; 3 of enum 1, version 0. */
    private static RecordLeaves withConstants() {
        RecordLeaves x = new RecordLeaves();
        x.constant(0, 0, 3, false);
        x.constant(0, 0, 1, true);
        x.constant(0, 1, 1, false);
        x.constant(1, 0, 3, false);
        return x;
    }

    /** Kind 2, version 0: parts of each sort, named 5 .. 9. */
    private static RecordLeaves withAllSorts() {
        RecordLeaves x = withConstants();
        x.part(2, 0, 5, INT, 0);
        x.part(2, 0, 6, LONG, 0);
        x.part(2, 0, 7, CONSTANT, 0);
        x.part(2, 0, 8, RECORD, 2);
        x.part(2, 0, 9, ROW, 0);
        return x;
    }

    private static void newObject() {
        RecordLeaves x = new RecordLeaves();
        due("BAD", BAD, -1);
        due("FULL", FULL, -2);
        due("NONE", NONE, -3);
        for (int place = 0; place < 10; place++) {
            due("about(.., 0)", x.about(place, 0), 0);
        }
        for (int what = 0; what < 5; what++) {
            due("count(" + what + ")", x.count(what), 0);
        }
        due("status()", x.status(), BAD);
        dueCause("at first", x, 0, NONE, 0);
        for (int kind = 0; kind < 2; kind++) {
            for (int version = 0; version < 3; version++) {
                for (int name = 0; name < 10; name++) {
                    due("hold", x.hold(0, kind, version, name), NONE);
                }
            }
        }
        for (int kind = 2; kind < 6; kind++) {
            for (int version = 0; version < 3; version++) {
                due("check", x.check(kind, version, 1, 0, 0), BAD);
                due("make", x.make(kind, version, 0), 0);
                due("about", x.about(0, 3), 0);
            }
        }
        due("leaf(0)", x.leaf(0), 0);
        due("read(0, 0)", x.read(0, 1), INDEX);
        RecordLeaves other = new RecordLeaves();
        due("another object", other.count(0), 0);
    }

    private static void constant() {
        RecordLeaves x = new RecordLeaves();
        for (int name = 9; name >= 0; name--) {
            due("its order", x.constant(0, 0, name, name == 4), 9 - name);
        }
        due("the name is there", x.constant(0, 0, 4, false), BAD);
        due("another version", x.constant(0, 1, 4, false), 0);
        due("another version's order", x.constant(0, 1, 9, false), 1);
        due("another enum", x.constant(1, 0, 4, true), 0);
        due("the last of all", x.constant(1, 2, 9, true), 0);
        int[][] bad = {{-1, 0, 0}, {2, 0, 0}, {5, 0, 0}, {LOW, 0, 0}, {HIGH, 0, 0}, {0, -1, 0}, {0, 3, 0},
            {0, LOW, 0}, {0, HIGH, 0}, {0, 2, -1}, {0, 2, 10}, {0, 2, LOW}, {0, 2, HIGH}, {2, 0, 9}};
        for (int[] b : bad) {
            due("constant(" + b[0] + ", " + b[1] + ", " + b[2] + ")", x.constant(b[0], b[1], b[2], false), BAD);
        }
        due("what was refused is not there", x.constant(0, 2, 0, false), 0);
        x.hold(0, 0, 0, 4);
        due("loud", x.about(0, 0), 2);
        x.hold(0, 0, 1, 4);
        due("plain", x.about(0, 0), 1);
    }

    private static void part() {
        RecordLeaves x = new RecordLeaves();
        int[][] bad = {{1, 0, 0, 0, 0}, {6, 0, 0, 0, 0}, {-1, 0, 0, 0, 0}, {LOW, 0, 0, 0, 0}, {HIGH, 0, 0, 0, 0},
            {2, -1, 0, 0, 0}, {2, 3, 0, 0, 0}, {2, LOW, 0, 0, 0}, {2, HIGH, 0, 0, 0}, {2, 0, -1, 0, 0},
            {2, 0, 10, 0, 0}, {2, 0, LOW, 0, 0}, {2, 0, HIGH, 0, 0}, {2, 0, 0, -1, 0}, {2, 0, 0, 5, 0},
            {2, 0, 0, LOW, 0}, {2, 0, 0, HIGH, 0}, {2, 0, 0, 2, -1}, {2, 0, 0, 2, 2}, {2, 0, 0, 2, LOW},
            {2, 0, 0, 2, HIGH}, {2, 0, 0, 3, 1}, {2, 0, 0, 3, 6}, {2, 0, 0, 3, 0}, {2, 0, 0, 3, LOW},
            {2, 0, 0, 3, LOW + 1}, {2, 0, 0, 3, HIGH}};
        for (int[] b : bad) {
            due("part" + java.util.Arrays.toString(b), x.part(b[0], b[1], b[2], b[3], b[4]), BAD);
        }
        due("of is not looked at", x.part(2, 0, 0, INT, LOW), 0);
        due("of is not looked at", x.part(2, 0, 9, LONG, HIGH), 1);
        due("of is not looked at", x.part(2, 0, 3, ROW, -1), 2);
        due("of 1", x.part(2, 0, 4, CONSTANT, 1), 3);
        due("the name is there", x.part(2, 0, 9, INT, 0), BAD);
        due("of 5", x.part(2, 0, 5, RECORD, 5), 4);
        due("full", x.part(2, 0, 6, INT, 0), FULL);
        due("bad goes before full", x.part(2, 0, 5, INT, 0), BAD);
        due("bad goes before full", x.part(2, 0, 6, CONSTANT, 2), BAD);
        due("another version", x.part(2, 2, 5, RECORD, 2), 0);
        due("another kind", x.part(5, 2, 5, CONSTANT, 0), 0);
        x.make(2, 0, 1);
        due("as many parts", x.about(1, 3), 5);
        x.make(2, 1, 1);
        due("no parts", x.about(1, 3), 0);
    }

    private static void check() {
        RecordLeaves x = withAllSorts();
        int[][] sorts = {{0, 0}, {0, 0}, {4, 0}, {3, 0}, {2, 0}};
        for (int how = 0; how < 5; how++) {
            for (int p = -1; p <= 5; p++) {
                if (p != sorts[how][0]) {
                    due("how " + how + ", a " + p, x.check(2, 0, how, p, 0), BAD);
                }
                if (p != 0 && how != 1) {
                    due("how " + how + ", b " + p, x.check(2, 0, how, sorts[how][0], p), BAD);
                }
            }
        }
        int[][] bad = {{1, 0, 1, 0, 0}, {6, 0, 1, 0, 0}, {LOW, 0, 1, 0, 0}, {2, -1, 1, 0, 0}, {2, 3, 1, 0, 0},
            {2, 0, -1, 0, 0}, {2, 0, 5, 0, 0}, {2, 0, 1, LOW, 0}, {2, 0, 1, HIGH, 0}, {2, 0, 0, 0, HIGH},
            {2, 1, 1, 0, 0}, {3, 0, 1, 0, 0}};
        for (int[] b : bad) {
            due("check" + java.util.Arrays.toString(b), x.check(b[0], b[1], b[2], b[3], b[4]), BAD);
        }
        due("b is not looked at", x.check(2, 0, 1, 0, LOW), 0);
        due("a row", x.check(2, 0, 2, 4, 0), 1);
        due("full", x.check(2, 0, 3, 3, 0), FULL);
        due("full", x.check(2, 0, 4, 2, 0), FULL);
        due("bad goes before full", x.check(2, 0, 4, 3, 0), BAD);
        for (int how = 0; how < 5; how++) {
            RecordLeaves y = withAllSorts();
            due("how " + how, y.check(2, 0, how, sorts[how][0], 0), 0);
        }
        x.part(2, 1, 0, INT, 0);
        due("another version", x.check(2, 1, 0, 0, 0), 0);
    }

    private static void hold() {
        RecordLeaves x = withConstants();
        due("order 0", x.hold(0, 0, 0, 3), 0);
        due("order 1", x.hold(9, 0, 0, 1), 1);
        due("plain", x.about(0, 0), 1);
        due("loud", x.about(9, 0), 2);
        due("another version's", x.hold(1, 0, 1, 1), 0);
        due("plain there", x.about(1, 0), 1);
        due("no such name", x.hold(0, 0, 0, 2), NONE);
        due("no such name in the version", x.hold(0, 0, 1, 3), NONE);
        due("the place holds what it held", x.about(0, 2), 0);
        due("the place holds what it held", x.about(0, 0), 1);
        int[][] bad = {{-1, 0, 0, 3}, {10, 0, 0, 3}, {LOW, 0, 0, 3}, {HIGH, 0, 0, 3}, {0, -1, 0, 3}, {0, 2, 0, 3},
            {0, 0, -1, 3}, {0, 0, 3, 3}, {0, 0, 0, -1}, {0, 0, 0, 10}, {0, 0, 0, LOW}, {10, 0, 0, 2}};
        for (int[] b : bad) {
            due("hold" + java.util.Arrays.toString(b), x.hold(b[0], b[1], b[2], b[3]), BAD);
        }
    }

    private static void row() {
        RecordLeaves x = withConstants();
        for (int n = 0; n <= 8; n++) {
            due("row(3, " + n + ")", x.row(3, n), 1);
            due("how many items", x.about(3, 3), n);
            for (int i = 0; i < n; i++) {
                due("all 0", x.item(3, i, i + 1), 0);
            }
        }
        int[][] bad = {{-1, 2}, {10, 2}, {LOW, 2}, {HIGH, 2}, {3, -1}, {3, -2}, {3, -4}, {3, 9}, {3, LOW}, {3, HIGH},
            {10, NONE}};
        for (int[] b : bad) {
            due("row" + java.util.Arrays.toString(b), x.row(b[0], b[1]), BAD);
        }
        due("still there", x.about(3, 3), 8);
        due("nothing", x.row(3, NONE), 1);
        due("nothing", x.about(3, 0), 0);
        x.row(3, 2);
        x.share(4, 3);
        x.row(3, 2);
        x.item(3, 0, 5);
        due("a new row", x.item(4, 0, 0), 0);
    }

    private static void item() {
        RecordLeaves x = withConstants();
        x.row(2, 3);
        due("which it was", x.item(2, 2, BAD), 0);
        due("which it was", x.item(2, 2, HIGH), BAD);
        due("which it was", x.item(2, 2, LOW), HIGH);
        due("another item", x.item(2, 0, 1), 0);
        int[][] bad = {{-1, 0}, {10, 0}, {LOW, 0}, {2, -1}, {2, 3}, {2, LOW}, {2, HIGH}, {1, 0}, {0, 0}};
        x.hold(1, 0, 0, 3);
        for (int[] b : bad) {
            due("item" + java.util.Arrays.toString(b), x.item(b[0], b[1], 7), BAD);
        }
        x.make(2, 0, 4);
        due("a record", x.item(4, 0, 7), BAD);
        x.row(2, 0);
        due("an empty row", x.item(2, 0, 7), BAD);
    }

    private static void share() {
        RecordLeaves x = withConstants();
        x.hold(0, 0, 0, 3);
        x.hold(1, 0, 0, 1);
        x.row(2, 4);
        x.make(2, 0, 3);
        int[] families = {1, 2, 3, 4, 0};
        for (int from = 0; from < 5; from++) {
            due("share(9, " + from + ")", x.share(9, from), families[from]);
            due("about(9, 0)", x.about(9, 0), families[from]);
            due("the other one", x.about(from, 0), families[from]);
        }
        x.share(9, 2);
        x.item(9, 3, 5);
        due("one row", x.item(2, 3, 6), 5);
        due("with itself", x.share(2, 2), 3);
        int[][] bad = {{-1, 0}, {10, 0}, {0, -1}, {0, 10}, {LOW, 0}, {0, LOW}, {HIGH, 0}, {0, HIGH}};
        for (int[] b : bad) {
            due("share" + java.util.Arrays.toString(b), x.share(b[0], b[1]), BAD);
        }
        due("as it was", x.about(0, 0), 1);
    }

    private static void give() {
        RecordLeaves x = withAllSorts();
        x.row(0, 2);
        due("at first all are of place 0, which holds a row", x.make(2, 0, 5), CAST);
        x.row(0, NONE);
        due("at first", x.make(2, 0, 5), 0);
        due("number(5, 0)", x.number(5, 0), 0);
        due("give", x.give(0, -7, 9), 1);
        due("give", x.give(1, Long.MIN_VALUE, 9), 1);
        due("give", x.give(2, 1, 9), 1);
        due("give", x.give(3, 1, 5), 1);
        due("give", x.give(4, 1, 8), 1);
        x.hold(9, 0, 0, 1);
        x.row(8, 5);
        due("what the places hold then", x.make(2, 0, 6), 0);
        due("number(6, 0)", x.number(6, 0), -7);
        due("number(6, 1)", x.number(6, 1), Long.MIN_VALUE);
        due("number(6, 2)", x.number(6, 2), -8);
        due("number(6, 3)", x.number(6, 3), -6);
        due("number(6, 4)", x.number(6, 4), -7);
        int[][] bad = {{-1, 0}, {5, 0}, {LOW, 0}, {HIGH, 0}, {0, -1}, {0, 10}, {0, LOW}, {0, HIGH}};
        for (int[] b : bad) {
            due("give" + java.util.Arrays.toString(b), x.give(b[0], 99, b[1]), BAD);
        }
        due("still given", x.make(2, 0, 6), 0);
        due("still given", x.number(6, 0), -7);
    }

    private static void make() {
        RecordLeaves x = withAllSorts();
        int[][] bad = {{1, 0, 0}, {6, 0, 0}, {LOW, 0, 0}, {HIGH, 0, 0}, {2, -1, 0}, {2, 3, 0}, {2, 0, -1}, {2, 0, 10}};
        for (int[] b : bad) {
            due("make" + java.util.Arrays.toString(b), x.make(b[0], b[1], b[2]), BAD);
        }
        due("nothing was made", x.count(0), 0);
        due("things may be nothing", x.make(2, 0, 9), 0);
        due("made", x.count(0), 1);
        makeParts(x);
        makeOfOtherVersions();
        makeInOrder();
        makeChecks();
    }

    private static void makeParts(RecordLeaves x) {
        x.hold(1, 0, 0, 3);
        x.row(2, 1);
        x.make(2, 0, 3);
        x.make(3, 0, 4);
        x.hold(5, 1, 0, 3);
        x.hold(6, 0, 1, 1);
        // what place 0 .. 6 hold: nothing, a constant, a row, a record, one of another kind, constants of others
        int[][] want = {{0, 0, CAST, CAST, CAST, OWN, OWN}, {0, CAST, CAST, 0, OWN, CAST, CAST},
            {0, CAST, 0, CAST, CAST, CAST, CAST}};
        for (int p = 2; p < 5; p++) {
            for (int place = 0; place < 7; place++) {
                x.give(p, Long.MAX_VALUE, place);
                due("part " + p + " of place " + place, x.make(2, 0, 9), want[p - 2][place]);
            }
            x.give(p, 0, 0);
        }
        long[] numbers = {LOW, HIGH, LOW - 1L, HIGH + 1L, 1L << 32, Long.MIN_VALUE, Long.MAX_VALUE};
        for (int i = 0; i < numbers.length; i++) {
            x.give(0, numbers[i], 1);
            due("int " + numbers[i], x.make(2, 0, 9), i < 2 ? 0 : OWN);
        }
        due("the place holds what it held", x.number(9, 0), HIGH);
        x.give(0, 0, 1);
        for (long number : numbers) {
            x.give(1, number, 2);
            due("long " + number, x.make(2, 0, 9), 0);
            due("long " + number, x.number(9, 1), number);
        }
    }

    private static void makeOfOtherVersions() {
        RecordLeaves x = new RecordLeaves();
        x.part(3, 1, 0, RECORD, 3);
        x.give(0, 0, 5);
        due("kind 3, version 0", x.make(3, 0, 5), 0);
        due("a record of another version", x.make(3, 1, 6), OWN);
        due("nothing came", x.about(6, 0), 0);
        x.give(0, 0, 6);
        due("nothing in it", x.make(3, 1, 5), 0);
        x.give(0, 0, 5);
        due("a record of this version", x.make(3, 1, 5), 0);
        x.part(3, 1, 1, INT, 0);
        due("as many parts as it had", x.about(5, 3), 1);
        due("an older one in a newer", x.make(3, 1, 4), 0);
        due("as many parts as it has now", x.about(4, 3), 2);
        due("two alike but for how many parts", x.like(4, 5), 0);
    }

    private static void makeInOrder() {
        RecordLeaves x = new RecordLeaves();
        x.part(4, 0, 0, ROW, 0);
        x.part(4, 0, 1, INT, 0);
        x.part(4, 0, 2, ROW, 0);
        x.check(4, 0, 1, 1, 0);
        x.check(4, 0, 2, 0, 1);
        x.make(2, 0, 9);
        x.give(1, 1L << 40, 0);
        x.give(2, 0, 9);
        due("part by part", x.make(4, 0, 1), OWN);
        x.give(0, 0, 9);
        due("the first part first", x.make(4, 0, 1), CAST);
        x.give(0, 0, 5);
        x.give(1, 0, 0);
        due("parts go before checks", x.make(4, 0, 1), CAST);
        x.give(2, 0, 5);
        due("the first check first", x.make(4, 0, 1), ZERO);
        x.give(1, 3, 0);
        due("the first check first", x.make(4, 0, 1), OWN);
        x.give(1, 1, 0);
        due("then the second", x.make(4, 0, 1), NULL);
        x.row(5, 2);
        due("then the second", x.make(4, 0, 1), OWN);
        x.item(5, 1, 1);
        due("all hold", x.make(4, 0, 1), 0);
        x.give(1, 2, 0);
        due("no such item", x.make(4, 0, 1), INDEX);
    }

    private static RecordLeaves withOneCheck(int how) {
        RecordLeaves x = withConstants();
        int[] sorts = {INT, INT, ROW, RECORD, CONSTANT};
        x.part(4, 0, 0, INT, 0);
        x.part(4, 0, 1, sorts[how], how == 3 ? 5 : 0);
        due("check", x.check(4, 0, how, 1, 0), 0);
        return x;
    }

    private static void dueMake(RecordLeaves x, long number, long other, int place, int why) {
        x.give(0, number, 0);
        x.give(1, other, place);
        int made = x.count(0);
        x.row(8, 3);
        due("make with " + number + ", " + other, x.make(4, 0, 8), why);
        dueCause("make with " + number + ", " + other, x, why, NONE, 0);
        due("made", x.count(0), why == 0 ? made + 1 : made);
        due("the place", x.about(8, 0), why == 0 ? 4 : 3);
    }

    private static void makeChecks() {
        RecordLeaves x = withOneCheck(0);
        dueMake(x, 5, 5, 0, 0);
        dueMake(x, 5, 6, 0, OWN);
        dueMake(x, HIGH, LOW, 0, 0);
        dueMake(x, LOW, HIGH, 0, OWN);
        for (int divisor = -101; divisor <= 101; divisor++) {
            dueMake(withOneCheck(1), 0, divisor, 0, divisor == 0 ? ZERO : 100 % divisor == 0 ? 0 : OWN);
        }
        dueMake(withOneCheck(1), 0, LOW, 0, OWN);
        x = withOneCheck(2);
        dueMake(x, 0, 0, 7, NULL);
        dueMake(x, -1, 0, 7, NULL);
        x.row(7, 2);
        dueMake(x, 0, 0, 7, OWN);
        dueMake(x, -1, 0, 7, INDEX);
        dueMake(x, 2, 0, 7, INDEX);
        dueMake(x, HIGH, 0, 7, INDEX);
        x.item(7, 1, 1);
        dueMake(x, 1, 0, 7, 0);
        x.item(7, 1, -1);
        dueMake(x, 1, 0, 7, OWN);
        x.row(7, 0);
        dueMake(x, 0, 0, 7, INDEX);
        checkOfInnerRecord();
        x = withOneCheck(4);
        dueMake(x, 9, 0, 7, NULL);
        x.hold(7, 0, 0, 1);
        dueMake(x, 2, 0, 7, 0);
        dueMake(x, 1, 0, 7, OWN);
        x.hold(7, 0, 0, 3);
        dueMake(x, 1, 0, 7, 0);
        dueMake(x, 0, 0, 7, OWN);
        dueMake(x, LOW, 0, 7, OWN);
    }

    private static void checkOfInnerRecord() {
        RecordLeaves x = withOneCheck(3);
        dueMake(x, 0, 0, 7, NULL);
        x.make(5, 0, 7);
        dueMake(x, 0, 0, 7, INDEX);
        x.part(5, 0, 0, LONG, 0);
        dueMake(x, 0, 0, 7, INDEX);
        x.give(0, 1L << 32, 0);
        x.make(5, 0, 7);
        dueMake(x, 0, 0, 7, OWN);
        x.give(0, -3, 0);
        x.make(5, 0, 7);
        dueMake(x, -3, 0, 7, 0);
        dueMake(x, 3, 0, 7, OWN);
        RecordLeaves y = withOneCheck(3);
        y.part(5, 0, 0, ROW, 0);
        y.make(5, 0, 7);
        dueMake(y, 0, 0, 7, CAST);
        y.row(0, 1);
        y.make(5, 0, 7);
        dueMake(y, 0, 0, 7, CAST);
    }

    private static void about() {
        RecordLeaves x = withAllSorts();
        x.hold(1, 0, 0, 1);
        x.hold(2, 1, 0, 3);
        x.hold(3, 0, 1, 1);
        x.row(4, 7);
        x.row(5, 0);
        x.make(2, 0, 6);
        x.make(5, 2, 7);
        int[][] want = {{0, NONE, NONE, 0}, {2, 0, 0, 1}, {1, 1, 0, 0}, {1, 0, 1, 0}, {3, NONE, NONE, 7},
            {3, NONE, NONE, 0}, {4, 2, 0, 5}, {4, 5, 2, 0}};
        for (int place = 0; place < want.length; place++) {
            for (int what = 0; what < 4; what++) {
                due("about(" + place + ", " + what + ")", x.about(place, what), want[place][what]);
            }
            for (int what : new int[] {-1, 4, LOW, HIGH}) {
                due("about(" + place + ", " + what + ")", x.about(place, what), BAD);
            }
        }
        for (int place : new int[] {-1, 10, LOW, HIGH}) {
            due("about(" + place + ", 0)", x.about(place, 0), BAD);
        }
    }

    private static void number() {
        RecordLeaves x = withAllSorts();
        x.give(0, -1, 9);
        x.give(1, Long.MAX_VALUE, 9);
        x.make(2, 0, 1);
        long[] nothings = {-1, Long.MAX_VALUE, -10, -10, -10};
        for (int p = 0; p < 5; p++) {
            due("number(1, " + p + ")", x.number(1, p), nothings[p]);
            due("status()", x.status(), 0);
        }
        x.hold(2, 0, 0, 3);
        x.give(2, 0, 2);
        x.make(2, 0, 3);
        due("plain", x.number(3, 2), -9);
        x.hold(2, 0, 0, 1);
        x.make(2, 0, 3);
        due("loud", x.number(3, 2), -8);
        x.row(4, 0);
        x.give(3, 0, 3);
        x.give(4, 0, 4);
        x.make(2, 0, 5);
        due("a record", x.number(5, 3), -6);
        due("a row", x.number(5, 4), -7);
        int[][] bad = {{-1, 0}, {10, 0}, {LOW, 0}, {HIGH, 0}, {1, -1}, {1, 5}, {1, LOW}, {1, HIGH}, {0, 0}, {2, 0}, {4, 0}};
        for (int[] b : bad) {
            x.number(1, 0);
            due("number" + java.util.Arrays.toString(b), x.number(b[0], b[1]), 0);
            due("status()", x.status(), BAD);
        }
    }

    private static void take() {
        RecordLeaves x = withAllSorts();
        x.hold(1, 0, 0, 1);
        x.row(2, 2);
        x.make(2, 0, 3);
        for (int p = 2; p < 5; p++) {
            x.give(p, 0, new int[] {1, 3, 2}[p - 2]);
        }
        x.make(2, 0, 4);
        due("a constant", x.take(4, 2, 9), 2);
        due("a constant", x.like(9, 1), 1);
        due("a row", x.take(4, 4, 9), 3);
        x.item(9, 1, 5);
        due("the row itself", x.item(2, 1, 0), 5);
        due("a record", x.take(4, 3, 8), 4);
        due("nothing", x.take(8, 2, 9), 0);
        due("nothing", x.about(9, 0), 0);
        int[][] bad = {{-1, 2, 9}, {10, 2, 9}, {LOW, 2, 9}, {4, -1, 9}, {4, 5, 9}, {4, HIGH, 9}, {4, 2, -1}, {4, 2, 10},
            {4, 2, LOW}, {4, 0, 9}, {4, 1, 9}, {0, 2, 9}, {1, 2, 9}, {2, 0, 9}};
        x.row(9, 6);
        for (int[] b : bad) {
            due("take" + java.util.Arrays.toString(b), x.take(b[0], b[1], b[2]), BAD);
        }
        due("as it was", x.about(9, 3), 6);
        due("into its own place", x.take(4, 3, 4), 4);
        due("into its own place", x.number(4, 3), -10);
    }

    private static void like() {
        RecordLeaves x = withConstants();
        due("nothing both", x.like(0, 1), 1);
        x.hold(1, 0, 0, 1);
        x.hold(2, 0, 0, 1);
        x.hold(3, 0, 1, 1);
        x.hold(4, 0, 0, 3);
        due("nothing and a constant", x.like(0, 1), 0);
        due("a constant and nothing", x.like(1, 0), 0);
        due("the same constant", x.like(1, 2), 1);
        due("another version's", x.like(1, 3), 0);
        due("another name", x.like(1, 4), 0);
        x.hold(4, 1, 0, 3);
        x.hold(5, 0, 0, 3);
        due("another enum's", x.like(4, 5), 0);
        x.row(5, 2);
        x.row(6, 2);
        due("rows", x.like(5, 6), 1);
        x.item(6, 1, 1);
        due("another item", x.like(5, 6), 0);
        x.row(6, 3);
        due("more items", x.like(5, 6), 0);
        due("a row and a constant", x.like(5, 1), 0);
        x.make(2, 0, 7);
        x.make(2, 0, 8);
        due("records", x.like(7, 8), 1);
        due("a record and a row", x.like(7, 6), 0);
        due("a record and nothing", x.like(7, 0), 0);
        x.make(2, 1, 8);
        due("another version", x.like(7, 8), 0);
        x.make(3, 0, 8);
        due("another kind", x.like(7, 8), 0);
        int[][] bad = {{-1, 0}, {10, 0}, {0, -1}, {0, 10}, {LOW, 0}, {0, HIGH}};
        for (int[] b : bad) {
            due("like" + java.util.Arrays.toString(b), x.like(b[0], b[1]), BAD);
        }
        likeRecords();
        likeWithinSix();
    }

    private static void likeRecords() {
        RecordLeaves x = withAllSorts();
        x.row(1, 1);
        x.row(2, 1);
        x.hold(3, 0, 0, 3);
        x.make(2, 0, 4);
        int[][] places = {{9, 9}, {9, 9}, {3, 9}, {4, 9}, {1, 9}};
        for (int p = 0; p < 5; p++) {
            x.make(2, 0, 6);
            x.give(p, 1, places[p][0]);
            x.make(2, 0, 7);
            due("part " + p + " differs", x.like(6, 7), 0);
            x.make(2, 0, 6);
            due("part " + p + " alike", x.like(6, 7), 1);
            x.give(p, 0, 9);
        }
        x.give(4, 0, 1);
        x.make(2, 0, 6);
        x.give(4, 0, 2);
        x.give(3, 77, 9);
        x.make(2, 0, 7);
        due("rows in them alike, numbers for things not looked at", x.like(6, 7), 1);
        x.item(1, 0, 8);
        due("a row in one has changed", x.like(6, 7), 0);
    }

    /** Two chains, of one record each within the others, whose innermost ones are not the same. */
    private static void likeWithinSix() {
        for (int depth = 1; depth <= 9; depth++) {
            RecordLeaves x = new RecordLeaves();
            x.part(2, 0, 0, RECORD, 2);
            x.part(2, 0, 1, ROW, 0);
            for (int chain = 1; chain <= 2; chain++) {
                x.give(0, 0, 0);
                x.row(9, 2);
                x.give(1, 0, 9);
                for (int i = 0; i < depth; i++) {
                    x.make(2, 0, chain);
                    x.give(0, 0, chain);
                    x.give(1, 0, 8);
                }
            }
            due(depth + " records", x.like(1, 2), depth <= 6 ? 1 : 0);
            x.item(9, 1, 3);
            due(depth + " records, another row innermost", x.like(1, 2), 0);
        }
        RecordLeaves x = new RecordLeaves();
        x.part(2, 0, 0, RECORD, 2);
        x.make(2, 0, 1);
        x.share(2, 1);
        for (int i = 0; i < 9; i++) {
            for (int place = 1; place <= 2; place++) {
                x.give(0, 0, place);
                x.make(2, 0, place);
            }
            due("the same one within " + (i + 1), x.like(1, 2), i < 6 ? 1 : 0);
        }
    }

    private static void write() {
        RecordLeaves x = withAllSorts();
        x.give(0, -5, 9);
        x.give(1, Long.MIN_VALUE, 9);
        x.make(2, 0, 1);
        due("write(1)", x.write(1), 17);
        dueLeaves("with nothing in it", x, 2, 5, 5, 0, -5, 6, 1, Long.MIN_VALUE, 7, 2, -1, 8, 3, 0, 9, 4, -1);
        x.hold(2, 0, 0, 3);
        x.row(3, 2);
        x.item(3, 1, LOW);
        x.give(2, 0, 2);
        x.give(3, 0, 1);
        x.give(4, 0, 3);
        x.make(2, 0, 4);
        due("write(4)", x.write(4), 36);
        dueLeaves("with all in it", x, 2, 5, 5, 0, -5, 6, 1, Long.MIN_VALUE, 7, 2, 3, 8, 3, 1,
            2, 5, 5, 0, -5, 6, 1, Long.MIN_VALUE, 7, 2, -1, 8, 3, 0, 9, 4, -1, 9, 4, 2, 0, LOW);
        for (int place : new int[] {-1, 10, LOW, HIGH, 0, 2, 3}) {
            due("write(" + place + ")", x.write(place), BAD);
        }
        due("as it was", x.count(3), 36);
        x.row(3, 0);
        x.make(5, 1, 5);
        due("a record without parts", x.write(5), 2);
        dueLeaves("a record without parts", x, 5, 0);
        x.part(5, 1, 0, INT, 0);
        due("parts that came later", x.write(5), 2);
        writeFull();
        writeDeep();
    }

    /** Records of five rows of eight items are 2 + 5 * 11 = 57 leaves; one within another adds to that. */
    private static void writeFull() {
        RecordLeaves x = new RecordLeaves();
        for (int name = 0; name < 3; name++) {
            x.part(2, 0, name, ROW, 0);
        }
        x.part(2, 0, 3, RECORD, 2);
        x.part(2, 0, 4, ROW, 0);
        x.row(1, 8);
        for (int p = 0; p < 5; p++) {
            x.give(p, 0, p == 3 ? 2 : 1);
        }
        int[] sizes = {49, 98, 147, 196, 245};
        for (int i = 0; i < 5; i++) {
            x.make(2, 0, 2);
            due("write(2)", x.write(2), sizes[i]);
        }
        x.row(3, 1);
        x.row(1, NONE);
        for (int p = 0; p < 3; p++) {
            x.give(p, 0, 5);
        }
        x.give(4, 0, 5);
        x.make(2, 0, 4);
        due("more than 250", x.write(4), FULL);
        due("as it was", x.count(3), 245);
        due("as it was", x.leaf(0), 2);
        due("as it was", x.leaf(4), 8);
        writeAtTheEdge();
    }

    /** 250 leaves are written, 251 are not. */
    private static void writeAtTheEdge() {
        RecordLeaves x = new RecordLeaves();
        for (int name = 0; name < 4; name++) {
            x.part(2, 0, name, RECORD, 3);
            x.part(3, 0, name, ROW, 0);
        }
        x.part(2, 0, 4, ROW, 0);
        x.part(3, 0, 4, ROW, 0);
        x.row(1, 8);
        for (int p = 0; p < 5; p++) {
            x.give(p, 0, 1);
        }
        x.make(3, 0, 2);
        x.row(3, 8);
        for (int p = 0; p < 4; p++) {
            x.give(p, 0, 2);
        }
        x.give(4, 0, 9);
        x.make(2, 0, 4);
        x.row(5, 3);
        due("2 + 4 * 3 + 4 * 57 + 3", x.make(2, 0, 4), 0);
        due("245", x.write(4), 245);
        x.row(9, 5);
        x.make(2, 0, 4);
        due("250", x.write(4), 250);
        due("the last leaf", x.leaf(249), 0);
        due("it is read back", x.read(0, 6), 0);
        due("it is like", x.like(4, 6), 1);
        x.row(9, 6);
        x.make(2, 0, 4);
        due("251", x.write(4), FULL);
        due("as it was", x.count(3), 250);
        due("as it was", x.leaf(244), 5);
        writeMoreParts();
    }

    /** A chain of records of 8 leaves each, with rows behind: of 32 two rows are still to come at 250 leaves. */
    private static void writeMoreParts() {
        RecordLeaves x = withChainsOfEight();
        for (int depth = 1; depth <= 50; depth++) {
            x.make(3, 0, 0);
            due(depth + " records of 8", x.write(0), depth <= 31 ? 8 * depth : FULL);
        }
        for (int n = 0; n <= 8; n++) {
            x = withChainsOfEight();
            x.row(9, n);
            for (int depth = 1; depth <= 31; depth++) {
                x.make(3, 0, 0);
                x.row(9, NONE);
            }
            due("innermost " + n, x.write(0), n <= 2 ? 248 + n : FULL);
        }
    }

    private static RecordLeaves withChainsOfEight() {
        RecordLeaves x = new RecordLeaves();
        x.part(3, 0, 0, RECORD, 3);
        x.part(3, 0, 1, ROW, 0);
        x.give(1, 0, 9);
        return x;
    }

    private static void writeDeep() {
        RecordLeaves x = new RecordLeaves();
        x.part(3, 0, 7, RECORD, 3);
        for (int depth = 1; depth <= 400; depth++) {
            x.make(3, 0, 0);
            if (depth > 48 && depth < 53 || depth == 400) {
                due(depth + " records", x.write(0), depth <= 50 ? 5 * depth : FULL);
            }
        }
    }

    private static void leaf() {
        RecordLeaves x = new RecordLeaves();
        due("none", x.leaf(0), 0);
        due("status()", x.status(), BAD);
        x.set(0, Long.MIN_VALUE);
        x.set(1, 0);
        due("leaf(0)", x.leaf(0), Long.MIN_VALUE);
        due("status()", x.status(), 0);
        due("leaf(1)", x.leaf(1), 0);
        due("status()", x.status(), 0);
        for (int k : new int[] {-1, 2, 250, LOW, HIGH}) {
            x.leaf(0);
            due("leaf(" + k + ")", x.leaf(k), 0);
            due("status()", x.status(), BAD);
        }
        x.cut(1);
        due("cut off", x.leaf(1), 0);
        due("status()", x.status(), BAD);
    }

    private static void set() {
        RecordLeaves x = new RecordLeaves();
        due("not the next", x.set(1, 5), BAD);
        due("below 0", x.set(-1, 5), BAD);
        for (int k = 0; k < 250; k++) {
            due("set(" + k + ")", x.set(k, k * 3L), k + 1);
        }
        due("full", x.set(250, 5), FULL);
        for (int k : new int[] {-1, 251, LOW, HIGH}) {
            due("set(" + k + ")", x.set(k, 5), BAD);
        }
        due("changed", x.set(0, Long.MAX_VALUE), 250);
        due("changed", x.leaf(0), Long.MAX_VALUE);
        due("changed", x.set(249, -1), 250);
        due("changed", x.leaf(249), -1);
        due("not changed", x.leaf(248), 744);
        x.cut(100);
        due("not the next", x.set(101, 5), BAD);
        due("the next", x.set(100, 5), 101);
    }

    private static void cut() {
        RecordLeaves x = new RecordLeaves();
        due("of none", x.cut(0), 0);
        due("more than there are", x.cut(1), BAD);
        tape(x, 1, 2, 3, 4);
        for (int n : new int[] {-1, 5, LOW, HIGH}) {
            due("cut(" + n + ")", x.cut(n), BAD);
        }
        due("all are kept", x.cut(4), 0);
        due("one went", x.cut(3), 1);
        dueLeaves("the first ones", x, 1, 2, 3);
        due("all went", x.cut(0), 3);
        due("none", x.count(3), 0);
    }

    private static void read() {
        RecordLeaves x = withAllSorts();
        int[][] bad = {{-1, 0}, {3, 0}, {LOW, 0}, {HIGH, 0}, {0, -1}, {0, 10}, {0, LOW}, {0, HIGH}};
        for (int[] b : bad) {
            due("read" + java.util.Arrays.toString(b), x.read(b[0], b[1]), BAD);
        }
        due("bad ones are no readings", x.count(1) + x.count(2), 0);
        readWhole(x);
        readNumbers();
        readOtherVersions();
        readFailures();
        readRows();
        readConstants();
        readGoneThrough();
        readDeep();
        readMaking();
    }

    private static void readWhole(RecordLeaves x) {
        tape(x, 2, 5, 5, 0, -5, 6, 1, Long.MIN_VALUE, 7, 2, 3, 8, 3, 77, 2, 0, 9, 4, 2, 1L << 32 | 6, -1, 99, 99);
        dueRead("leaves behind it are not looked at", x, 0, 0, NONE, 0);
        due("kind", x.about(9, 1), 2);
        due("version", x.about(9, 2), 0);
        due("parts", x.about(9, 3), 5);
        due("int", x.number(9, 0), -5);
        due("long", x.number(9, 1), Long.MIN_VALUE);
        x.take(9, 2, 1);
        x.hold(2, 0, 0, 3);
        due("the constant itself", x.like(1, 2), 1);
        x.take(9, 4, 1);
        due("the row's items", x.about(1, 3), 2);
        due("the lowest 32 bits", x.item(1, 0, 0), 6);
        due("the lowest 32 bits", x.item(1, 1, 0), -1);
        due("a record within", x.take(9, 3, 1), 4);
        due("parts that did not come", x.number(1, 0), 0);
        due("parts that did not come", x.number(1, 3), -10);
        due("all parts", x.about(1, 3), 5);
        due("made", x.count(0), 2);
        tape(x, 2, 3, 8, 3, -1, 2, 0, 8, 3, 0, 5, 0, 4);
        dueRead("the latest one that comes", x, 0, 0, NONE, 0);
        due("the latest one that comes", x.number(9, 3), -10);
        due("the earlier one was made", x.count(0), 4);
        for (long n : new long[] {0, -1, Long.MIN_VALUE}) {
            tape(x, 2, n, 5, 0, 4);
            dueRead("n below 1", x, 0, 0, NONE, 0);
            due("nothing came", x.number(9, 0), 0);
        }
    }

    private static void readNumbers() {
        RecordLeaves x = withAllSorts();
        tape(x, 2, 2, 5, 0, 1L << 31, 5, 0, 9);
        dueRead("the latest one counts", x, 0, 0, NONE, 0);
        due("the latest one counts", x.number(9, 0), 9);
        tape(x, 2, 2, 5, 0, 9, 5, 0, 1L << 31);
        dueRead("beyond 32 bits, when it is made", x, 0, OWN, 7, 1);
        tape(x, 2, 2, 5, 0, -1L << 31, 6, 1, Long.MAX_VALUE);
        dueRead("within 32 bits", x, 0, 0, NONE, 0);
        tape(x, 2, 1, (1L << 32) + 5, 1, 3);
        dueRead("a name is a long: there is none such", x, 0, 0, NONE, 0);
        tape(x, 2, 1, 5, 1L << 32, 3);
        dueRead("a sort is a long", x, 0, OWN, 3, 1);
        tape(x, 1L << 32 | 2, 1, 5, 0, 3);
        dueRead("a kind is a long", x, 0, OWN, 0, 1);
    }

    private static void readOtherVersions() {
        RecordLeaves x = withAllSorts();
        x.part(2, 1, 9, ROW, 0);
        x.part(2, 1, 5, INT, 0);
        x.part(2, 2, 5, LONG, 0);
        tape(x, 2, 2, 5, 0, 4, 9, 4, 1, 8);
        dueRead("other numbers of parts", x, 1, 0, NONE, 0);
        due("its version", x.about(9, 2), 1);
        due("by name", x.number(9, 1), 4);
        due("by name", x.number(9, 0), -7);
        dueRead("of another sort", x, 2, CAST, 3, 1);
        tape(x, 2, 1, 5, 0);
        dueRead("of another sort goes before what follows", x, 2, CAST, 3, 1);
        tape(x, 2, 1, 5, 1, 6);
        dueRead("a long for an int", x, 1, CAST, 3, 1);
        dueRead("a long", x, 2, 0, NONE, 0);
    }

    private static void readFailures() {
        RecordLeaves x = withAllSorts();
        for (long kind : new long[] {1, 6, 0, -1, Long.MIN_VALUE, Long.MAX_VALUE}) {
            tape(x, kind);
            dueRead("kind " + kind, x, 0, OWN, 0, 1);
            tape(x, 2, 1, 8, 3, 1, kind);
            dueRead("kind " + kind + " within", x, 0, OWN, 5, 2);
        }
        for (long sort : new long[] {-1, 5, Long.MIN_VALUE, Long.MAX_VALUE}) {
            tape(x, 2, 1, 5, sort);
            dueRead("sort " + sort, x, 0, OWN, 3, 1);
            tape(x, 2, 1, 0, sort);
            dueRead("sort " + sort + " of no part", x, 0, OWN, 3, 1);
        }
        long[] whole = {2, 5, 5, 0, 1, 6, 1, 1, 7, 2, 3, 8, 3, 1, 2, 1, 5, 0, 1, 9, 4, 2, 5, 5};
        for (int n = 0; n <= whole.length; n++) {
            x = withAllSorts();
            tape(x, whole);
            x.cut(n);
            if (n == whole.length) {
                dueRead("whole", x, 0, 0, NONE, 0);
            } else {
                dueRead("cut at " + n, x, 0, INDEX, n, n >= 14 && n < 19 ? 2 : 1);
            }
        }
        for (long n : new long[] {6, 250, 251, HIGH, 1L << 32, Long.MAX_VALUE}) {
            x = withAllSorts();
            tape(x, whole);
            x.set(1, n);
            dueRead(n + " parts", x, 0, INDEX, 24, 1);
        }
    }

    private static void readRows() {
        RecordLeaves x = withAllSorts();
        x.part(2, 1, 0, INT, 0);
        for (int version = 0; version < 2; version++) {
            for (long m : new long[] {-2, -5, Long.MIN_VALUE, -1L << 32}) {
                tape(x, 2, 1, 9, 4, m);
                dueRead("row of " + m, x, version, SIZE, 4, 1);
            }
            for (long m : new long[] {9, HIGH, 1L << 32, Long.MAX_VALUE}) {
                tape(x, 2, 1, 9, 4, m);
                dueRead("row of " + m, x, version, OWN, 4, 1);
            }
            tape(x, 2, 1, 9, 4, 8, 1, 2, 3, 4, 5, 6, 7, 8);
            dueRead("row of 8", x, version, 0, NONE, 0);
            x.cut(12);
            dueRead("row cut", x, version, INDEX, 12, 1);
            tape(x, 2, 1, 9, 4, 0);
            dueRead("row of 0", x, version, 0, NONE, 0);
            tape(x, 2, 1, 9, 4, -1);
            dueRead("no row", x, version, 0, NONE, 0);
        }
        tape(x, 2, 1, 9, 4, 0);
        x.read(0, 1);
        due("row of 0", x.number(1, 4), -7);
        tape(x, 2, 1, 9, 4, -1);
        x.read(0, 1);
        due("no row", x.number(1, 4), -10);
    }

    private static void readConstants() {
        RecordLeaves x = withAllSorts();
        x.part(2, 1, 7, CONSTANT, 0);
        x.part(2, 2, 7, CONSTANT, 0);
        x.constant(0, 0, 0, false);
        tape(x, 2, 1, 7, 2, 1);
        dueRead("version 0", x, 0, 0, NONE, 0);
        due("loud", x.number(9, 2), -8);
        dueRead("version 1", x, 1, 0, NONE, 0);
        due("plain", x.number(9, 0), -9);
        dueRead("version 2", x, 2, ILLEGAL, 4, 1);
        for (long name : new long[] {2, -2, 10, (1L << 32) | 1, Long.MIN_VALUE}) {
            tape(x, 2, 1, 7, 2, name);
            dueRead("constant " + name, x, 0, ILLEGAL, 4, 1);
        }
        tape(x, 2, 2, 7, 2, 2, 7, 2, 1);
        dueRead("an earlier one that is illegal", x, 0, ILLEGAL, 4, 1);
        tape(x, 2, 1, 7, 2, -1);
        dueRead("nothing", x, 2, 0, NONE, 0);
        due("nothing", x.number(9, 0), -10);
        tape(x, 2, 1, 7, 2, 0);
        dueRead("name 0", x, 0, 0, NONE, 0);
        due("name 0", x.number(9, 2), -9);
    }

    /** Kind 3 has no parts at all, kind 2 has one with a check that never holds. */
    private static void readGoneThrough() {
        RecordLeaves x = withConstants();
        x.part(2, 0, 0, INT, 0);
        x.part(2, 0, 1, CONSTANT, 0);
        x.check(2, 0, 1, 0, 0);
        tape(x, 3, 4, 5, 2, 8, 0, 0, 1L << 40, 1, 1, 5, 2, 3, 1, 2, 1, 1, 2, 9);
        dueRead("no illegal, no own of a number, no check", x, 0, 0, NONE, 0);
        due("one was made", x.count(0), 1);
        tape(x, 3, 1, 2, 3, 1, 2, 1, 0, 4, 0);
        dueRead("another sort in what is gone through", x, 0, 0, NONE, 0);
        tape(x, 3, 1, 2, 3, 1, 6);
        dueRead("a kind", x, 0, OWN, 5, 2);
        tape(x, 3, 1, 2, 3, 1, 2, 1, 0, 5);
        dueRead("a sort", x, 0, OWN, 8, 2);
        tape(x, 3, 1, 2, 3, 1, 2, 1, 0, 4, -2);
        dueRead("a size", x, 0, SIZE, 9, 2);
        tape(x, 3, 1, 2, 3, 1, 2, 1, 0, 4, 9);
        dueRead("too many items", x, 0, OWN, 9, 2);
        tape(x, 3, 1, 2, 3, 1, 2, 1, 0, 4, 2, 1);
        dueRead("an item that there is not", x, 0, INDEX, 11, 2);
        tape(x, 3, 2, 2, 3, 1, 2, 0, 5);
        dueRead("behind what was gone through", x, 0, INDEX, 8, 1);
        due("none of these was made", x.count(0), 2);
    }

    private static void readDeep() {
        RecordLeaves x = new RecordLeaves();
        x.part(2, 0, 0, RECORD, 2);
        for (int version = 0; version < 2; version++) {
            for (int depth = 1; depth <= 8; depth++) {
                long[] leaves = new long[5 * depth];
                for (int i = 0; i < depth; i++) {
                    leaves[5 * i] = 2;
                    leaves[5 * i + 1] = 1;
                    leaves[5 * i + 3] = 3;
                    leaves[5 * i + 4] = i == depth - 1 ? 0 : -7;
                }
                tape(x, leaves);
                dueRead(depth + " records", x, version, depth <= 6 ? 0 : DEEP, depth <= 6 ? NONE : 29, depth <= 6 ? 0 : 6);
            }
        }
        tape(x, 2, 2, 0, 3, 1, 2, 0, 0, 3, 1, 2, 0);
        dueRead("one behind another is not deeper", x, 0, 0, NONE, 0);
        due("made", x.count(0), 1 + 2 + 3 + 4 + 5 + 6 + 6 + 3);
    }

    private static void readMaking() {
        RecordLeaves x = new RecordLeaves();
        x.part(2, 0, 0, RECORD, 2);
        x.part(2, 0, 1, INT, 0);
        x.part(2, 0, 2, ROW, 0);
        tape(x, 2, 1, 0, 3, 1, 3, 0);
        dueRead("a record of another kind", x, 0, OWN, 6, 1);
        due("the inner one was made", x.count(0), 1);
        x.check(2, 0, 2, 2, 1);
        dueRead("parts before checks", x, 0, OWN, 6, 1);
        tape(x, 2, 1, 0, 3, 1, 2, 0, 7, 7);
        dueRead("null, of the inner one", x, 0, NULL, 6, 2);
        tape(x, 2, 2, 0, 3, 1, 2, 1, 2, 4, 1, 5, 2, 4, 0);
        dueRead("index, of the outer one", x, 0, INDEX, 13, 1);
        due("the inner one was made", x.count(0), 3);
        tape(x, 2, 1, 2, 4, 1, 0);
        dueRead("own, of the check", x, 0, OWN, 5, 1);
        x.check(2, 0, 1, 1, 0);
        tape(x, 2, 1, 2, 4, 1, 1);
        dueRead("zero", x, 0, ZERO, 5, 1);
        tape(x, 2, 2, 2, 4, 3, 0, 0, 1, 1, 0, 2);
        dueRead("all hold", x, 0, 0, NONE, 0);
        x.part(3, 0, 0, RECORD, 4);
        x.part(3, 0, 1, INT, 0);
        x.part(4, 0, 0, ROW, 0);
        x.check(3, 0, 3, 0, 1);
        tape(x, 3, 1, 0, 3, 1, 4, 0);
        dueRead("cast, of the check", x, 0, CAST, 6, 1);
    }

    private static void cause() {
        RecordLeaves x = withAllSorts();
        x.make(2, 0, 1);
        dueCause("made", x, 0, NONE, 0);
        x.give(0, 1L << 33, 0);
        x.make(2, 0, 1);
        dueCause("not made", x, OWN, NONE, 0);
        x.make(1, 0, 1);
        x.make(2, 0, 10);
        x.read(3, 1);
        x.read(0, 10);
        x.write(1);
        x.leaf(-1);
        dueCause("bad ones do not count", x, OWN, NONE, 0);
        x.set(14, 1);
        x.cut(14);
        x.set(13, 1);
        x.read(0, 2);
        dueCause("a reading", x, INDEX, 14, 2);
        x.make(3, 0, 3);
        dueCause("the latest", x, 0, NONE, 0);
        x.read(0, 2);
        x.give(0, 0, 0);
        tape(x, 3, 0);
        x.read(0, 2);
        dueCause("the latest", x, 0, NONE, 0);
        for (int what : new int[] {-1, 3, LOW, HIGH}) {
            due("cause(" + what + ")", x.cause(what), BAD);
        }
    }

    private static void status() {
        RecordLeaves x = withAllSorts();
        due("at first", x.status(), BAD);
        x.make(2, 0, 1);
        due("no number yet", x.status(), BAD);
        x.number(1, 0);
        due("a number", x.status(), 0);
        due("again", x.status(), 0);
        x.leaf(0);
        due("no leaf", x.status(), BAD);
        x.number(1, 3);
        due("a family", x.status(), 0);
        x.number(2, 0);
        due("no record", x.status(), BAD);
        x.write(1);
        x.leaf(16);
        due("a leaf", x.status(), 0);
        x.leaf(17);
        due("no leaf", x.status(), BAD);
    }

    private static void count() {
        RecordLeaves x = withAllSorts();
        due("made", x.count(0), 0);
        x.make(2, 0, 1);
        x.make(2, 0, 1);
        x.give(0, 1L << 33, 0);
        x.make(2, 0, 1);
        due("made", x.count(0), 2);
        x.write(1);
        due("leaves", x.count(3), 17);
        x.read(0, 2);
        due("made", x.count(0), 3);
        due("readings", x.count(1), 1);
        x.cut(16);
        x.read(0, 2);
        x.read(0, 3);
        due("made", x.count(0), 3);
        due("readings", x.count(1), 1);
        due("readings that failed", x.count(2), 2);
        due("leaves", x.count(3), 16);
        tape(x, 2, 1, 8, 3, 1, 2, 1, 8, 3, 1, 2, 0, 5);
        x.set(1, 2);
        x.read(0, 4);
        due("made in one that failed", x.count(0), 5);
        due("readings that failed", x.count(2), 3);
        due("places", x.count(4), 2);
        x.row(9, 0);
        x.hold(8, 0, 0, 3);
        due("places", x.count(4), 4);
        x.share(1, 0);
        x.row(9, NONE);
        due("places", x.count(4), 2);
        for (int place = 0; place < 10; place++) {
            x.row(place, 0);
        }
        due("all places", x.count(4), 10);
        for (int what : new int[] {-1, 5, LOW, HIGH}) {
            due("count(" + what + ")", x.count(what), BAD);
        }
    }

    public static void main(String[] args) {
        Runnable[] promises = {PromiseTests::newObject, PromiseTests::constant, PromiseTests::part,
            PromiseTests::check, PromiseTests::hold, PromiseTests::row, PromiseTests::item, PromiseTests::share,
            PromiseTests::give, PromiseTests::make, PromiseTests::about, PromiseTests::number, PromiseTests::take,
            PromiseTests::like, PromiseTests::write, PromiseTests::leaf, PromiseTests::set, PromiseTests::cut,
            PromiseTests::read, PromiseTests::cause, PromiseTests::status, PromiseTests::count};
        for (Runnable one : promises) {
            promise++;
            one.run();
        }
        System.out.println(wrong == 0 ? "all promises hold" : wrong + " answers are not as due");
        if (wrong != 0) {
            System.exit(1);
        }
    }
}
