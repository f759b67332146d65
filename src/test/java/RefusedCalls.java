import java.util.ArrayList;
import java.util.Arrays;
import java.util.LinkedHashMap;
import java.util.List;
import java.util.Map;

/**
 * What is refused changes nothing: two objects are brought to one state by the same calls, one of them then refuses a
 * call, and from there on both must answer everything alike. A look is a run of calls that shows a part of the state;
 * as looks change what they show, and an object is used for 512 calls, each has two objects of its own.
 */
public final class RefusedCalls {
    private static final int BAD = RecordLeaves.BAD, FULL = RecordLeaves.FULL, NONE = RecordLeaves.NONE;
    private static final int LOW = Integer.MIN_VALUE, HIGH = Integer.MAX_VALUE;
    private static final int INT = 0, LONG = 1, CONSTANT = 2, RECORD = 3, ROW = 4;
    private static final int CAST = 1, OWN = 2, NULL = 3, INDEX = 4, ZERO = 5, SIZE = 6, ILLEGAL = 7, DEEP = 8;
    private static final long BEYOND = 1L << 32;

    /** The numbers just beside low .. high, and those farthest from them. */
    private static long[] beside(int low, int high) {
        return new long[] {low - 1, high + 1, LOW, HIGH};
    }

    private static final long[] NO_PLACE = beside(0, 9), NO_VERSION = beside(0, 2), NO_NAME = beside(0, 9);
    private static final long[] NO_ENUM = beside(0, 1), NO_RECORD_KIND = beside(2, 5);

    private interface State {
        void build(RecordLeaves x);
    }

    private interface Look {
        void at(Answers x);
    }

    /** A call by its name, so that it can be told. */
    private static final class Step {
        final String name;
        final long[] args;

        Step(String name, long... args) {
            this.name = name;
            this.args = args;
        }

        private int arg(int i) {
            return (int) args[i];
        }

        long on(RecordLeaves x) {
            switch (name) {
                case "constant":
                    return x.constant(arg(0), arg(1), arg(2), args[3] == 1);
                case "part":
                    return x.part(arg(0), arg(1), arg(2), arg(3), arg(4));
                case "check":
                    return x.check(arg(0), arg(1), arg(2), arg(3), arg(4));
                case "hold":
                    return x.hold(arg(0), arg(1), arg(2), arg(3));
                case "row":
                    return x.row(arg(0), arg(1));
                case "item":
                    return x.item(arg(0), arg(1), arg(2));
                case "share":
                    return x.share(arg(0), arg(1));
                case "give":
                    return x.give(arg(0), args[1], arg(2));
                case "make":
                    return x.make(arg(0), arg(1), arg(2));
                case "take":
                    return x.take(arg(0), arg(1), arg(2));
                case "set":
                    return x.set(arg(0), args[1]);
                default:
                    return shorter(x);
            }
        }

        private long shorter(RecordLeaves x) {
            switch (name) {
                case "about":
                    return x.about(arg(0), arg(1));
                case "number":
                    return x.number(arg(0), arg(1));
                case "like":
                    return x.like(arg(0), arg(1));
                case "write":
                    return x.write(arg(0));
                case "leaf":
                    return x.leaf(arg(0));
                case "cut":
                    return x.cut(arg(0));
                case "read":
                    return x.read(arg(0), arg(1));
                case "cause":
                    return x.cause(arg(0));
                case "status":
                    return x.status();
                case "count":
                    return x.count(arg(0));
                default:
                    throw new IllegalStateException(name);
            }
        }

        @Override
        public String toString() {
            return name + Arrays.toString(args);
        }
    }

    /** The calls of a look and what an object answered. */
    private static final class Answers {
        final RecordLeaves x;
        final List<String> calls = new ArrayList<>();
        final List<Long> answers = new ArrayList<>();

        Answers(RecordLeaves x) {
            this.x = x;
        }

        long ask(String name, long... args) {
            Step step = new Step(name, args);
            long answer = step.on(x);
            calls.add(step.toString());
            answers.add(answer);
            return answer;
        }
    }

    private static int wrong = 0;
    private static int refusals = 0;

    private static void tell(String text) {
        wrong++;
        if (wrong <= 40) {
            System.out.println(text);
        }
    }

    // ---- states

    /** Constants, parts of each sort, checks; version 2 of kinds 4 and 5 is left for the looks. */
    private static void shapes(RecordLeaves x) {
        x.constant(0, 0, 0, false);
        x.constant(0, 0, 9, true);
        x.constant(0, 1, 4, false);
        x.constant(1, 2, 7, true);
        for (int sort = 0; sort < 5; sort++) {
            x.part(2, 0, 5 + sort, sort, sort == RECORD ? 2 : 0);
        }
        x.check(2, 0, 0, 0, 0);
        x.check(2, 0, 0, 0, 0);
        x.part(3, 0, 0, ROW, 0);
        x.part(3, 0, 1, INT, 0);
        x.check(3, 0, 2, 0, 1);
        x.part(3, 1, 2, INT, 0);
        x.check(3, 1, 1, 0, 0);
        x.part(4, 0, 3, RECORD, 5);
        x.part(4, 0, 4, INT, 0);
        x.check(4, 0, 3, 0, 1);
        x.part(4, 1, 3, CONSTANT, 0);
        x.part(4, 1, 4, INT, 0);
        x.check(4, 1, 4, 0, 1);
    }

    /** Things of each family in the places, 0 and 8 with nothing; a tape; a reading that failed; a number told. */
    private static void rich(RecordLeaves x) {
        shapes(x);
        x.hold(1, 0, 0, 0);
        x.hold(2, 0, 0, 9);
        x.row(3, 8);
        x.item(3, 0, 6);
        x.item(3, 7, -6);
        x.row(4, 0);
        x.make(5, 1, 6);
        x.make(2, 0, 9);
        x.give(0, -4, 0);
        x.give(1, BEYOND, 1);
        x.give(2, 3, 2);
        x.give(3, 2, 9);
        x.give(4, 1, 3);
        x.make(2, 0, 5);
        x.share(7, 3);
        x.write(5);
        x.read(0, 8);
        x.cut(30);
        x.read(0, 8);
        x.row(8, NONE);
        x.number(5, 1);
    }

    /** Place 0 holds a chain of 31 records that takes 251 leaves, place 1 one that takes 250 and is written. */
    private static void tooLong(RecordLeaves x) {
        x.part(3, 0, 7, RECORD, 3);
        x.part(3, 0, 8, ROW, 0);
        x.give(1, 5, 9);
        for (int place = 0; place < 2; place++) {
            x.give(0, 0, 8);
            x.row(9, place == 0 ? 3 : 2);
            x.make(3, 0, place);
            x.give(0, 6, place);
            x.row(9, NONE);
            for (int records = 2; records <= 31; records++) {
                x.make(3, 0, place);
            }
        }
        x.write(1);
        x.set(7, 44);
        x.leaf(7);
    }

    // ---- looks

    private static void told(Answers a) {
        for (int what = 0; what < 3; what++) {
            a.ask("cause", what);
        }
        for (int what = 0; what < 5; what++) {
            a.ask("count", what);
        }
        for (int place = 0; place < 10; place++) {
            for (int what = 0; what < 4; what++) {
                a.ask("about", place, what);
            }
            for (int p = 0; p < 5; p++) {
                a.ask("number", place, p);
            }
        }
    }

    private static void leaves(Answers a) {
        long size = a.ask("count", 3);
        for (int k = 0; k < size; k++) {
            a.ask("leaf", k);
        }
        a.ask("leaf", size);
        a.ask("status");
    }

    private static void things(Answers a) {
        for (int one = 0; one < 10; one++) {
            for (int other = 0; other < one; other++) {
                a.ask("like", one, other);
            }
        }
        for (int place = 0; place < 10; place++) {
            for (int i = 0; i < 8; i++) {
                a.ask("item", place, i, 100 * place + i);
            }
        }
        for (int place = 9; place >= 0; place--) {
            for (int p = 0; p < 5; p++) {
                a.ask("take", place, p, (place + 5) % 10);
            }
            a.ask("item", (place + 5) % 10, 0, place);
            a.ask("write", place);
        }
    }

    private static void constants(Answers a) {
        for (int kind = 0; kind < 2; kind++) {
            for (int version = 0; version < 3; version++) {
                for (int name = 0; name < 10; name++) {
                    a.ask("row", 0, NONE);
                    a.ask("hold", 0, kind, version, name);
                    a.ask("about", 0, 0);
                    a.ask("constant", kind, version, name, 0);
                }
            }
        }
    }

    private static void parts(Answers a) {
        for (int i = 0; i < 12; i++) {
            a.ask("make", 2 + i / 3, i % 3, 8);
            a.ask("about", 8, 3);
            for (int name = 0; name < 10; name++) {
                a.ask("part", 2 + i / 3, i % 3, name, LONG, 0);
            }
        }
    }

    /** Each check is taken if its parts are of the sorts that it wants, until there are two. */
    private static void sorts(Answers a) {
        for (int i = 0; i < 12; i++) {
            for (int how = 0; how < 5; how++) {
                for (int p = 0; p < 5; p++) {
                    a.ask("check", 2 + i / 3, i % 3, how, p, how == 3 ? 1 : 0);
                }
            }
        }
    }

    /** What a making needs to pass, and what it wants of its checks. */
    private static void checks(Answers a) {
        for (int kind = 2; kind < 6; kind++) {
            for (int version = 0; version < 3; version++) {
                for (int number : new int[] {0, 1, 3}) {
                    a.ask("make", kind, version, 8);
                    a.ask("about", 8, 3);
                    for (int p = 0; p < 5; p++) {
                        a.ask("give", p, number, 4 * number);
                    }
                }
            }
        }
        a.ask("row", 3, NONE);
        a.ask("make", 3, 0, 8);
        a.ask("make", 4, 0, 8);
        a.ask("make", 4, 1, 8);
    }

    /** The given numbers and, by rows of as many items as the place's number tells, the given places. */
    private static void given(Answers a) {
        for (int p = 0; p < 5; p++) {
            a.ask("part", 4, 2, p, LONG, 0);
            a.ask("part", 5, 2, p, ROW, 0);
        }
        a.ask("make", 4, 2, 9);
        for (int p = 0; p < 5; p++) {
            a.ask("number", 9, p);
        }
        for (int place = 0; place < 10; place++) {
            a.ask("row", place, place == 9 ? NONE : place);
        }
        a.ask("make", 5, 2, 9);
        for (int p = 0; p < 5; p++) {
            a.ask("take", 9, p, 8);
            a.ask("about", 8, 3);
        }
    }

    private static void readings(Answers a) {
        for (int version = 0; version < 3; version++) {
            a.ask("read", version, 8);
            for (int what = 0; what < 3; what++) {
                a.ask("cause", what);
            }
        }
        a.ask("count", 0);
        a.ask("count", 1);
        a.ask("count", 2);
        a.ask("cut", 0);
        a.ask("write", 5);
        a.ask("read", 0, 8);
        a.ask("like", 5, 8);
    }

    private static final Look[] LOOKS = {RefusedCalls::told, RefusedCalls::leaves, RefusedCalls::things,
        RefusedCalls::constants, RefusedCalls::parts, RefusedCalls::sorts, RefusedCalls::checks, RefusedCalls::given,
        RefusedCalls::readings};

    // ---- comparing

    /** How a look's answers differ behind a step from those without it. */
    private static Map<String, Long> differences(State state, Step step, Look look) {
        RecordLeaves one = new RecordLeaves();
        RecordLeaves other = new RecordLeaves();
        state.build(one);
        state.build(other);
        step.on(one);
        Answers with = new Answers(one);
        Answers without = new Answers(other);
        look.at(with);
        look.at(without);
        Map<String, Long> differ = new LinkedHashMap<>();
        for (int i = 0; i < Math.max(with.calls.size(), without.calls.size()); i++) {
            if (i >= with.calls.size() || i >= without.calls.size()) {
                differ.put("as many calls", 0L);
            } else if (!with.answers.get(i).equals(without.answers.get(i))) {
                differ.put(i + ": " + with.calls.get(i), with.answers.get(i));
            }
        }
        return differ;
    }

    private static boolean tellsByStatus(Step step) {
        return step.name.equals("number") || step.name.equals("leaf");
    }

    private static void dueRefused(String text, State state, long answer, Step step) {
        refusals++;
        RecordLeaves x = new RecordLeaves();
        state.build(x);
        int before = x.status();
        long got = step.on(x);
        if (got != answer) {
            tell(text + ": " + step + " answered " + got + ", due is " + answer);
        }
        int want = tellsByStatus(step) ? BAD : before;
        if (x.status() != want) {
            tell(text + ": behind " + step + " status() answered " + x.status() + ", due is " + want);
        }
        for (Look look : LOOKS) {
            Map<String, Long> differ = differences(state, step, look);
            if (!differ.isEmpty()) {
                tell(text + ": " + step + " changed " + differ);
            }
        }
    }

    /** Each argument in turn becomes one of those that are not taken; null: it has none such. */
    private static void dueEachRefused(State state, String name, long[] fine, long[]... bad) {
        long answer = name.equals("number") || name.equals("leaf") ? 0 : BAD;
        for (int i = 0; i < bad.length; i++) {
            for (int k = 0; bad[i] != null && k < bad[i].length; k++) {
                long[] args = fine.clone();
                args[i] = bad[i][k];
                dueRefused("argument " + i, state, answer, new Step(name, args));
            }
        }
    }

    private static long[] these(long... numbers) {
        return numbers;
    }

    // ---- what is refused

    private static void shapesRefused(State s) {
        long[] noSort = beside(0, 4), noHow = beside(0, 4), noPart = beside(0, 1);
        dueEachRefused(s, "constant", these(0, 2, 5, 1), NO_ENUM, NO_VERSION, NO_NAME, null);
        dueRefused("the name is there", s, BAD, new Step("constant", 0, 0, 9, 0));
        dueRefused("the name is there", s, BAD, new Step("constant", 1, 2, 7, 1));
        dueEachRefused(s, "part", these(5, 2, 8, CONSTANT, 1), NO_RECORD_KIND, NO_VERSION, NO_NAME, noSort, NO_ENUM);
        dueEachRefused(s, "part", these(5, 2, 8, RECORD, 5), NO_RECORD_KIND, NO_VERSION, NO_NAME, noSort, NO_RECORD_KIND);
        dueEachRefused(s, "part", these(5, 2, 8, INT, 0), NO_RECORD_KIND, NO_VERSION, NO_NAME, noSort, null);
        dueRefused("the name is there", s, BAD, new Step("part", 3, 0, 1, LONG, 0));
        dueRefused("a sixth part", s, FULL, new Step("part", 2, 0, 0, INT, 0));
        dueRefused("a sixth part, its name is there", s, BAD, new Step("part", 2, 0, 5, INT, 0));
        dueEachRefused(s, "check", these(3, 0, 2, 0, 1), NO_RECORD_KIND, NO_VERSION, noHow, noPart, noPart);
        dueRefused("a of another sort", s, BAD, new Step("check", 3, 0, 2, 1, 1));
        dueRefused("a of another sort", s, BAD, new Step("check", 3, 0, 1, 0, 1));
        dueRefused("b of another sort", s, BAD, new Step("check", 3, 0, 2, 0, 0));
        for (int how = 0; how < 5; how++) {
            dueRefused("a third check", s, FULL, new Step("check", 2, 0, how, these(0, 0, 4, 3, 2)[how], 0));
        }
        dueRefused("a third check of another sort", s, BAD, new Step("check", 2, 0, 0, 1, 0));
    }

    private static void placesRefused(State s) {
        dueEachRefused(s, "hold", these(5, 0, 1, 4), NO_PLACE, NO_ENUM, NO_VERSION, NO_NAME);
        for (int place = 0; place < 10; place++) {
            dueRefused("there is none such", s, NONE, new Step("hold", place, 1, 1, 4));
        }
        dueEachRefused(s, "row", these(5, 3), NO_PLACE, these(-1, -2, -4, 9, LOW, HIGH));
        dueEachRefused(s, "item", these(3, 7, 5), NO_PLACE, beside(0, 7), null);
        for (int place : new int[] {0, 1, 2, 4, 5, 6, 9}) {
            dueRefused("no row, or of no items", s, BAD, new Step("item", place, 0, 5));
        }
        dueEachRefused(s, "share", these(5, 3), NO_PLACE, NO_PLACE);
        dueEachRefused(s, "give", these(4, 77, 1), beside(0, 4), null, NO_PLACE);
        dueEachRefused(s, "make", these(5, 0, 3), NO_RECORD_KIND, NO_VERSION, NO_PLACE);
        dueEachRefused(s, "about", these(5, 0), NO_PLACE, beside(0, 3));
        dueEachRefused(s, "number", these(5, 0), NO_PLACE, beside(0, 4));
        dueEachRefused(s, "take", these(5, 4, 1), NO_PLACE, beside(0, 4), NO_PLACE);
        dueRefused("a number", s, BAD, new Step("take", 5, 0, 1));
        dueRefused("a number", s, BAD, new Step("take", 5, 1, 1));
        for (int place : new int[] {0, 1, 2, 3, 4}) {
            dueRefused("no record", s, BAD, new Step("take", place, 2, 1));
            dueRefused("no record", s, 0, new Step("number", place, 0));
            dueRefused("no record", s, BAD, new Step("write", place));
        }
        dueEachRefused(s, "like", these(5, 3), NO_PLACE, NO_PLACE);
    }

    private static void tapeRefused(State s, int size) {
        dueEachRefused(s, "write", these(5), NO_PLACE);
        dueEachRefused(s, "leaf", these(0), beside(0, size - 1));
        dueEachRefused(s, "set", these(0, 77), size == 250 ? beside(0, 250) : beside(0, size), null);
        dueEachRefused(s, "cut", these(0), beside(0, size));
        dueEachRefused(s, "read", these(0, 5), NO_VERSION, NO_PLACE);
        dueEachRefused(s, "cause", these(0), beside(0, 2));
        dueEachRefused(s, "count", these(0), beside(0, 4));
        if (size == 250) {
            dueRefused("leaf 251", s, FULL, new Step("set", 250, 77));
        }
    }

    // ---- what is not refused is seen by a look, or the looks would show nothing

    private static void dueSeen(State state, String name, long... args) {
        Step step = new Step(name, args);
        boolean seen = false;
        for (Look look : LOOKS) {
            seen = seen || !differences(state, step, look).isEmpty();
        }
        if (!seen) {
            tell("no look shows that " + step + " changed something");
        }
    }

    private static void takenIsSeen() {
        State s = RefusedCalls::rich;
        for (int kind = 0; kind < 2; kind++) {
            for (int version = 0; version < 3; version++) {
                dueSeen(s, "constant", kind, version, 5, 0);
                dueSeen(s, "constant", kind, version, 5, 1);
            }
        }
        for (int i = 3; i < 12; i++) {
            for (int sort = 0; sort < 5; sort++) {
                dueSeen(s, "part", 2 + i / 3, i % 3, 8, sort, sort == RECORD ? 4 : 1);
            }
        }
        dueSeen(s, "check", 3, 0, 1, 1, 0);
        dueSeen(s, "check", 3, 1, 0, 0, 0);
        dueSeen(s, "hold", 8, 0, 0, 0);
        dueSeen(s, "row", 8, 0);
        dueSeen(s, "row", 4, NONE);
        dueSeen(s, "item", 3, 7, 0);
        for (int place = 0; place < 10; place++) {
            dueSeen(s, "share", place, place == 3 || place == 7 ? 4 : 3);
        }
        for (int p = 0; p < 5; p++) {
            dueSeen(s, "give", p, 99, these(0, 1, 2, 9, 3)[p]);
            dueSeen(s, "give", p, these(-4, BEYOND, 3, 2, 1)[p], 4);
        }
        dueSeen(s, "make", 5, 0, 8);
        dueSeen(s, "make", 2, 0, 5);
        dueSeen(s, "take", 5, 4, 8);
        dueSeen(s, "write", 6);
        dueSeen(s, "set", 29, 77);
        dueSeen(s, "set", 30, 77);
        dueSeen(s, "cut", 29);
        dueSeen(s, "read", 0, 8);
        dueSeen(s, "read", 1, 8);
    }

    // ---- a making or a reading that fails: the cause and the counts alone

    private static void dueFails(String text, State state, Step step, int why, int leaf, int open, int made) {
        RecordLeaves x = new RecordLeaves();
        state.build(x);
        int status = x.status(), madeBefore = x.count(0), failedBefore = x.count(2);
        boolean reading = step.name.equals("read");
        long got = step.on(x);
        if (got != why || x.cause(0) != why || x.cause(1) != leaf || x.cause(2) != open) {
            tell(text + ": " + step + " answered " + got + ", causes " + x.cause(0) + ", " + x.cause(1) + ", " + x.cause(2));
        }
        if (x.count(0) != madeBefore + made || x.count(2) != failedBefore + (reading ? 1 : 0) || x.status() != status) {
            tell(text + ": behind " + step + " other counts or another status than are due");
        }
        for (Look look : LOOKS) {
            Map<String, Long> differ = differences(state, step, look);
            // These ask for the cause and for the counts of makings and readings, which were looked at above.
            differ.keySet().removeIf(call -> call.matches(".*(cause|count\\[0|count\\[2).*"));
            if (!differ.isEmpty()) {
                tell(text + ": " + step + " changed " + differ);
            }
        }
    }

    private static State richAnd(Step... steps) {
        return x -> {
            rich(x);
            for (Step step : steps) {
                step.on(x);
            }
        };
    }

    private static State richWithTape(long... leaves) {
        return x -> {
            rich(x);
            x.cut(0);
            for (int k = 0; k < leaves.length; k++) {
                x.set(k, leaves[k]);
            }
        };
    }

    private static void makingsFail() {
        for (int place = 0; place < 10; place++) {
            State own = richAnd(new Step("give", 0, BEYOND, 0));
            dueFails("an int", own, new Step("make", 2, 0, place), OWN, NONE, 0, 0);
            State cast = richAnd(new Step("give", 2, 0, 3));
            dueFails("a row for a constant", cast, new Step("make", 2, 0, place), CAST, NONE, 0, 0);
            State zero = richAnd(new Step("give", 0, 0, 0));
            dueFails("zero", zero, new Step("make", 3, 1, place), ZERO, NONE, 0, 0);
            State nothing = richAnd(new Step("give", 1, 0, 0));
            dueFails("nothing", nothing, new Step("make", 4, 0, place), NULL, NONE, 0, 0);
            State index = richAnd(new Step("give", 0, 0, 3), new Step("give", 1, 8, 0));
            dueFails("no such item", index, new Step("make", 3, 0, place), INDEX, NONE, 0, 0);
        }
    }

    private static void readingsFail() {
        for (int place = 0; place < 10; place++) {
            Step read = new Step("read", 0, place);
            dueFails("no leaf", richWithTape(), read, INDEX, 0, 1, 0);
            dueFails("a kind", richWithTape(6), read, OWN, 0, 1, 0);
            dueFails("a sort", richWithTape(2, 1, 5, 1, 0), read, CAST, 3, 1, 0);
            dueFails("a size", richWithTape(2, 1, 9, 4, -2), read, SIZE, 4, 1, 0);
            dueFails("a name", richWithTape(2, 1, 7, 2, 1), read, ILLEGAL, 4, 1, 0);
            dueFails("nothing", richWithTape(3, 0), read, NULL, 1, 1, 0);
            dueFails("behind one that was made", richWithTape(2, 2, 8, 3, 1, 2, 0), read, INDEX, 7, 1, 1);
            long[] deep = new long[35];
            for (int k = 0; k < 35; k++) {
                deep[k] = new long[] {2, 1, 8, 3, 1}[k % 5];
            }
            dueFails("deep", richWithTape(deep), read, DEEP, 29, 6, 0);
            dueFails("zero", richWithTape(3, 1, 2, 0, 0), new Step("read", 1, place), ZERO, 4, 1, 0);
        }
    }

    public static void main(String[] args) {
        RecordLeaves x = new RecordLeaves();
        rich(x);
        int size = x.count(3);
        takenIsSeen();
        shapesRefused(RefusedCalls::rich);
        placesRefused(RefusedCalls::rich);
        tapeRefused(RefusedCalls::rich, size);
        tapeRefused(y -> { }, 0);
        dueRefused("a record of 251 leaves", RefusedCalls::tooLong, FULL, new Step("write", 0));
        tapeRefused(RefusedCalls::tooLong, 250);
        makingsFail();
        readingsFail();
        System.out.println(wrong == 0 ? refusals + " refused calls changed nothing" : wrong + " things are not as due");
        if (wrong != 0) {
            System.exit(1);
        }
    }
}
