/**
 * Records and constants of several versions, written as leaves of numbers and made back.
 * What each call promises stands in the document; nothing here ever throws.
 */
public final class RecordLeaves {
    public static final int BAD = -1, FULL = -2, NONE = -3;

    private static final int ENUM_KINDS = 2, RECORD_KINDS = 4, VERSIONS = 3, NAMES = 10, PLACES = 10;
    private static final int MOST_PARTS = 5, MOST_CHECKS = 2, MOST_ITEMS = 8, MOST_LEAVES = 250;
    private static final int DEEPEST = 6;

    private static final int INT = 0, LONG = 1, CONSTANT = 2, RECORD = 3, ROW = 4, SORTS = 5;
    private static final int AT_MOST = 0, DIVIDES = 1, ITEM_ABOVE = 2, PART_IS = 3, ORDER_BELOW = 4, HOWS = 5;
    private static final int NOTHING_FAMILY = 0, PLAIN_FAMILY = 1, LOUD_FAMILY = 2, ROW_FAMILY = 3, RECORD_FAMILY = 4;

    private static final int FINE = 0, CAST = 1, OWN = 2, NULL = 3, INDEX = 4, ZERO = 5, SIZE = 6, ILLEGAL = 7, DEEP = 8;

    private final Kinds kinds;
    private final Thing[] places;
    private final long[] givenNumbers;
    private final int[] givenPlaces;
    private final Tape tape;
    private int told;
    private int causeWhy;
    private int causeLeaf;
    private int causeRecords;
    private int made;
    private int readWell;
    private int readBadly;

    public RecordLeaves() {
        kinds = new Kinds();
        places = new Thing[PLACES];
        givenNumbers = new long[MOST_PARTS];
        givenPlaces = new int[MOST_PARTS];
        tape = new Tape();
        told = BAD;
        causeLeaf = NONE;
    }

    public int constant(int kind, int version, int name, boolean loud) {
        EnumVersion its = kinds.enumVersion(kind, version);
        if (its == null || !below(name, NAMES) || its.named(name) != null) {
            return BAD;
        }
        return its.add(name, loud);
    }

    public int part(int kind, int version, int name, int sort, int of) {
        RecordVersion its = kinds.recordVersion(kind, version);
        if (its == null || !below(name, NAMES) || !below(sort, SORTS) || !mayBeOf(sort, of)) {
            return BAD;
        }
        if (its.partNamed(name) != NONE) {
            return BAD;
        }
        return its.addPart(new Part(name, sort, of));
    }

    public int check(int kind, int version, int how, int a, int b) {
        RecordVersion its = kinds.recordVersion(kind, version);
        if (its == null || !below(how, HOWS) || !its.hasPart(a, sortChecked(how))) {
            return BAD;
        }
        if (how != DIVIDES && !its.hasPart(b, INT)) {
            return BAD;
        }
        return its.addCheck(new Check(how, a, b));
    }

    public int hold(int place, int kind, int version, int name) {
        EnumVersion its = kinds.enumVersion(kind, version);
        if (!below(place, PLACES) || its == null || !below(name, NAMES)) {
            return BAD;
        }
        Constant constant = its.named(name);
        if (constant == null) {
            return NONE;
        }
        places[place] = constant;
        return constant.order;
    }

    public int row(int place, int n) {
        if (!below(place, PLACES) || (n != NONE && !below(n, MOST_ITEMS + 1))) {
            return BAD;
        }
        places[place] = n == NONE ? null : new Row(n);
        return 1;
    }

    public int item(int place, int i, int v) {
        if (!below(place, PLACES) || !(places[place] instanceof Row row) || !below(i, row.items.length)) {
            return BAD;
        }
        int was = row.items[i];
        row.items[i] = v;
        return was;
    }

    public int share(int place, int from) {
        if (!below(place, PLACES) || !below(from, PLACES)) {
            return BAD;
        }
        places[place] = places[from];
        return familyOf(places[place]);
    }

    public int give(int p, long v, int place) {
        if (!below(p, MOST_PARTS) || !below(place, PLACES)) {
            return BAD;
        }
        givenNumbers[p] = v;
        givenPlaces[p] = place;
        return 1;
    }

    public int make(int kind, int version, int place) {
        RecordVersion its = kinds.recordVersion(kind, version);
        if (its == null || !below(place, PLACES)) {
            return BAD;
        }
        RecordThing draft = new RecordThing(its);
        for (int p = 0; p < draft.extent(); p++) {
            draft.put(p, givenNumbers[p], places[givenPlaces[p]]);
        }
        int why = its.whyNotMade(draft);
        if (why == FINE) {
            made++;
            places[place] = draft;
        }
        rememberCause(why, NONE, 0);
        return why;
    }

    public int about(int place, int what) {
        if (!below(place, PLACES)) {
            return BAD;
        }
        Thing thing = places[place];
        switch (what) {
            case 0:
                return familyOf(thing);
            case 1:
                return thing == null ? NONE : thing.kind();
            case 2:
                return thing == null ? NONE : thing.version();
            case 3:
                return thing == null ? 0 : thing.extent();
            default:
                return BAD;
        }
    }

    public long number(int place, int p) {
        told = BAD;
        if (!below(place, PLACES) || !(places[place] instanceof RecordThing held) || !below(p, held.extent())) {
            return 0;
        }
        told = 0;
        return held.isNumber(p) ? held.numbers[p] : familyOf(held.things[p]) - 10;
    }

    public int take(int place, int p, int to) {
        if (!below(place, PLACES) || !below(to, PLACES) || !(places[place] instanceof RecordThing held)) {
            return BAD;
        }
        if (!below(p, held.extent()) || held.isNumber(p)) {
            return BAD;
        }
        places[to] = held.things[p];
        return familyOf(places[to]);
    }

    public int like(int a, int b) {
        if (!below(a, PLACES) || !below(b, PLACES)) {
            return BAD;
        }
        return alike(places[a], places[b], 0) ? 1 : 0;
    }

    public int write(int place) {
        if (!below(place, PLACES) || !(places[place] instanceof RecordThing held)) {
            return BAD;
        }
        return tape.replaceBy(held);
    }

    public long leaf(int k) {
        told = BAD;
        if (!below(k, tape.size)) {
            return 0;
        }
        told = 0;
        return tape.leaves[k];
    }

    public int set(int k, long v) {
        if (!below(k, tape.size + 1)) {
            return BAD;
        }
        if (k == MOST_LEAVES) {
            return FULL;
        }
        tape.leaves[k] = v;
        tape.size = Math.max(tape.size, k + 1);
        return tape.size;
    }

    public int cut(int n) {
        if (!below(n, tape.size + 1)) {
            return BAD;
        }
        int went = tape.size - n;
        tape.size = n;
        return went;
    }

    public int read(int version, int place) {
        if (!below(version, VERSIONS) || !below(place, PLACES)) {
            return BAD;
        }
        Reader reader = new Reader(kinds, tape, version);
        RecordThing held = reader.nextRecord(true);
        made += reader.made;
        if (reader.why == FINE) {
            readWell++;
            places[place] = held;
            rememberCause(FINE, NONE, 0);
        } else {
            readBadly++;
            rememberCause(reader.why, reader.last, reader.open);
        }
        return reader.why;
    }

    public int cause(int what) {
        switch (what) {
            case 0:
                return causeWhy;
            case 1:
                return causeLeaf;
            case 2:
                return causeRecords;
            default:
                return BAD;
        }
    }

    public int status() {
        return told;
    }

    public int count(int what) {
        switch (what) {
            case 0:
                return made;
            case 1:
                return readWell;
            case 2:
                return readBadly;
            case 3:
                return tape.size;
            case 4:
                return heldPlaces();
            default:
                return BAD;
        }
    }

    private void rememberCause(int why, int leaf, int records) {
        causeWhy = why;
        causeLeaf = leaf;
        causeRecords = records;
    }

    private int heldPlaces() {
        int held = 0;
        for (int i = 0; i < PLACES; i++) {
            if (places[i] != null) {
                held++;
            }
        }
        return held;
    }

    private static boolean below(int i, int bound) {
        return i >= 0 && i < bound;
    }

    private static boolean mayBeOf(int sort, int of) {
        if (sort == CONSTANT) {
            return below(of, ENUM_KINDS);
        }
        return sort != RECORD || below(of - ENUM_KINDS, RECORD_KINDS);
    }

    /** The sort that part a of a check must have. */
    private static int sortChecked(int how) {
        switch (how) {
            case ITEM_ABOVE:
                return ROW;
            case PART_IS:
                return RECORD;
            case ORDER_BELOW:
                return CONSTANT;
            default:
                return INT;
        }
    }

    private static int familyOf(Thing thing) {
        return thing == null ? NOTHING_FAMILY : thing.family();
    }

    /** Whether two things, which stand within so many records, are like. */
    private static boolean alike(Thing a, Thing b, int within) {
        if (a == b) {
            return true;
        }
        if (a instanceof Row one && b instanceof Row other) {
            return sameItems(one.items, other.items);
        }
        // Deeper records are like only if they are the same, which also ends the descent.
        if (within < DEEPEST && a instanceof RecordThing one && b instanceof RecordThing other) {
            return alikeRecords(one, other, within);
        }
        return false;
    }

    private static boolean alikeRecords(RecordThing a, RecordThing b, int within) {
        if (a.its != b.its || a.extent() != b.extent()) {
            return false;
        }
        // All numbers go first: they are cheap, and the things may lead into many records.
        for (int p = 0; p < a.extent(); p++) {
            if (a.numbers[p] != b.numbers[p]) {
                return false;
            }
        }
        for (int p = 0; p < a.extent(); p++) {
            if (!alike(a.things[p], b.things[p], within + 1)) {
                return false;
            }
        }
        return true;
    }

    private static boolean sameItems(int[] a, int[] b) {
        if (a.length != b.length) {
            return false;
        }
        for (int i = 0; i < a.length; i++) {
            if (a[i] != b[i]) {
                return false;
            }
        }
        return true;
    }

    /** What a place or a part may hold; nothing is null. */
    private abstract static class Thing {
        abstract int family();

        abstract int kind();

        abstract int version();

        /** The order of a constant, how many items or parts of the others. */
        abstract int extent();
    }

    private static final class Constant extends Thing {
        private final EnumVersion its;
        private final int name;
        private final int order;
        private final boolean loud;

        Constant(EnumVersion its, int name, int order, boolean loud) {
            this.its = its;
            this.name = name;
            this.order = order;
            this.loud = loud;
        }

        int family() {
            return loud ? LOUD_FAMILY : PLAIN_FAMILY;
        }

        int kind() {
            return its.kind;
        }

        int version() {
            return its.version;
        }

        int extent() {
            return order;
        }
    }

    private static final class Row extends Thing {
        private final int[] items;

        Row(int n) {
            items = new int[Math.max(n, 0)];
        }

        int family() {
            return ROW_FAMILY;
        }

        int kind() {
            return NONE;
        }

        int version() {
            return NONE;
        }

        int extent() {
            return items.length;
        }
    }

    /** A record, or the draft of one: it counts only once whyNotMade() has let it pass. */
    private static final class RecordThing extends Thing {
        private final RecordVersion its;
        private final long[] numbers;
        private final Thing[] things;

        RecordThing(RecordVersion its) {
            this.its = its;
            numbers = new long[its.partCount];
            things = new Thing[its.partCount];
        }

        int family() {
            return RECORD_FAMILY;
        }

        int kind() {
            return its.kind;
        }

        int version() {
            return its.version;
        }

        int extent() {
            return numbers.length;
        }

        boolean isNumber(int p) {
            return its.parts[p].sort <= LONG;
        }

        /** Only what the part's sort looks at is kept, so that likeness may compare both rows whole. */
        void put(int p, long number, Thing thing) {
            if (isNumber(p)) {
                numbers[p] = number;
            } else {
                things[p] = thing;
            }
        }
    }

    private static final class Part {
        private final int name;
        private final int sort;
        private final int of;

        Part(int name, int sort, int of) {
            this.name = name;
            this.sort = sort;
            this.of = of;
        }

        int whyNotTaken(long number, Thing thing, int version) {
            if (sort == INT) {
                return number == (int) number ? FINE : OWN;
            }
            if (sort == LONG || thing == null) {
                return FINE;
            }
            if (!isOfClass(thing)) {
                return CAST;
            }
            return sort == ROW || (thing.kind() == of && thing.version() == version) ? FINE : OWN;
        }

        private boolean isOfClass(Thing thing) {
            switch (sort) {
                case CONSTANT:
                    return thing instanceof Constant;
                case RECORD:
                    return thing instanceof RecordThing;
                default:
                    return thing instanceof Row;
            }
        }
    }

    private static final class Check {
        private final int how;
        private final int a;
        private final int b;

        Check(int how, int a, int b) {
            this.how = how;
            this.a = a;
            this.b = b;
        }

        /** To be asked only of a draft whose parts have all been taken. */
        int whyNotPassed(RecordThing draft) {
            switch (how) {
                case AT_MOST:
                    return ownUnless(draft.numbers[a] <= draft.numbers[b]);
                case DIVIDES:
                    return whyNotDivisor(draft.numbers[a]);
                case ITEM_ABOVE:
                    return whyNotItemAbove(draft.things[a], draft.numbers[b]);
                case PART_IS:
                    return whyNotPartIs(draft.things[a], draft.numbers[b]);
                default:
                    return whyNotOrderBelow(draft.things[a], draft.numbers[b]);
            }
        }

        private static int ownUnless(boolean holds) {
            return holds ? FINE : OWN;
        }

        private static int whyNotDivisor(long number) {
            return number == 0 ? ZERO : ownUnless(100 % number == 0);
        }

        private static int whyNotItemAbove(Thing thing, long i) {
            if (!(thing instanceof Row row)) {
                return NULL;
            }
            if (i < 0 || i >= row.items.length) {
                return INDEX;
            }
            return ownUnless(row.items[(int) i] > 0);
        }

        private static int whyNotPartIs(Thing thing, long number) {
            if (!(thing instanceof RecordThing held)) {
                return NULL;
            }
            if (held.extent() == 0) {
                return INDEX;
            }
            return held.isNumber(0) ? ownUnless(held.numbers[0] == number) : CAST;
        }

        private static int whyNotOrderBelow(Thing thing, long bound) {
            if (!(thing instanceof Constant constant)) {
                return NULL;
            }
            return ownUnless(constant.order < bound);
        }
    }

    private static final class EnumVersion {
        private final int kind;
        private final int version;
        private final Constant[] constants;
        private int constantCount;

        EnumVersion(int kind, int version) {
            this.kind = kind;
            this.version = version;
            constants = new Constant[NAMES];
        }

        /** The constant of a name, which may be any leaf; null: there is none. */
        Constant named(long name) {
            for (int i = 0; i < constantCount; i++) {
                if (constants[i].name == name) {
                    return constants[i];
                }
            }
            return null;
        }

        int add(int name, boolean loud) {
            // Names that come once fill the row exactly, so it is never short.
            if (constantCount >= NAMES) {
                return BAD;
            }
            constants[constantCount] = new Constant(this, name, constantCount, loud);
            constantCount++;
            return constantCount - 1;
        }
    }

    private static final class RecordVersion {
        private final int kind;
        private final int version;
        private final Part[] parts;
        private final Check[] checks;
        private int partCount;
        private int checkCount;

        RecordVersion(int kind, int version) {
            this.kind = kind;
            this.version = version;
            parts = new Part[MOST_PARTS];
            checks = new Check[MOST_CHECKS];
        }

        /** The number of the part of a name, which may be any leaf, or NONE. */
        int partNamed(long name) {
            for (int p = 0; p < partCount; p++) {
                if (parts[p].name == name) {
                    return p;
                }
            }
            return NONE;
        }

        boolean hasPart(int p, int sort) {
            return below(p, partCount) && parts[p].sort == sort;
        }

        int addPart(Part part) {
            if (partCount >= MOST_PARTS) {
                return FULL;
            }
            parts[partCount] = part;
            partCount++;
            return partCount - 1;
        }

        int addCheck(Check check) {
            if (checkCount >= MOST_CHECKS) {
                return FULL;
            }
            checks[checkCount] = check;
            checkCount++;
            return checkCount - 1;
        }

        /** FINE, or why a draft of this version can't be made a record. */
        int whyNotMade(RecordThing draft) {
            for (int p = 0; p < draft.extent(); p++) {
                int why = parts[p].whyNotTaken(draft.numbers[p], draft.things[p], version);
                if (why != FINE) {
                    return why;
                }
            }
            for (int c = 0; c < checkCount; c++) {
                int why = checks[c].whyNotPassed(draft);
                if (why != FINE) {
                    return why;
                }
            }
            return FINE;
        }
    }

    private static final class Kinds {
        private final EnumVersion[] enums;
        private final RecordVersion[] records;

        Kinds() {
            enums = new EnumVersion[ENUM_KINDS * VERSIONS];
            for (int i = 0; i < enums.length; i++) {
                enums[i] = new EnumVersion(i / VERSIONS, i % VERSIONS);
            }
            records = new RecordVersion[RECORD_KINDS * VERSIONS];
            for (int i = 0; i < records.length; i++) {
                records[i] = new RecordVersion(ENUM_KINDS + i / VERSIONS, i % VERSIONS);
            }
        }

        /** null: there is no such enum or version. */
        EnumVersion enumVersion(int kind, int version) {
            boolean there = below(kind, ENUM_KINDS) && below(version, VERSIONS);
            return there ? enums[kind * VERSIONS + version] : null;
        }

        /** null: there is no such record kind or version; the kind may be any leaf. */
        RecordVersion recordVersion(long kind, int version) {
            boolean there = kind >= ENUM_KINDS && kind < ENUM_KINDS + RECORD_KINDS && below(version, VERSIONS);
            return there ? records[((int) kind - ENUM_KINDS) * VERSIONS + version] : null;
        }
    }

    private static final class Tape {
        /** A record within others begins at least this many leaves behind the one around it. */
        private static final int LEAVES_A_LEVEL = 5;

        private final long[] leaves;
        private final long[] fresh;
        private int size;
        private int freshSize;

        Tape() {
            leaves = new long[MOST_LEAVES];
            fresh = new long[MOST_LEAVES];
        }

        /** How many leaves the record takes, or FULL, and then the tape is as it was. */
        int replaceBy(RecordThing held) {
            freshSize = 0;
            putRecord(held, 0);
            if (freshSize > MOST_LEAVES) {
                return FULL;
            }
            System.arraycopy(fresh, 0, leaves, 0, freshSize);
            size = freshSize;
            return size;
        }

        private void put(long v) {
            if (freshSize < MOST_LEAVES) {
                fresh[freshSize] = v;
            }
            // One leaf too many is remembered as such; more than that need not be counted.
            freshSize = Math.min(freshSize + 1, MOST_LEAVES + 1);
        }

        private void putRecord(RecordThing held, int depth) {
            if (depth * LEAVES_A_LEVEL >= MOST_LEAVES) {
                freshSize = MOST_LEAVES + 1;
                return;
            }
            put(held.kind());
            put(held.extent());
            for (int p = 0; p < held.extent() && freshSize <= MOST_LEAVES; p++) {
                put(held.its.parts[p].name);
                put(held.its.parts[p].sort);
                putValue(held, p, depth);
            }
        }

        private void putValue(RecordThing held, int p, int depth) {
            Thing thing = held.things[p];
            if (held.isNumber(p)) {
                put(held.numbers[p]);
            } else if (thing instanceof Constant constant) {
                put(constant.name);
            } else if (thing instanceof RecordThing inner) {
                put(1);
                putRecord(inner, depth + 1);
            } else if (thing instanceof Row row) {
                putItems(row.items);
            } else {
                put(held.its.parts[p].sort == RECORD ? 0 : -1);
            }
        }

        private void putItems(int[] items) {
            put(items.length);
            for (int i = 0; i < items.length; i++) {
                put(items[i]);
            }
        }
    }

    /** One reading of the tape; once it has failed, it reads on nowhere. */
    private static final class Reader {
        private final Kinds kinds;
        private final Tape tape;
        private final int version;
        private int next;
        private int last;
        private int open;
        private int why;
        private int made;

        Reader(Kinds kinds, Tape tape, int version) {
            this.kinds = kinds;
            this.tape = tape;
            this.version = version;
        }

        private void fail(int reason) {
            if (why == FINE) {
                why = reason;
            }
        }

        private long nextLeaf() {
            if (why != FINE) {
                return 0;
            }
            last = next;
            if (next >= tape.size) {
                why = INDEX;
                return 0;
            }
            next++;
            return tape.leaves[last];
        }

        /** null: the reading failed, or the record isn't wanted and was gone through. */
        private RecordThing nextRecord(boolean wanted) {
            if (open >= DEEPEST) {
                fail(DEEP);
                return null;
            }
            open++;
            long kind = nextLeaf();
            RecordVersion its = kinds.recordVersion(kind, version);
            if (its == null) {
                // Behind a leaf that is missing this changes nothing: the first failure stays.
                fail(OWN);
                return null;
            }
            RecordThing draft = wanted ? new RecordThing(its) : null;
            // Every part takes leaves: where more are told than the tape may hold, one fails before the last.
            long n = Math.min(nextLeaf(), MOST_LEAVES);
            for (int i = 0; i < n && why == FINE; i++) {
                nextPart(draft);
            }
            return finished(draft);
        }

        /** A record that failed stays open: the cause counts it. */
        private RecordThing finished(RecordThing draft) {
            if (why == FINE && draft != null) {
                why = draft.its.whyNotMade(draft);
                made += why == FINE ? 1 : 0;
            }
            if (why != FINE) {
                return null;
            }
            open--;
            return draft;
        }

        private void nextPart(RecordThing draft) {
            long name = nextLeaf();
            long sort = nextLeaf();
            if (sort < 0 || sort >= SORTS) {
                fail(OWN);
            }
            int p = draft == null ? NONE : draft.its.partNamed(name);
            if (p != NONE && draft.its.parts[p].sort != sort) {
                fail(CAST);
            }
            if (why != FINE) {
                return;
            }
            if (sort <= LONG) {
                long number = nextLeaf();
                if (p != NONE) {
                    draft.put(p, number, null);
                }
                return;
            }
            Thing thing = nextThing((int) sort, p == NONE ? null : draft.its.parts[p]);
            if (p != NONE) {
                draft.put(p, 0, thing);
            }
        }

        /** For no part (null) the leaves are gone through alone. */
        private Thing nextThing(int sort, Part part) {
            if (sort == CONSTANT) {
                return nextConstant(part);
            }
            if (sort == ROW) {
                return nextRow(part != null);
            }
            return nextLeaf() == 0 ? null : nextRecord(part != null);
        }

        private Constant nextConstant(Part part) {
            long name = nextLeaf();
            if (part == null || name == -1 || why != FINE) {
                return null;
            }
            EnumVersion its = kinds.enumVersion(part.of, version);
            Constant constant = its == null ? null : its.named(name);
            if (constant == null) {
                fail(ILLEGAL);
            }
            return constant;
        }

        private Row nextRow(boolean wanted) {
            long m = nextLeaf();
            if (m == -1) {
                return null;
            }
            if (m < 0) {
                fail(SIZE);
            } else if (m > MOST_ITEMS) {
                fail(OWN);
            }
            if (why != FINE) {
                return null;
            }
            Row row = wanted ? new Row((int) m) : null;
            for (int i = 0; i < m && why == FINE; i++) {
                int item = (int) nextLeaf();
                if (row != null) {
                    row.items[i] = item;
                }
            }
            return row;
        }
    }
}
