/** Calls on a base of segments in trees; ../shared/DOC.md has the promises that the comments name. */
public final class PathCalls {
    public static final int NONE = -1;

    private static final int MOST_KINDS = 20;
    private static final int MOST_LEVELS = 8;
    private static final int MOST_VIEWS = 9;
    private static final int MOST_PARTS = 8;
    // Every insert needs a part of its own, so 512 calls can't make more than 255.
    private static final int MOST_SEGMENTS = 256;

    private static final int MOST_RELATION = 6;
    private static final int MOST_CODES = 15;
    private static final int MOST_RULE = 2;

    private static final int LAST = 1;
    private static final int PLACE = 2;
    private static final int PARENTAGE = 4;
    private static final int PATH = 8;

    private static final int RULE_AHEAD = 0;
    private static final int RULE_BEHIND = 1;

    private static final int UNIQUE = 0;
    private static final int NEXT = 1;
    private static final int NEXT_WITHIN = 2;
    private static final int WITH_HOLD = 4;

    private static final int DONE = 0;
    private static final int NOT_FOUND = 1;
    private static final int THE_END = 2;
    private static final int LESSER_LEVEL = 3;
    private static final int OTHER_KIND = 4;
    private static final int NO_PARENTAGE = 5;
    private static final int NO_FIT = 6;
    private static final int KEY_IS_THERE = 7;
    private static final int NO_HOLD = 8;

    private final Kind[] kinds = new Kind[MOST_KINDS];
    private int kindCount;
    private final View[] views = new View[MOST_VIEWS];
    private int viewCount;
    private final Part[] parts = new Part[MOST_PARTS];
    private int partCount;
    private final Base base = new Base();
    // Values, not segments: promise 7 wants them as they were at the get.
    private final long[] pathValues = new long[MOST_LEVELS];

    public PathCalls() {
        for (int i = 0; i < MOST_PARTS; i++) {
            parts[i] = new Part();
        }
    }

    public int kind(int above, boolean unique) {
        Kind upper = kindNumbered(above);
        boolean isFirst = above == 0 && kindCount == 0;
        if (upper == null && !isFirst) {
            return NONE;
        }
        if (kindCount >= MOST_KINDS || (upper != null && upper.level >= MOST_LEVELS)) {
            return NONE;
        }
        kinds[kindCount] = new Kind(kindCount + 1, upper, unique);
        kindCount++;
        return kindCount;
    }

    public int view() {
        if (viewCount >= MOST_VIEWS) {
            return NONE;
        }
        views[viewCount] = new View();
        viewCount++;
        return viewCount;
    }

    public int part(int kind, int op, long key) {
        Kind wanted = kindNumbered(kind);
        if (wanted == null || op < 0 || op > MOST_RELATION || partCount >= MOST_PARTS) {
            return NONE;
        }
        parts[partCount].fill(wanted, op, key);
        partCount++;
        return partCount;
    }

    public int code(int part, int c) {
        if (part < 1 || part > partCount || c < 0 || c > MOST_CODES) {
            return NONE;
        }
        Part changed = parts[part - 1];
        int before = changed.codes;
        changed.codes = c;
        return before;
    }

    public int get(int view, int call) {
        View asker = viewNumbered(view);
        if (asker == null) {
            return NONE;
        }
        int given = takeParts();
        asker.hasHold = false;
        boolean holds = call >= WITH_HOLD;
        int way = holds ? call - WITH_HOLD : call;
        if (way < UNIQUE || way > NEXT_WITHIN || !partsFit(given)) {
            return NO_FIT;
        }
        if (way == NEXT_WITHIN && asker.parentage == null) {
            return NO_PARENTAGE;
        }
        Segment found = search(asker, way, given);
        if (found == null) {
            return tellMissing(asker, way);
        }
        int status = way == NEXT && given == 0 ? stepStatus(asker.position, found) : DONE;
        keepPath(found, given);
        asker.parentage = newParentage(asker, way, found, given);
        asker.position = found;
        asker.hasHold = holds;
        return status;
    }

    public long segment(int level) {
        return level >= 1 && level <= MOST_LEVELS ? pathValues[level - 1] : 0L;
    }

    public int insert(int view, long key, long v) {
        View asker = viewNumbered(view);
        if (asker == null || base.isFull()) {
            return NONE;
        }
        int given = takeParts();
        asker.hasHold = false;
        if (!partsFitInsert(given)) {
            return NO_FIT;
        }
        Kind kind = parts[given - 1].kind;
        Segment parent = parentForInsert(asker, kind, given - 1);
        if (parent == null && kind.above != null) {
            return NOT_FOUND;
        }
        Segment added = new Segment(kind, parent, key, v);
        if (kind.isUnique && base.hasEqualTwin(added)) {
            return KEY_IS_THERE;
        }
        base.putAt(base.placeFor(added, asker.position), added);
        asker.position = added;
        return DONE;
    }

    public int replace(int view, long v) {
        View asker = viewNumbered(view);
        if (asker == null) {
            return NONE;
        }
        Segment held = asker.takeHeld();
        if (held == null) {
            return NO_HOLD;
        }
        held.value = v;
        return DONE;
    }

    public int delete(int view) {
        View asker = viewNumbered(view);
        if (asker == null) {
            return NONE;
        }
        Segment held = asker.takeHeld();
        if (held == null) {
            return NO_HOLD;
        }
        int index = base.indexOf(held);
        Segment ahead = base.at(index - 1);
        for (int i = 0; i < viewCount; i++) {
            views[i].leave(held, ahead);
        }
        base.removeTree(index);
        return DONE;
    }

    public int position(int view, int what) {
        View shown = viewNumbered(view);
        if (shown == null) {
            return NONE;
        }
        switch (what) {
            case 0:
                return kindNumberOf(shown.position);
            case 1:
                return shown.position == null ? 0 : shown.position.kind.level;
            case 2:
                return kindNumberOf(shown.parentage);
            case 3:
                return shown.hasHold ? 1 : 0;
            default:
                return NONE;
        }
    }

    public int order(int i, int what) {
        Segment shown = base.at(i);
        if (shown == null) {
            return NONE;
        }
        switch (what) {
            case 0:
                return shown.kind.number;
            case 1:
                return shown.kind.level;
            case 2:
                return (int) shown.key;
            case 3:
                return (int) shown.value;
            default:
                return NONE;
        }
    }

    public int count() {
        return base.size;
    }

    public int rule(int kind, int r) {
        Kind changed = kindNumbered(kind);
        if (changed == null || r < 0 || r > MOST_RULE) {
            return NONE;
        }
        int before = changed.twinRule;
        changed.twinRule = r;
        return before;
    }

    public int within(int view) {
        View shown = viewNumbered(view);
        if (shown == null || shown.parentage == null) {
            return NONE;
        }
        int index = base.indexOf(shown.parentage);
        return base.endOfTree(index) - index - 1;
    }

    private Kind kindNumbered(int number) {
        return number >= 1 && number <= kindCount ? kinds[number - 1] : null;
    }

    private View viewNumbered(int number) {
        return number >= 1 && number <= viewCount ? views[number - 1] : null;
    }

    private static int kindNumberOf(Segment segment) {
        return segment == null ? 0 : segment.kind.number;
    }

    /** The parts' rows keep what they tell until a later part() fills them, so the call still reads them. */
    private int takeParts() {
        int given = partCount;
        partCount = 0;
        return given;
    }

    private boolean partsFit(int given) {
        for (int i = 1; i < given; i++) {
            if (!parts[i].kind.liesBelow(parts[i - 1].kind)) {
                return false;
            }
        }
        return true;
    }

    /** A root behind other parts needs no test of its own: it lies below no kind. */
    private boolean partsFitInsert(int given) {
        if (given < 1 || !partsFit(given)) {
            return false;
        }
        return given == 1 || parts[given - 1].kind.above == parts[given - 2].kind;
    }

    private Segment parentForInsert(View asker, Kind kind, int partsAhead) {
        if (partsAhead > 0) {
            return firstAsParts(asker, 0, base.size, partsAhead);
        }
        return kind.above == null ? null : Segment.around(asker.position, kind.above);
    }

    private Segment search(View asker, int way, int given) {
        if (way == UNIQUE) {
            return firstAsParts(asker, 0, base.size, given);
        }
        int behindPosition = base.indexOf(asker.position) + 1;
        if (way == NEXT) {
            return firstAsParts(asker, behindPosition, base.size, given);
        }
        int top = base.indexOf(asker.parentage);
        boolean goesOn = Segment.isOrLiesIn(asker.position, asker.parentage);
        int from = goesOn ? behindPosition : top + 1;
        return firstAsParts(asker, from, base.endOfTree(top), given);
    }

    private Segment firstAsParts(View asker, int from, int to, int given) {
        for (int i = from; i < to; i++) {
            if (isAsParts(asker, i, given)) {
                return base.at(i);
            }
        }
        return null;
    }

    private boolean isAsParts(View asker, int index, int given) {
        Segment tried = base.at(index);
        if (tried == null || (given > 0 && tried.kind != parts[given - 1].kind)) {
            return false;
        }
        for (int i = given - 1; i >= 0; i--) {
            Segment told = Segment.around(tried, parts[i].kind);
            if (told == null || !isAsPart(asker, told, parts[i], index)) {
                return false;
            }
        }
        return true;
    }

    private boolean isAsPart(View asker, Segment told, Part part, int index) {
        if (!part.tells(told.key)) {
            return false;
        }
        if (part.has(PLACE) && Segment.around(asker.position, part.kind) != told) {
            return false;
        }
        return !part.has(LAST) || !base.hasToldTwinBehind(index, told, part);
    }

    private static int tellMissing(View asker, int way) {
        if (way != NEXT) {
            return NOT_FOUND;
        }
        asker.position = null;
        return THE_END;
    }

    private static int stepStatus(Segment before, Segment found) {
        if (before == null || found.kind == before.kind) {
            return DONE;
        }
        if (found.kind.level < before.kind.level) {
            return LESSER_LEVEL;
        }
        return found.kind.level == before.kind.level ? OTHER_KIND : DONE;
    }

    private void keepPath(Segment found, int given) {
        for (int i = 0; i < MOST_LEVELS; i++) {
            pathValues[i] = 0L;
        }
        keepValue(found);
        for (int i = 0; i < given; i++) {
            if (parts[i].has(PATH)) {
                keepValue(Segment.around(found, parts[i].kind));
            }
        }
    }

    private void keepValue(Segment kept) {
        if (kept != null && kept.kind.level >= 1 && kept.kind.level <= MOST_LEVELS) {
            pathValues[kept.kind.level - 1] = kept.value;
        }
    }

    private Segment newParentage(View asker, int way, Segment found, int given) {
        for (int i = given - 1; i >= 0; i--) {
            if (parts[i].has(PARENTAGE)) {
                return Segment.around(found, parts[i].kind);
            }
        }
        return way == NEXT_WITHIN ? asker.parentage : found;
    }

    private static final class Kind {
        private final int number;
        private final int level;
        private final Kind above;
        private final boolean isUnique;
        private int twinRule = RULE_BEHIND;

        private Kind(int number, Kind above, boolean isUnique) {
            this.number = number;
            this.level = above == null ? 1 : above.level + 1;
            this.above = above;
            this.isUnique = isUnique;
        }

        private boolean liesBelow(Kind upper) {
            for (Kind k = above; k != null; k = k.above) {
                if (k == upper) {
                    return true;
                }
            }
            return false;
        }
    }

    private static final class Segment {
        private final Kind kind;
        private final Segment parent;
        private final long key;
        private long value;

        private Segment(Kind kind, Segment parent, long key, long value) {
            this.kind = kind;
            this.parent = parent;
            this.key = key;
            this.value = value;
        }

        /** The segment of a kind that the inner one is, or lies in; null if there is none such. */
        private static Segment around(Segment inner, Kind kind) {
            for (Segment s = inner; s != null; s = s.parent) {
                if (s.kind == kind) {
                    return s;
                }
            }
            return null;
        }

        private static boolean isOrLiesIn(Segment inner, Segment outer) {
            for (Segment s = inner; s != null; s = s.parent) {
                if (s == outer) {
                    return true;
                }
            }
            return false;
        }

        private boolean isTwinOf(Segment other) {
            return kind == other.kind && parent == other.parent;
        }

        private boolean isEqualTwinOf(Segment other) {
            return isTwinOf(other) && key == other.key;
        }
    }

    private static final class View {
        private Segment position;
        private Segment parentage;
        private boolean hasHold;

        /** The position, if there is a hold on it; the hold goes. */
        private Segment takeHeld() {
            Segment held = hasHold ? position : null;
            hasHold = false;
            return held;
        }

        private void leave(Segment gone, Segment ahead) {
            if (Segment.isOrLiesIn(position, gone)) {
                position = ahead;
                hasHold = false;
            }
            if (Segment.isOrLiesIn(parentage, gone)) {
                parentage = null;
            }
        }
    }

    private static final class Part {
        private Kind kind;
        private int relation;
        private long key;
        private int codes;

        private void fill(Kind newKind, int newRelation, long newKey) {
            kind = newKind;
            relation = newRelation;
            key = newKey;
            codes = 0;
        }

        private boolean has(int code) {
            return (codes & code) != 0;
        }

        private boolean tells(long other) {
            switch (relation) {
                case 1:
                    return other == key;
                case 2:
                    return other > key;
                case 3:
                    return other < key;
                case 4:
                    return other >= key;
                case 5:
                    return other <= key;
                case 6:
                    return other != key;
                default:
                    return true;
            }
        }
    }

    /** All segments in hierarchic order: so a segment and all that lies in it are one run of rows. */
    private static final class Base {
        private final Segment[] rows = new Segment[MOST_SEGMENTS];
        private int size;

        private boolean isFull() {
            return size >= MOST_SEGMENTS;
        }

        private Segment at(int index) {
            return index >= 0 && index < size ? rows[index] : null;
        }

        /** -1 for null, so that the row behind "ahead of all" is the first one. */
        private int indexOf(Segment wanted) {
            for (int i = 0; i < size; i++) {
                if (rows[i] == wanted) {
                    return i;
                }
            }
            return -1;
        }

        /** The first row behind a segment that doesn't lie in it. */
        private int endOfTree(int index) {
            Segment top = at(index);
            if (top == null) {
                return size;
            }
            int end = index + 1;
            while (end < size && rows[end].kind.level > top.kind.level) {
                end++;
            }
            return end;
        }

        private boolean hasEqualTwin(Segment added) {
            for (int i = 0; i < size; i++) {
                if (rows[i].isEqualTwinOf(added)) {
                    return true;
                }
            }
            return false;
        }

        /** The row may be of any segment in the told one: twins that come later are behind them all. */
        private boolean hasToldTwinBehind(int index, Segment told, Part part) {
            for (int i = index + 1; i < size && rows[i].kind.level >= told.kind.level; i++) {
                if (rows[i].isTwinOf(told) && part.tells(rows[i].key)) {
                    return true;
                }
            }
            return false;
        }

        private int placeFor(Segment added, Segment position) {
            int top = indexOf(added.parent);
            int end = endOfTree(top);
            for (int i = top + 1; i < end; i++) {
                if (rows[i].parent == added.parent && goesAhead(added, rows[i], position)) {
                    return i;
                }
            }
            return end;
        }

        private static boolean goesAhead(Segment added, Segment other, Segment position) {
            if (added.kind != other.kind) {
                return added.kind.number < other.kind.number;
            }
            if (added.key != other.key) {
                return added.key < other.key;
            }
            if (added.kind.twinRule == RULE_AHEAD || added.kind.twinRule == RULE_BEHIND) {
                return added.kind.twinRule == RULE_AHEAD;
            }
            boolean isPlaced = position != null && position.isEqualTwinOf(added);
            return !isPlaced || other == position;
        }

        private void putAt(int index, Segment added) {
            if (isFull() || index < 0 || index > size) {
                return;
            }
            for (int i = size; i > index; i--) {
                rows[i] = rows[i - 1];
            }
            rows[index] = added;
            size++;
        }

        private void removeTree(int index) {
            if (at(index) == null) {
                return;
            }
            int end = endOfTree(index);
            int gone = end - index;
            for (int i = end; i < size; i++) {
                rows[i - gone] = rows[i];
            }
            for (int i = size - gone; i < size; i++) {
                rows[i] = null;
            }
            size -= gone;
        }
    }
}
