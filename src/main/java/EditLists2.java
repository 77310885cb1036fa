/**
 * Lists of changes told as texts, for objects with keys. The words in capitals (OBJECTS, KEYS,
 * PATH, FAULT, MOMENT, ..) are those of the document.
 */
public final class EditLists2 {
    public static final int NONE = -1;

    private static final int OBJECTS = 40;
    private static final int KEYS = 26;
    private static final int ROOT = 0;
    private static final int TEXT_ROOM = 300;
    private static final int PATH_ROOM = 8;
    private static final int MOMENT_ROOM = 16;

    private static final int FIRST_SIGN = 32;
    private static final int LAST_SIGN = 126;

    // The kinds of what stands at a key; NOTHING is also the whole cell of a key that is not there.
    private static final int NOTHING = 0;
    private static final int NUMBER = 1;
    private static final int REFERENCE = 2;

    // What an object is, keys apart.
    private static final int ABSENT = 0;
    private static final int UNSIGNED = 1;
    private static final int SIGNED = 2;

    // What became of a line: DONE, PASSED, or the document's number of its FAULT.
    private static final int PASSED = -1;
    private static final int DONE = 0;
    private static final int FAULT_FORM = 1;
    private static final int FAULT_NUMBER = 2;
    private static final int FAULT_THERE = 3;
    private static final int FAULT_PATH = 4;
    private static final int FAULT_KEY = 5;
    private static final int FAULT_SIGNED = 6;

    private final Text text = new Text();
    private final Store now = new Store();
    private final Store before = new Store();
    private final Editor editor = new Editor(now);
    private final History history = new History();
    private final Reach reach = new Reach();
    private final int[] unlike = new int[OBJECTS];
    private int unlikeCount;
    private int passedLines;
    private int doneLines;

    public EditLists2() {
    }

    public boolean sign(int c) {
        return text.append(c);
    }

    public int run(boolean forced) {
        before.copyFrom(now);
        int answer = editor.doText(text, forced);
        text.clear();
        if (answer < 0) {
            now.copyFrom(before);
            return answer;
        }
        passedLines = editor.passedLines();
        doneLines = editor.lines();
        history.keep(before);
        return noteUnlike();
    }

    public int dry(boolean forced) {
        before.copyFrom(now);
        int answer = editor.doText(text, forced);
        if (answer >= 0) {
            answer = countUnlike();
        }
        now.copyFrom(before);
        return answer;
    }

    public int changed(int i) throws IndexOutOfBoundsException {
        if (i < 0 || i >= unlikeCount || i >= unlike.length) {
            throw new IndexOutOfBoundsException("no such place");
        }
        return unlike[i];
    }

    public int undo() {
        Store moment = history.takeLatest();
        if (moment == null) {
            // This is the latest undo() too, and behind it no object is UNLIKE.
            unlikeCount = 0;
            return NONE;
        }
        before.copyFrom(now);
        now.copyFrom(moment);
        return noteUnlike();
    }

    public int drop() {
        before.copyFrom(now);
        reach.walk(now);
        int gone = 0;
        for (int n = 0; n < OBJECTS; n++) {
            if (now.isThere(n) && !reach.has(n)) {
                now.takeAway(n);
                gone++;
            }
        }
        history.keep(before);
        noteUnlike();
        return gone;
    }

    public int join() {
        before.copyFrom(now);
        int gone = 0;
        while (gone < OBJECTS && now.joinFirstPair()) {
            gone++;
        }
        history.keep(before);
        noteUnlike();
        return gone;
    }

    public boolean reached(int n) throws IndexOutOfBoundsException {
        requireObject(n);
        reach.walk(now);
        return reach.has(n);
    }

    public int kind(int n, int key) throws IndexOutOfBoundsException {
        requireObject(n);
        requireKey(key);
        return kindOf(now.cellAt(n, key));
    }

    public int value(int n, int key) throws IndexOutOfBoundsException {
        requireObject(n);
        requireKey(key);
        return contentOf(now.cellAt(n, key));
    }

    public int object(int n, int what) throws IndexOutOfBoundsException {
        requireObject(n);
        switch (what) {
            case 0:
                return now.isThere(n) ? 1 : 0;
            case 1:
                return now.isSigned(n) ? 1 : 0;
            case 2:
                return now.keyCount(n);
            case 3:
                return now.referencesTo(n);
            default:
                throw new IndexOutOfBoundsException("nothing is told of an object there");
        }
    }

    public int told(int what) {
        switch (what) {
            case 0:
                return text.length();
            case 1:
                return now.countThere();
            case 2:
                return history.count();
            case 3:
                return passedLines;
            case 4:
                return doneLines;
            default:
                return NONE;
        }
    }

    private int noteUnlike() {
        unlikeCount = 0;
        for (int n = 0; n < OBJECTS; n++) {
            if (now.isUnlike(before, n) && unlikeCount < unlike.length) {
                unlike[unlikeCount] = n;
                unlikeCount++;
            }
        }
        return unlikeCount;
    }

    private int countUnlike() {
        int count = 0;
        for (int n = 0; n < OBJECTS; n++) {
            if (now.isUnlike(before, n)) {
                count++;
            }
        }
        return count;
    }

    private static void requireObject(int n) {
        if (!isObject(n)) {
            throw new IndexOutOfBoundsException("no such object");
        }
    }

    private static void requireKey(int key) {
        if (!isKey(key)) {
            throw new IndexOutOfBoundsException("no such key");
        }
    }

    private static boolean isObject(int n) {
        return n >= 0 && n < OBJECTS;
    }

    private static boolean isKey(int key) {
        return key >= 0 && key < KEYS;
    }

    // A VALUE is one int, a cell: two VALUES are the same just when their cells are equal.
    private static int cellOf(int kind, int content) {
        return (content << 2) | kind;
    }

    private static int kindOf(int cell) {
        return cell & 3;
    }

    private static int contentOf(int cell) {
        return cell >> 2;
    }

    /** THE TEXT, with the place up to which it has been read. */
    private static final class Text {
        private final char[] signs = new char[TEXT_ROOM];
        private int count;
        private int at;

        boolean append(int c) {
            if (c < FIRST_SIGN || c > LAST_SIGN || count < 0 || count >= signs.length) {
                return false;
            }
            signs[count] = (char) c;
            count++;
            return true;
        }

        int length() {
            return count;
        }

        void clear() {
            count = 0;
            at = 0;
        }

        void rewind() {
            at = 0;
        }

        boolean hasLine() {
            while (at < count && peek() == ' ') {
                at++;
            }
            return at < count;
        }

        /** The next sign, or NONE at the text's end. */
        private int peek() {
            return at >= 0 && at < count && at < signs.length ? signs[at] : NONE;
        }

        int takeAny() {
            int c = peek();
            if (c != NONE) {
                at++;
            }
            return c;
        }

        boolean take(char wanted) {
            if (peek() != wanted) {
                return false;
            }
            at++;
            return true;
        }

        /** The key 0 .. 25 of the next letter, or NONE where no letter is next. */
        int takeLetter() {
            int c = peek();
            if (c < 'a' || c > 'z') {
                return NONE;
            }
            at++;
            return c - 'a';
        }

        /** The number that up to so many digits tell, or NONE where no digit is next. */
        int takeDigits(int most) {
            int sum = NONE;
            for (int i = 0; i < most; i++) {
                int c = peek();
                if (c < '0' || c > '9') {
                    break;
                }
                sum = (sum == NONE ? 0 : sum * 10) + (c - '0');
                at++;
            }
            return sum;
        }

        /** The cell of the VALUE that is next, or NOTHING where there is none. */
        int takeCell() {
            if (take('#')) {
                int n = takeDigits(2);
                return n == NONE ? NOTHING : cellOf(REFERENCE, n);
            }
            boolean negative = take('-');
            int size = takeDigits(5);
            if (size == NONE) {
                return NOTHING;
            }
            return cellOf(NUMBER, negative ? -size : size);
        }
    }

    /** A PATH as it was told. */
    private static final class Path {
        private final int[] keys = new int[PATH_ROOM];
        private int count;

        boolean readFrom(Text text) {
            count = 0;
            for (int i = 0; i < keys.length; i++) {
                int key = text.takeLetter();
                if (key == NONE) {
                    break;
                }
                keys[i] = key;
                count++;
            }
            return count > 0;
        }

        int length() {
            return count;
        }

        int keyAt(int i) {
            return i >= 0 && i < count && i < keys.length ? keys[i] : NONE;
        }

        int lastKey() {
            return keyAt(count - 1);
        }
    }

    /** A line as it was told; what a line of its verb does not tell has no meaning here. */
    private static final class Line {
        private int verb;
        private int number;
        private final Path from = new Path();
        private final Path to = new Path();
        private int wanted;
        private int given;

        boolean readFrom(Text text) {
            number = ROOT;
            wanted = NOTHING;
            given = NOTHING;
            verb = text.takeAny();
            boolean formed = text.take(' ');
            switch (verb) {
                case 'A':
                case 'R':
                case 'G':
                    number = text.takeDigits(2);
                    formed = formed && number != NONE;
                    break;
                case 'S':
                    formed = formed && from.readFrom(text) && text.take(' ') && readGiven(text);
                    break;
                case 'D':
                    formed = formed && from.readFrom(text);
                    break;
                case 'M':
                    formed = formed && from.readFrom(text) && text.take(' ') && to.readFrom(text);
                    break;
                case 'C':
                    formed = formed && from.readFrom(text) && text.take(' ') && readWanted(text)
                        && text.take(' ') && readGiven(text);
                    break;
                default:
                    formed = false;
            }
            return formed && text.take(';');
        }

        private boolean readWanted(Text text) {
            wanted = text.takeCell();
            return wanted != NOTHING;
        }

        private boolean readGiven(Text text) {
            given = text.takeCell();
            return given != NOTHING;
        }

        boolean hasWrongNumber() {
            return !isObject(number) || (verb == 'R' && number == ROOT)
                || refersToNoObject(wanted) || refersToNoObject(given);
        }

        private static boolean refersToNoObject(int cell) {
            return kindOf(cell) == REFERENCE && !isObject(contentOf(cell));
        }
    }

    /** What all objects are. One that is not there has no keys and is not SIGNED. */
    private static final class Store {
        private final int[] states = new int[OBJECTS];
        private final int[] keyCounts = new int[OBJECTS];
        private final int[] cells = new int[OBJECTS * KEYS];

        Store() {
            states[ROOT] = UNSIGNED;
        }

        void copyFrom(Store other) {
            System.arraycopy(other.states, 0, states, 0, OBJECTS);
            System.arraycopy(other.keyCounts, 0, keyCounts, 0, OBJECTS);
            System.arraycopy(other.cells, 0, cells, 0, OBJECTS * KEYS);
        }

        boolean isThere(int n) {
            return isObject(n) && states[n] != ABSENT;
        }

        boolean isSigned(int n) {
            return isObject(n) && states[n] == SIGNED;
        }

        int keyCount(int n) {
            return isObject(n) ? keyCounts[n] : 0;
        }

        int cellAt(int n, int key) {
            return isObject(n) && isKey(key) ? cells[n * KEYS + key] : NOTHING;
        }

        void make(int n) {
            if (isObject(n)) {
                states[n] = UNSIGNED;
            }
        }

        void takeAway(int n) {
            if (!isObject(n)) {
                return;
            }
            states[n] = ABSENT;
            for (int key = 0; key < KEYS; key++) {
                put(n, key, NOTHING);
            }
        }

        void seal(int n) {
            if (isObject(n)) {
                states[n] = SIGNED;
            }
        }

        /** The key gets the VALUE of the cell, or goes if that is NOTHING. */
        void put(int n, int key, int cell) {
            if (!isObject(n) || !isKey(key)) {
                return;
            }
            int place = n * KEYS + key;
            keyCounts[n] += (cell == NOTHING ? 0 : 1) - (cells[place] == NOTHING ? 0 : 1);
            cells[place] = cell;
        }

        int countThere() {
            int count = 0;
            for (int n = 0; n < OBJECTS; n++) {
                if (states[n] != ABSENT) {
                    count++;
                }
            }
            return count;
        }

        int referencesTo(int target) {
            int wanted = cellOf(REFERENCE, target);
            int count = 0;
            for (int place = 0; place < cells.length; place++) {
                if (cells[place] == wanted) {
                    count++;
                }
            }
            return count;
        }

        boolean isUnlike(Store other, int n) {
            if (isThere(n) != other.isThere(n) || isSigned(n) != other.isSigned(n)
                || keyCount(n) != other.keyCount(n)) {
                return true;
            }
            if (keyCount(n) == 0) {
                return false;
            }
            for (int key = 0; key < KEYS; key++) {
                if (cellAt(n, key) != other.cellAt(n, key)) {
                    return true;
                }
            }
            return false;
        }

        /** Joins the first pair that is ALIKE; whether there was one. */
        boolean joinFirstPair() {
            for (int lesser = 0; lesser < OBJECTS; lesser++) {
                if (!mayJoin(lesser)) {
                    continue;
                }
                for (int greater = lesser + 1; greater < OBJECTS; greater++) {
                    if (mayJoin(greater) && areAlike(lesser, greater)) {
                        takeAway(greater);
                        redirect(greater, lesser);
                        return true;
                    }
                }
            }
            return false;
        }

        private boolean mayJoin(int n) {
            return n != ROOT && isThere(n) && !isSigned(n);
        }

        private boolean areAlike(int a, int b) {
            if (keyCount(a) != keyCount(b)) {
                return false;
            }
            int itselfA = cellOf(REFERENCE, a);
            int itselfB = cellOf(REFERENCE, b);
            for (int key = 0; key < KEYS; key++) {
                int cellA = cellAt(a, key);
                int cellB = cellAt(b, key);
                if (cellA != cellB && (cellA != itselfA || cellB != itselfB)) {
                    return false;
                }
            }
            return true;
        }

        private void redirect(int from, int to) {
            for (int n = 0; n < OBJECTS; n++) {
                // join() may come here for each of many empty objects.
                if (keyCounts[n] > 0) {
                    redirectKeys(n, cellOf(REFERENCE, from), cellOf(REFERENCE, to));
                }
            }
        }

        private void redirectKeys(int n, int old, int fresh) {
            for (int key = 0; key < KEYS; key++) {
                if (cellAt(n, key) == old) {
                    put(n, key, fresh);
                }
            }
        }
    }

    /** Which objects are REACHED, as of the latest walk. */
    private static final class Reach {
        private final boolean[] marks = new boolean[OBJECTS];
        private final int[] queue = new int[OBJECTS];
        private int count;

        boolean has(int n) {
            return isObject(n) && marks[n];
        }

        void walk(Store store) {
            for (int n = 0; n < OBJECTS; n++) {
                marks[n] = false;
            }
            count = 0;
            meet(ROOT);
            for (int i = 0; i < count && i < queue.length; i++) {
                walkKeys(store, queue[i]);
            }
        }

        private void walkKeys(Store store, int n) {
            for (int key = 0; key < KEYS; key++) {
                int cell = store.cellAt(n, key);
                if (kindOf(cell) == REFERENCE && store.isThere(contentOf(cell))) {
                    meet(contentOf(cell));
                }
            }
        }

        private void meet(int n) {
            if (isObject(n) && !marks[n] && count >= 0 && count < queue.length) {
                marks[n] = true;
                queue[count] = n;
                count++;
            }
        }
    }

    /** The latest MOMENTS, in a ring of stores that are made when first needed and then used again. */
    private static final class History {
        private final Store[] ring = new Store[MOMENT_ROOM];
        private int oldest;
        private int count;

        int count() {
            return count;
        }

        void keep(Store store) {
            int place = Math.floorMod(oldest + count, MOMENT_ROOM);
            if (ring[place] == null) {
                ring[place] = new Store();
            }
            ring[place].copyFrom(store);
            if (count < MOMENT_ROOM) {
                count++;
            } else {
                oldest = Math.floorMod(oldest + 1, MOMENT_ROOM);
            }
        }

        /** The latest MOMENT, which is no more; null when there is none. */
        Store takeLatest() {
            if (count <= 0) {
                return null;
            }
            count--;
            return ring[Math.floorMod(oldest + count, MOMENT_ROOM)];
        }
    }

    /** Does the lines of a text on a store; what a FAULT leaves there is for the caller to take back. */
    private static final class Editor {
        private final Store store;
        private final Line line = new Line();
        private boolean forced;
        private int lines;
        private int passed;

        Editor(Store store) {
            this.store = store;
        }

        int lines() {
            return lines;
        }

        int passedLines() {
            return passed;
        }

        /** 0, or with a FAULT the answer that tells it. */
        int doText(Text text, boolean force) {
            forced = force;
            lines = 0;
            passed = 0;
            text.rewind();
            while (lines < TEXT_ROOM && text.hasLine()) {
                int outcome = line.readFrom(text) ? doLine() : FAULT_FORM;
                if (outcome > DONE) {
                    return -1 - (10 * lines + outcome);
                }
                if (outcome == PASSED) {
                    passed++;
                }
                lines++;
            }
            return 0;
        }

        private int doLine() {
            if (line.hasWrongNumber()) {
                return FAULT_NUMBER;
            }
            switch (line.verb) {
                case 'A':
                    return doMake();
                case 'R':
                    return doTakeAway();
                case 'G':
                    return doSeal();
                case 'S':
                    return doSet();
                case 'D':
                    return doDelete();
                case 'M':
                    return doMove();
                case 'C':
                    return doChange();
                default:
                    return FAULT_FORM;
            }
        }

        private int doMake() {
            if (store.isThere(line.number)) {
                return FAULT_THERE;
            }
            store.make(line.number);
            return DONE;
        }

        private int doTakeAway() {
            if (!store.isThere(line.number)) {
                return FAULT_THERE;
            }
            if (isClosed(line.number)) {
                return FAULT_SIGNED;
            }
            store.takeAway(line.number);
            return DONE;
        }

        private int doSeal() {
            if (!store.isThere(line.number)) {
                return FAULT_THERE;
            }
            store.seal(line.number);
            return DONE;
        }

        private int doSet() {
            int n = follow(line.from);
            if (n == NONE) {
                return FAULT_PATH;
            }
            if (isClosed(n)) {
                return FAULT_SIGNED;
            }
            store.put(n, line.from.lastKey(), line.given);
            return DONE;
        }

        private int doDelete() {
            int n = follow(line.from);
            if (n == NONE) {
                return FAULT_PATH;
            }
            int key = line.from.lastKey();
            if (store.cellAt(n, key) == NOTHING) {
                return FAULT_KEY;
            }
            if (isClosed(n)) {
                return FAULT_SIGNED;
            }
            store.put(n, key, NOTHING);
            return DONE;
        }

        private int doMove() {
            int source = follow(line.from);
            int target = follow(line.to);
            if (source == NONE || target == NONE) {
                return FAULT_PATH;
            }
            int key = line.from.lastKey();
            int cell = store.cellAt(source, key);
            if (cell == NOTHING) {
                return FAULT_KEY;
            }
            if (isClosed(source) || isClosed(target)) {
                return FAULT_SIGNED;
            }
            store.put(source, key, NOTHING);
            store.put(target, line.to.lastKey(), cell);
            return DONE;
        }

        private int doChange() {
            int n = follow(line.from);
            if (n == NONE) {
                return FAULT_PATH;
            }
            int key = line.from.lastKey();
            int cell = store.cellAt(n, key);
            if (cell == NOTHING) {
                return FAULT_KEY;
            }
            if (cell != line.wanted) {
                return PASSED;
            }
            if (isClosed(n)) {
                return FAULT_SIGNED;
            }
            store.put(n, key, line.given);
            return DONE;
        }

        private boolean isClosed(int n) {
            return !forced && store.isSigned(n);
        }

        /** The object to which a PATH LEADS, or NONE where it can't go on. */
        private int follow(Path path) {
            int n = ROOT;
            for (int i = 0; i < path.length() - 1; i++) {
                int cell = store.cellAt(n, path.keyAt(i));
                if (kindOf(cell) != REFERENCE || !store.isThere(contentOf(cell))) {
                    return NONE;
                }
                n = contentOf(cell);
            }
            return n;
        }
    }
}
