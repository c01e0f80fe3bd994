import java.util.ArrayList;

/**
 * An indexed file: records found by a prime key and alternate ones, looked at by several views,
 * every call answered by a status of a business language.
 */
public final class KeyedFiles {
    public static final int NONE = -1;

    private static final int MOST_KEYS = 6;
    private static final int MOST_VIEWS = 5;
    private static final int MOST_RECORDS = 300;
    private static final int RECORD_BYTES = 8;

    private static final int PRIME = 0;

    private static final int INPUT = 0;
    private static final int OUTPUT = 1;
    private static final int BOTH = 2;
    private static final int EXTEND = 3;

    private static final int SEQUENTIAL = 0;
    private static final int RANDOM = 1;
    private static final int DYNAMIC = 2;

    private static final int EQUAL = 0;
    private static final int GREATER = 1;
    private static final int NOT_LESS = 2;
    private static final int LESS = 3;
    private static final int NOT_GREATER = 4;

    private static final int AHEAD_OF_ALL = 0;
    private static final int BEHIND = 1;
    private static final int AT = 2;
    private static final int LOST = 3;

    private static final int DONE = 0;
    private static final int DONE_WITH_DOUBLES = 2;
    private static final int END = 10;
    private static final int PRIME_OUT_OF_ORDER = 21;
    private static final int DOUBLE_BARRED = 22;
    private static final int NOT_FOUND = 23;
    private static final int NO_ROOM = 24;
    private static final int IS_OPEN = 41;
    private static final int IS_NOT_OPEN = 42;
    private static final int NONE_READ_LAST = 43;
    private static final int NO_NEXT_ONE = 46;
    private static final int NOT_FOR_READING = 47;
    private static final int NOT_FOR_WRITING = 48;
    private static final int NOT_FOR_BOTH = 49;

    /** Half of the span that a search halves; the whole span is more than any index can hold. */
    private static final int WIDEST_STEP = 256;

    /** Flipping the highest bit turns Java's order with sign into the order without one. */
    private static final long HIGHEST_BIT = 1L << 63;

    private final ArrayList<KeyIndex> indexes;
    private final ArrayList<View> views;
    private boolean everOpened;
    private long arrivals;
    private long sweeps;

    public KeyedFiles() {
        indexes = new ArrayList<>();
        views = new ArrayList<>();
    }

    public int key(boolean prime, boolean doubles, int from, int size) {
        int number = indexes.size();
        if (everOpened || number >= MOST_KEYS) {
            return NONE;
        }
        if (prime != (number == PRIME) || (prime && doubles)) {
            return NONE;
        }
        if (size < 1 || size > RECORD_BYTES || from < 0 || from > RECORD_BYTES - size) {
            return NONE;
        }
        indexes.add(new KeyIndex(doubles, from, size));
        return number;
    }

    public int sparse(int key, long v) {
        KeyIndex index = indexAt(key);
        if (index == null || key == PRIME || everOpened) {
            return NONE;
        }
        index.leaveOut(v);
        return 1;
    }

    public int view() {
        int number = views.size();
        if (number >= MOST_VIEWS || indexes.isEmpty()) {
            return NONE;
        }
        views.add(new View());
        return number;
    }

    public int open(int view, int mode, int access) {
        View by = viewAt(view);
        if (by == null || mode < INPUT || mode > EXTEND || access < SEQUENTIAL || access > DYNAMIC) {
            return NONE;
        }
        if (by.isOpen) {
            return IS_OPEN;
        }
        everOpened = true;
        if (mode == OUTPUT) {
            dropAllRecords();
        }
        by.begin(mode, access);
        return DONE;
    }

    public int close(int view) {
        View by = viewAt(view);
        if (by == null) {
            return NONE;
        }
        if (!by.isOpen) {
            return IS_NOT_OPEN;
        }
        by.forgetRead();
        by.isOpen = false;
        return DONE;
    }

    public int write(int view, long record) {
        View by = viewAt(view);
        if (by == null) {
            return NONE;
        }
        int refusal = by.refusalToWrite();
        if (refusal != DONE) {
            return refusal;
        }
        by.forgetRead();
        if (by.access == SEQUENTIAL && isOutOfOrder(by, record)) {
            return PRIME_OUT_OF_ORDER;
        }
        if (hasBarredDouble(record, null)) {
            return DOUBLE_BARRED;
        }
        if (entryCount(PRIME) >= MOST_RECORDS) {
            return NO_ROOM;
        }
        by.noteWritten(fieldOf(PRIME, record));
        return enterUnderAllKeys(new Stored(record)) ? DONE_WITH_DOUBLES : DONE;
    }

    public int read(int view, int key, long k) {
        View by = viewAt(view);
        KeyIndex index = indexAt(key);
        if (by == null || index == null) {
            return NONE;
        }
        int refusal = by.refusalToRead(SEQUENTIAL);
        if (refusal != DONE) {
            return refusal;
        }
        by.forgetRead();
        by.keyOfReference = key;
        Entry found = index.firstEqual(k);
        if (found == null) {
            by.lose();
            return NOT_FOUND;
        }
        return handOver(by, index, found, false);
    }

    public long value(int view) {
        View by = viewAt(view);
        return by == null ? 0L : by.valueRead;
    }

    public int start(int view, int key, int op, long k, int size) {
        View by = viewAt(view);
        KeyIndex index = indexAt(key);
        if (by == null || index == null || op < EQUAL || op > NOT_GREATER) {
            return NONE;
        }
        if (size < 1 || size > index.size) {
            return NONE;
        }
        int refusal = by.refusalToRead(RANDOM);
        if (refusal != DONE) {
            return refusal;
        }
        by.forgetRead();
        by.keyOfReference = key;
        Entry found = index.findByPart(op, k, size);
        if (found == null) {
            by.lose();
            return NOT_FOUND;
        }
        by.standAt(found);
        return DONE;
    }

    public int next(int view, boolean back) {
        View by = viewAt(view);
        if (by == null) {
            return NONE;
        }
        int refusal = by.refusalToRead(RANDOM);
        if (refusal != DONE) {
            return refusal;
        }
        by.forgetRead();
        KeyIndex index = indexAt(by.keyOfReference);
        if (index == null || by.place == LOST || by.isAtEnd) {
            return NO_NEXT_ONE;
        }
        Entry found = back ? index.entryAheadOf(by) : index.entryBehind(by);
        if (found == null) {
            by.isAtEnd = true;
            return END;
        }
        return handOver(by, index, found, back);
    }

    public int rewrite(int view, long record) {
        View by = viewAt(view);
        if (by == null) {
            return NONE;
        }
        int refusal = by.refusalToChange();
        if (refusal != DONE) {
            return refusal;
        }
        Stored old = recordToChange(by, fieldOf(PRIME, record));
        by.forgetRead();
        if (old == null) {
            return by.statusOfNoRecord();
        }
        if (fieldOf(PRIME, old.bytes) != fieldOf(PRIME, record)) {
            return PRIME_OUT_OF_ORDER;
        }
        if (hasBarredDouble(record, old)) {
            return DOUBLE_BARRED;
        }
        return moveChangedEntries(old, record) ? DONE_WITH_DOUBLES : DONE;
    }

    public int remove(int view, long k) {
        View by = viewAt(view);
        if (by == null) {
            return NONE;
        }
        int refusal = by.refusalToChange();
        if (refusal != DONE) {
            return refusal;
        }
        Stored old = recordToChange(by, k);
        by.forgetRead();
        if (old == null) {
            return by.statusOfNoRecord();
        }
        dropRecord(old);
        return DONE;
    }

    public long scan(int key, int i) {
        KeyIndex index = indexAt(key);
        Entry found = index == null ? null : index.entryAt(i);
        return found == null ? 0L : found.stored.bytes;
    }

    public int reference(int view) {
        View by = viewAt(view);
        return by == null || !by.isOpen ? NONE : by.keyOfReference;
    }

    public int count(int key) {
        return indexAt(key) == null ? NONE : entryCount(key);
    }

    public boolean whole() {
        for (int i = 0; i < indexes.size(); i++) {
            KeyIndex index = indexes.get(i);
            // A new number for each key marks the records that this key's entries have shown.
            sweeps++;
            if (!index.isInOrder(sweeps) || index.entries.size() != entriesDue(index)) {
                return false;
            }
        }
        return true;
    }

    private KeyIndex indexAt(int key) {
        return key >= 0 && key < indexes.size() ? indexes.get(key) : null;
    }

    private View viewAt(int view) {
        return view >= 0 && view < views.size() ? views.get(view) : null;
    }

    private int entryCount(int key) {
        KeyIndex index = indexAt(key);
        return index == null ? 0 : index.entries.size();
    }

    private long fieldOf(int key, long record) {
        KeyIndex index = indexAt(key);
        return index == null ? 0L : index.fieldIn(record);
    }

    private boolean isOutOfOrder(View by, long record) {
        long field = fieldOf(PRIME, record);
        if (by.hasWritten && !isBelow(by.primeWritten, field)) {
            return true;
        }
        KeyIndex index = indexAt(PRIME);
        Entry greatest = index == null ? null : index.entryAt(index.entries.size() - 1);
        return by.mode == EXTEND && greatest != null && !isBelow(greatest.field, field);
    }

    /** Whether a record other than old (null for none) bars this one by an equal field. */
    private boolean hasBarredDouble(long record, Stored old) {
        for (int i = 0; i < indexes.size(); i++) {
            KeyIndex index = indexes.get(i);
            Entry equal = index.firstEqual(index.fieldIn(record));
            if (!index.doubles && equal != null && equal.stored != old) {
                return true;
            }
        }
        return false;
    }

    /** Answers whether an entry came behind an equal one. */
    private boolean enterUnderAllKeys(Stored stored) {
        boolean behindEqual = false;
        for (int i = 0; i < indexes.size(); i++) {
            if (enterUnder(indexes.get(i), stored)) {
                behindEqual = true;
            }
        }
        return behindEqual;
    }

    private boolean enterUnder(KeyIndex index, Stored stored) {
        arrivals++;
        return index.enter(stored, arrivals);
    }

    /** Answers whether an entry came behind an equal one. */
    private boolean moveChangedEntries(Stored old, long record) {
        long before = old.bytes;
        old.bytes = record;
        boolean behindEqual = false;
        for (int i = 0; i < indexes.size(); i++) {
            KeyIndex index = indexes.get(i);
            if (index.fieldIn(before) != index.fieldIn(record)) {
                index.drop(old, index.fieldIn(before));
                if (enterUnder(index, old)) {
                    behindEqual = true;
                }
            }
        }
        return behindEqual;
    }

    private void dropRecord(Stored old) {
        for (int i = 0; i < indexes.size(); i++) {
            KeyIndex index = indexes.get(i);
            index.drop(old, index.fieldIn(old.bytes));
        }
        old.isThere = false;
    }

    private void dropAllRecords() {
        for (int i = 0; i < indexes.size(); i++) {
            indexes.get(i).entries.clear();
        }
        for (int i = 0; i < views.size(); i++) {
            views.get(i).forgetRead();
            views.get(i).lose();
        }
    }

    /** The record that a rewrite or a remove is for; null when there is none. */
    private Stored recordToChange(View by, long primeField) {
        if (by.access == SEQUENTIAL) {
            return by.readLast != null && by.readLast.isThere ? by.readLast : null;
        }
        KeyIndex index = indexAt(PRIME);
        Entry found = index == null ? null : index.firstEqual(primeField);
        return found == null ? null : found.stored;
    }

    private static int handOver(View by, KeyIndex index, Entry found, boolean back) {
        by.noteRead(found);
        return index.hasEqualNextTo(found, back) ? DONE_WITH_DOUBLES : DONE;
    }

    private int entriesDue(KeyIndex index) {
        KeyIndex primes = indexAt(PRIME);
        int due = 0;
        for (int i = 0; primes != null && i < primes.entries.size(); i++) {
            if (!index.leavesOut(index.fieldIn(primes.entries.get(i).stored.bytes))) {
                due++;
            }
        }
        return due;
    }

    private static boolean isBelow(long one, long other) {
        return (one ^ HIGHEST_BIT) < (other ^ HIGHEST_BIT);
    }

    /** A record in the file. It outlives its removal, so that a view can see that it is gone. */
    private static final class Stored {
        long bytes;
        boolean isThere;
        long sweep;

        Stored(long bytes) {
            this.bytes = bytes;
            this.isThere = true;
        }
    }

    /** A record's entry under one key; came orders the equal fields. */
    private static final class Entry {
        final long field;
        final long came;
        final Stored stored;

        Entry(long field, long came, Stored stored) {
            this.field = field;
            this.came = came;
            this.stored = stored;
        }

        boolean standsAheadOf(long otherField, long otherCame) {
            return field == otherField ? came < otherCame : isBelow(field, otherField);
        }
    }

    /** A key with its entries, which stand by field and, where fields are equal, by arrival. */
    private static final class KeyIndex {
        final boolean doubles;
        final int from;
        final int size;
        final ArrayList<Entry> entries;
        boolean isSparse;
        long fieldLeftOut;

        KeyIndex(boolean doubles, int from, int size) {
            this.doubles = doubles;
            this.from = from;
            this.size = size;
            this.entries = new ArrayList<>();
        }

        void leaveOut(long field) {
            isSparse = true;
            fieldLeftOut = field;
        }

        boolean leavesOut(long field) {
            return isSparse && field == fieldLeftOut;
        }

        long fieldIn(long record) {
            return record << (8 * from) >>> (8 * (RECORD_BYTES - size));
        }

        Entry entryAt(int position) {
            return position >= 0 && position < entries.size() ? entries.get(position) : null;
        }

        /** How many entries stand ahead of the one that has, or would have, this field and arrival. */
        int countAheadOf(long field, long came) {
            int ahead = 0;
            for (int step = WIDEST_STEP; step > 0; step /= 2) {
                Entry probe = entryAt(ahead + step - 1);
                if (probe != null && probe.standsAheadOf(field, came)) {
                    ahead += step;
                }
            }
            return ahead;
        }

        Entry firstEqual(long field) {
            Entry found = entryAt(countAheadOf(field, 0L));
            return found != null && found.field == field ? found : null;
        }

        /** Answers whether the entry came behind an equal one. */
        boolean enter(Stored stored, long came) {
            long field = fieldIn(stored.bytes);
            if (leavesOut(field)) {
                return false;
            }
            int position = countAheadOf(field, came);
            if (position > entries.size()) {
                return false;
            }
            entries.add(position, new Entry(field, came, stored));
            Entry ahead = entryAt(position - 1);
            return ahead != null && ahead.field == field;
        }

        void drop(Stored stored, long field) {
            for (int i = countAheadOf(field, 0L); i < entries.size(); i++) {
                if (entries.get(i).stored == stored) {
                    entries.remove(i);
                    return;
                }
                if (entries.get(i).field != field) {
                    return;
                }
            }
        }

        boolean hasEqualNextTo(Entry entry, boolean back) {
            int position = countAheadOf(entry.field, entry.came);
            Entry neighbour = entryAt(back ? position - 1 : position + 1);
            return neighbour != null && neighbour.field == entry.field;
        }

        Entry entryBehind(View by) {
            if (by.place == AHEAD_OF_ALL) {
                return entryAt(0);
            }
            long came = by.place == AT ? by.placeCame : by.placeCame + 1;
            return entryAt(countAheadOf(by.placeField, came));
        }

        Entry entryAheadOf(View by) {
            if (by.place == AHEAD_OF_ALL) {
                return null;
            }
            long came = by.place == AT ? by.placeCame + 1 : by.placeCame;
            return entryAt(countAheadOf(by.placeField, came) - 1);
        }

        Entry findByPart(int op, long part, int bytes) {
            boolean equalsStandAhead = op == GREATER || op == NOT_GREATER;
            int ahead = countByPart(part, bytes, equalsStandAhead);
            Entry found = entryAt(op == LESS || op == NOT_GREATER ? ahead - 1 : ahead);
            if (op == EQUAL && found != null && partOf(found, bytes) != part) {
                return null;
            }
            return found;
        }

        /** How many entries have a first part below this one (or equal to it, if so asked). */
        int countByPart(long part, int bytes, boolean equalsToo) {
            int ahead = 0;
            for (int step = WIDEST_STEP; step > 0; step /= 2) {
                Entry probe = entryAt(ahead + step - 1);
                if (probe == null) {
                    continue;
                }
                long probed = partOf(probe, bytes);
                if (isBelow(probed, part) || (equalsToo && probed == part)) {
                    ahead += step;
                }
            }
            return ahead;
        }

        long partOf(Entry entry, int bytes) {
            return entry.field >>> (8 * (size - bytes));
        }

        /** Whether the entries stand in order, each the only one here of a record that is there. */
        boolean isInOrder(long sweep) {
            Entry ahead = null;
            for (int i = 0; i < entries.size(); i++) {
                Entry entry = entries.get(i);
                Stored stored = entry.stored;
                if (!stored.isThere || stored.sweep == sweep) {
                    return false;
                }
                stored.sweep = sweep;
                if (entry.field != fieldIn(stored.bytes) || leavesOut(entry.field)) {
                    return false;
                }
                if (ahead != null && !isRightlyAhead(ahead, entry)) {
                    return false;
                }
                ahead = entry;
            }
            return true;
        }

        boolean isRightlyAhead(Entry ahead, Entry entry) {
            return ahead.standsAheadOf(entry.field, entry.came) && (doubles || ahead.field != entry.field);
        }
    }

    /**
     * One look at the file. A place is held as a field and an arrival, not as an entry's number,
     * so that it stays where it was while entries come and go round it.
     */
    private static final class View {
        boolean isOpen;
        int mode;
        int access;
        int keyOfReference;
        int place;
        long placeField;
        long placeCame;
        boolean isAtEnd;
        Stored readLast;
        long valueRead;
        boolean hasWritten;
        long primeWritten;

        void begin(int newMode, int newAccess) {
            isOpen = true;
            mode = newMode;
            access = newAccess;
            keyOfReference = PRIME;
            place = AHEAD_OF_ALL;
            isAtEnd = false;
            hasWritten = false;
            forgetRead();
        }

        void forgetRead() {
            readLast = null;
            valueRead = 0L;
        }

        void lose() {
            place = LOST;
        }

        void standAt(Entry entry) {
            place = AT;
            placeField = entry.field;
            placeCame = entry.came;
            isAtEnd = false;
        }

        void noteRead(Entry entry) {
            standAt(entry);
            place = BEHIND;
            readLast = entry.stored;
            valueRead = entry.stored.bytes;
        }

        void noteWritten(long primeField) {
            hasWritten = true;
            primeWritten = primeField;
        }

        int refusalToRead(int barredAccess) {
            if (!isOpen) {
                return IS_NOT_OPEN;
            }
            boolean isReadable = mode == INPUT || mode == BOTH;
            return isReadable && access != barredAccess ? DONE : NOT_FOR_READING;
        }

        int refusalToWrite() {
            if (!isOpen) {
                return IS_NOT_OPEN;
            }
            return mode == INPUT || (mode == BOTH && access == SEQUENTIAL) ? NOT_FOR_WRITING : DONE;
        }

        int refusalToChange() {
            if (!isOpen) {
                return IS_NOT_OPEN;
            }
            return mode == BOTH ? DONE : NOT_FOR_BOTH;
        }

        int statusOfNoRecord() {
            return access == SEQUENTIAL ? NONE_READ_LAST : NOT_FOUND;
        }
    }
}
