import java.lang.annotation.Retention;
import java.lang.annotation.RetentionPolicy;
import java.lang.reflect.InvocationTargetException;
import java.lang.reflect.Method;
import java.util.ArrayList;
import java.util.Comparator;
import java.util.List;

/**
 * Each sentence of the document that names a boundary case (too small, too large, empty, full, a
 * wrap-around, a refused call) has a test of its own here, which tells its promise and its words.
 */
public final class KeyedFilesBoundaries {
    private static final int NONE = KeyedFiles.NONE;
    private static final int PROMISES = 17;
    private static final int INPUT = 0;
    private static final int OUTPUT = 1;
    private static final int BOTH = 2;
    private static final int EXTEND = 3;
    private static final int SEQUENTIAL = 0;
    private static final int RANDOM = 1;
    private static final int DYNAMIC = 2;
    private static final int EQUAL = 0;
    private static final int GREATER = 1;
    private static final int NOT_LESS = 2;
    private static final int LESS = 3;
    private static final int NOT_GREATER = 4;
    private static final boolean ON = false;
    private static final boolean BACK = true;
    private static final int LOWEST = Integer.MIN_VALUE;
    private static final int HIGHEST = Integer.MAX_VALUE;

    /** The promise that a test is for, and the words of the document that it would see broken. */
    @Retention(RetentionPolicy.RUNTIME)
    private @interface Case {
        int promise();

        String says();
    }

    private static Method running;
    private static int wrong = 0;

    private static void due(String what, long got, long want) {
        if (got != want) {
            complain(what + " answered " + got + ", due is " + want);
        }
    }

    private static void due(String what, boolean got, boolean want) {
        due(what, got ? 1L : 0L, want ? 1L : 0L);
    }

    private static void complain(String what) {
        wrong++;
        Case told = running.getAnnotation(Case.class);
        System.out.println("promise " + told.promise() + ", " + running.getName() + " ('" + told.says() + "'): " + what);
    }

    // ---- what the tests begin with

    /** A record of its first bytes; the others are 0. */
    private static long bytes(int... first) {
        long record = 0;
        for (int i = 0; i < 8; i++) {
            record = record << 8 | (i < first.length ? first[i] & 0xFF : 0);
        }
        return record;
    }

    /** Key 0: byte 0. Key 1: byte 1, with doubles. Key 2: byte 2, without, sparse at 0. */
    private static KeyedFiles keyed() {
        KeyedFiles x = new KeyedFiles();
        due("key 0", x.key(true, false, 0, 1), 0);
        due("key 1", x.key(false, true, 1, 1), 1);
        due("key 2", x.key(false, false, 2, 1), 2);
        due("sparse", x.sparse(2, 0), 1);
        return x;
    }

    /** No records; two views: 0 is open in mode 2 by dynamic access, 1 is closed. */
    private static KeyedFiles empty() {
        KeyedFiles x = keyed();
        due("view", x.view(), 0);
        due("view", x.view(), 1);
        due("open", x.open(0, BOTH, DYNAMIC), 0);
        return x;
    }

    /** As empty(), with primes 10, 20, 30, 40: under key 1 there are 5 (30), 7 (10, 20, 40). */
    private static KeyedFiles filled() {
        KeyedFiles x = empty();
        due("write 10", x.write(0, bytes(10, 7)), 0);
        due("write 20", x.write(0, bytes(20, 7)), 2);
        due("write 30", x.write(0, bytes(30, 5)), 0);
        due("write 40", x.write(0, bytes(40, 7)), 2);
        return x;
    }

    /** As filled(), with view 1 open too (by mode 1 nothing is left of the records). */
    private static KeyedFiles filled(int mode, int access) {
        KeyedFiles x = filled();
        due("open 1", x.open(1, mode, access), 0);
        return x;
    }

    /** One key of all eight bytes, and a view that is open so. */
    private static KeyedFiles wide(int mode, int access) {
        KeyedFiles x = new KeyedFiles();
        due("key", x.key(true, false, 0, 8), 0);
        due("view", x.view(), 0);
        due("open", x.open(0, mode, access), 0);
        return x;
    }

    /** 300 records with primes 0 .. 299 of two bytes, no other key; view 0 is in mode 2, dynamic. */
    private static KeyedFiles full() {
        KeyedFiles x = new KeyedFiles();
        due("key", x.key(true, false, 0, 2), 0);
        due("view", x.view(), 0);
        due("view", x.view(), 1);
        due("open", x.open(0, BOTH, DYNAMIC), 0);
        for (int i = 0; i < 300; i++) {
            due("write " + i, x.write(0, bytes(i >> 8, i)), 0);
        }
        return x;
    }

    private static void reopen(KeyedFiles x, int view, int mode, int access) {
        due("close", x.close(view), 0);
        due("open again", x.open(view, mode, access), 0);
    }

    /** The first byte of each entry's record, in a key's order. */
    private static void dueOrder(KeyedFiles x, int key, int... primes) {
        due("count of key " + key, x.count(key), primes.length);
        for (int i = 0; i < primes.length; i++) {
            due("scan(" + key + ", " + i + ")", x.scan(key, i) >>> 56, primes[i]);
        }
        due("whole", x.whole(), true);
    }

    private static void dueNext(KeyedFiles x, int view, boolean back, int status, int prime) {
        due(back ? "next back" : "next", x.next(view, back), status);
        due("prime of what it read", x.value(view) >>> 56, prime);
    }

    private static void dueLost(KeyedFiles x, int view) {
        due("next of a lost one", x.next(view, ON), 46);
        due("next back of a lost one", x.next(view, BACK), 46);
    }

    /** Nothing of filled() has changed. */
    private static void dueUnchanged(KeyedFiles x) {
        dueOrder(x, 0, 10, 20, 30, 40);
        dueOrder(x, 1, 30, 10, 20, 40);
        dueOrder(x, 2);
    }

    // ---- promise 1

    @Case(promise = 1, says = "No keys")
    private static void aNewObjectHasNoKeys() {
        KeyedFiles x = new KeyedFiles();
        due("count", x.count(0), NONE);
        due("scan", x.scan(0, 0), 0);
        due("sparse", x.sparse(0, 0), NONE);
        due("sparse", x.sparse(1, 0), NONE);
        due("view", x.view(), NONE);
        due("whole", x.whole(), true);
        due("the first key's number", x.key(true, false, 0, 1), 0);
    }

    @Case(promise = 1, says = "NONE = -1")
    private static void noneIsBelowEveryNumberAndStatus() {
        due("NONE", KeyedFiles.NONE, -1);
    }

    @Case(promise = 1, says = "no records")
    private static void aNewObjectHasNoRecords() {
        KeyedFiles x = keyed();
        for (int key = 0; key < 3; key++) {
            due("count", x.count(key), 0);
            due("scan", x.scan(key, 0), 0);
        }
        due("whole", x.whole(), true);
    }

    @Case(promise = 1, says = "no views")
    private static void aNewObjectHasNoViews() {
        KeyedFiles x = new KeyedFiles();
        due("key", x.key(true, false, 0, 1), 0);
        dueNoView(x, 0);
        due("the first view's number", x.view(), 0);
    }

    private static void dueNoView(KeyedFiles x, int view) {
        due("open of no view", x.open(view, BOTH, DYNAMIC), NONE);
        due("close of no view", x.close(view), NONE);
        due("write of no view", x.write(view, bytes(1)), NONE);
        due("read of no view", x.read(view, 0, 1), NONE);
        due("start of no view", x.start(view, 0, EQUAL, 1, 1), NONE);
        due("next of no view", x.next(view, ON), NONE);
        due("next back of no view", x.next(view, BACK), NONE);
        due("rewrite of no view", x.rewrite(view, bytes(1)), NONE);
        due("remove of no view", x.remove(view, 1), NONE);
        due("reference of no view", x.reference(view), NONE);
        due("value of no view", x.value(view), 0);
    }

    @Case(promise = 1, says = "no such view (every call of a view)")
    private static void viewsBelowTheFirstAndBehindTheLast() {
        int[] none = {-1, 2, 5, LOWEST, HIGHEST};
        for (int view : none) {
            KeyedFiles x = filled();
            dueNoView(x, view);
            dueUnchanged(x);
        }
    }

    // ---- promise 2

    @Case(promise = 2, says = "there are 6")
    private static void aSeventhKey() {
        KeyedFiles x = new KeyedFiles();
        for (int i = 0; i < 6; i++) {
            due("key " + i, x.key(i == 0, false, i, 1), i);
        }
        due("a seventh", x.key(false, false, 6, 1), NONE);
        due("a seventh with doubles", x.key(false, true, 7, 1), NONE);
        due("a seventh, prime", x.key(true, false, 0, 1), NONE);
        due("the sixth", x.count(5), 0);
        due("no seventh", x.count(6), NONE);
    }

    @Case(promise = 2, says = "a view was ever opened")
    private static void aKeyWhenAViewWasOpened() {
        for (int mode = 0; mode < 4; mode++) {
            KeyedFiles x = keyed();
            due("view", x.view(), 0);
            due("open", x.open(0, mode, DYNAMIC), 0);
            due("when it is open", x.key(false, true, 3, 1), NONE);
            due("close", x.close(0), 0);
            due("when it is closed again", x.key(false, true, 3, 1), NONE);
            due("no such key came", x.count(3), NONE);
        }
    }

    @Case(promise = 2, says = "a view was ever opened (none was, by a refused open)")
    private static void aKeyWhenNoViewWasOpened() {
        KeyedFiles x = keyed();
        due("view", x.view(), 0);
        due("a key behind a view", x.key(false, true, 3, 1), 3);
        due("an open without a mode", x.open(0, 4, DYNAMIC), NONE);
        due("an open without an access", x.open(0, INPUT, 3), NONE);
        due("an open without a view", x.open(1, INPUT, DYNAMIC), NONE);
        due("a close", x.close(0), 42);
        due("a key behind those", x.key(false, true, 4, 1), 4);
    }

    @Case(promise = 2, says = "prime isn't so just for the first one")
    private static void primeForTheFirstAlone() {
        KeyedFiles x = new KeyedFiles();
        due("the first, not prime", x.key(false, false, 0, 1), NONE);
        due("the first, not prime, with doubles", x.key(false, true, 0, 1), NONE);
        due("the first, prime", x.key(true, false, 0, 1), 0);
        due("the second, prime", x.key(true, false, 1, 1), NONE);
        due("the second, not prime", x.key(false, false, 1, 1), 1);
        due("the third, prime", x.key(true, false, 2, 1), NONE);
        due("the third, not prime", x.key(false, true, 2, 1), 2);
    }

    @Case(promise = 2, says = "the prime one has doubles")
    private static void aPrimeKeyWithDoubles() {
        KeyedFiles x = new KeyedFiles();
        due("the prime one with doubles", x.key(true, true, 0, 1), NONE);
        due("it is no key", x.count(0), NONE);
        due("the prime one without", x.key(true, false, 0, 1), 0);
        due("an alternate one with doubles", x.key(false, true, 0, 1), 1);
    }

    @Case(promise = 2, says = "the field is none (size 1 .. 8)")
    private static void fieldsTooShortOrTooLong() {
        int[] sizes = {0, -1, -8, 9, 16, LOWEST, HIGHEST};
        int[] froms = {0, 1, 7};
        KeyedFiles x = new KeyedFiles();
        for (int size : sizes) {
            for (int from : froms) {
                due("prime from " + from + " size " + size, x.key(true, false, from, size), NONE);
            }
        }
        due("the shortest", x.key(true, false, 0, 1), 0);
        due("the longest", x.key(false, true, 0, 8), 1);
        for (int size : sizes) {
            due("alternate size " + size, x.key(false, true, 0, size), NONE);
        }
    }

    @Case(promise = 2, says = "the field is none (all of it in the record)")
    private static void fieldsThatLeaveTheRecord() {
        int[][] outside = {
            {-1, 1}, {-1, 2}, {-1, 8}, {-8, 8}, {LOWEST, 1}, {LOWEST, 8},
            {8, 1}, {7, 2}, {6, 3}, {1, 8}, {HIGHEST, 1}, {HIGHEST, 8}, {HIGHEST - 7, 8}
        };
        KeyedFiles x = new KeyedFiles();
        for (int[] field : outside) {
            due("prime from " + field[0] + " size " + field[1], x.key(true, false, field[0], field[1]), NONE);
        }
        due("to the last byte", x.key(true, false, 7, 1), 0);
        for (int[] field : outside) {
            due("alternate from " + field[0] + " size " + field[1], x.key(false, true, field[0], field[1]), NONE);
        }
        due("to the last byte", x.key(false, true, 6, 2), 1);
        due("to the last byte", x.key(false, true, 1, 7), 2);
        due("from the first byte", x.key(false, true, 0, 7), 3);
    }

    @Case(promise = 2, says = "its number (a refused one takes none)")
    private static void refusedKeysTakeNoNumber() {
        KeyedFiles x = new KeyedFiles();
        due("the first", x.key(true, false, 0, 1), 0);
        due("refused", x.key(false, false, 8, 1), NONE);
        due("refused", x.key(true, false, 1, 1), NONE);
        due("the second", x.key(false, false, 1, 1), 1);
        due("no third", x.count(2), NONE);
    }

    @Case(promise = 2, says = "bytes from .. from + size - 1, byte 0 the highest")
    private static void fieldsOfTheFirstAndTheLastByte() {
        KeyedFiles x = new KeyedFiles();
        due("byte 0", x.key(true, false, 0, 1), 0);
        due("byte 7", x.key(false, false, 7, 1), 1);
        due("bytes 0 to 7", x.key(false, false, 0, 8), 2);
        due("bytes 1 to 7", x.key(false, false, 1, 7), 3);
        due("bytes 0 to 6", x.key(false, false, 0, 7), 4);
        due("bytes 3 and 4", x.key(false, false, 3, 2), 5);
        due("view", x.view(), 0);
        due("open", x.open(0, BOTH, DYNAMIC), 0);
        due("write", x.write(0, 0xF1E2D3C4B5A69788L), 0);
        due("byte 0", x.read(0, 0, 0xF1L), 0);
        due("byte 7", x.read(0, 1, 0x88L), 0);
        due("bytes 0 to 7", x.read(0, 2, 0xF1E2D3C4B5A69788L), 0);
        due("bytes 1 to 7", x.read(0, 3, 0xE2D3C4B5A69788L), 0);
        due("bytes 0 to 6", x.read(0, 4, 0xF1E2D3C4B5A697L), 0);
        due("bytes 3 and 4", x.read(0, 5, 0xC4B5L), 0);
        due("not byte 7", x.read(0, 0, 0x88L), 23);
        due("not byte 0", x.read(0, 1, 0xF1L), 23);
    }

    @Case(promise = 2, says = "as a number without sign")
    private static void fieldsWithTheHighestBit() {
        KeyedFiles x = new KeyedFiles();
        due("all bytes", x.key(true, false, 0, 8), 0);
        due("the last byte", x.key(false, true, 7, 1), 1);
        due("view", x.view(), 0);
        due("open", x.open(0, BOTH, DYNAMIC), 0);
        long[] falling = {-1L, Long.MIN_VALUE, Long.MAX_VALUE, 0x80L, 0x7FL, 0L};
        for (long record : falling) {
            x.write(0, record);
        }
        long[] rising = {0L, 0x7FL, 0x80L, Long.MAX_VALUE, Long.MIN_VALUE, -1L};
        for (int i = 0; i < rising.length; i++) {
            due("by all bytes, " + i, x.scan(0, i), rising[i]);
        }
        long[] byTheLast = {Long.MIN_VALUE, 0L, 0x7FL, 0x80L, -1L, Long.MAX_VALUE};
        for (int i = 0; i < byTheLast.length; i++) {
            due("by the last byte, " + i, x.scan(1, i), byTheLast[i]);
        }
    }

    // ---- promise 3

    @Case(promise = 3, says = "NONE when there is none such")
    private static void sparseOfNoAlternateKey() {
        KeyedFiles x = keyed();
        int[] none = {0, -1, 3, 6, LOWEST, HIGHEST};
        for (int key : none) {
            due("sparse of key " + key, x.sparse(key, 10), NONE);
        }
        due("the first alternate one", x.sparse(1, 9), 1);
        due("view", x.view(), 0);
        due("open", x.open(0, BOTH, DYNAMIC), 0);
        due("a record with the refused value", x.write(0, bytes(10, 10, 10)), 0);
        dueOrder(x, 0, 10);
        dueOrder(x, 1, 10);
        dueOrder(x, 2, 10);
    }

    @Case(promise = 3, says = "or a view was ever opened")
    private static void sparseWhenAViewWasOpened() {
        KeyedFiles x = keyed();
        due("view", x.view(), 0);
        due("a view that was never opened", x.sparse(1, 9), 1);
        due("open", x.open(0, BOTH, DYNAMIC), 0);
        due("when it is open", x.sparse(1, 8), NONE);
        due("close", x.close(0), 0);
        due("when it is closed again", x.sparse(1, 8), NONE);
        due("open", x.open(0, BOTH, DYNAMIC), 0);
        due("the refused value", x.write(0, bytes(1, 8)), 0);
        due("the told value", x.write(0, bytes(2, 9)), 0);
        dueOrder(x, 1, 1);
    }

    @Case(promise = 3, says = "has no entry for records whose field is v")
    private static void aRecordWithTheToldField() {
        KeyedFiles x = empty();
        due("with the told value", x.write(0, bytes(10, 1, 0)), 0);
        due("one above it", x.write(0, bytes(20, 2, 1)), 0);
        dueOrder(x, 0, 10, 20);
        dueOrder(x, 1, 10, 20);
        dueOrder(x, 2, 20);
        due("behind it", x.scan(2, 1), 0);
        due("a read", x.read(0, 2, 0), 23);
        due("a start", x.start(0, 2, EQUAL, 0, 1), 23);
        due("a start below", x.start(0, 2, LESS, 1, 1), 23);
        due("a start from below", x.start(0, 2, NOT_LESS, 0, 1), 0);
        dueNext(x, 0, ON, 0, 20);
        due("ahead of it", x.next(0, BACK), 10);
    }

    @Case(promise = 3, says = "has no entry for records whose field is v (so no double of it)")
    private static void doublesOfTheToldField() {
        KeyedFiles x = new KeyedFiles();
        due("prime", x.key(true, false, 0, 1), 0);
        due("with doubles", x.key(false, true, 1, 1), 1);
        due("without", x.key(false, false, 2, 1), 2);
        due("sparse", x.sparse(1, 255), 1);
        due("sparse", x.sparse(2, 255), 1);
        due("view", x.view(), 0);
        due("open", x.open(0, BOTH, DYNAMIC), 0);
        due("first", x.write(0, bytes(1, 255, 255)), 0);
        due("second: not barred, no double", x.write(0, bytes(2, 255, 255)), 0);
        due("rewrite: not barred, no double", x.rewrite(0, bytes(1, 255, 255, 1)), 0);
        dueOrder(x, 0, 1, 2);
        dueOrder(x, 1);
        dueOrder(x, 2);
    }

    @Case(promise = 3, says = "whose field is v (v at the ends of a field)")
    private static void theLeastAndTheGreatestToldValue() {
        KeyedFiles x = new KeyedFiles();
        due("prime", x.key(true, false, 7, 1), 0);
        due("all bytes", x.key(false, true, 0, 8), 1);
        due("one byte, at 0", x.key(false, true, 0, 1), 2);
        due("one byte, at 255", x.key(false, true, 0, 1), 3);
        due("one byte, at 256", x.key(false, true, 0, 1), 4);
        due("all bits", x.sparse(1, -1L), 1);
        due("0", x.sparse(2, 0), 1);
        due("255", x.sparse(3, 255), 1);
        due("256: no field is that", x.sparse(4, 256), 1);
        due("view", x.view(), 0);
        due("open", x.open(0, BOTH, DYNAMIC), 0);
        due("all bits", x.write(0, -1L), 0);
        due("no bit", x.write(0, 0L), 0);
        due("count of all bytes", x.count(1), 1);
        due("which is 0", x.read(0, 1, 0), 0);
        due("count at 0", x.count(2), 1);
        due("which is 255", x.scan(2, 0), -1L);
        due("count at 255", x.count(3), 1);
        due("which is 0", x.read(0, 3, 0), 0);
        due("count at 256", x.count(4), 2);
        due("whole", x.whole(), true);
    }

    // ---- promise 4

    @Case(promise = 4, says = "NONE when there are 5")
    private static void aSixthView() {
        KeyedFiles x = keyed();
        for (int i = 0; i < 5; i++) {
            due("view " + i, x.view(), i);
        }
        due("a sixth", x.view(), NONE);
        due("open the fifth", x.open(4, INPUT, DYNAMIC), 0);
        due("a sixth when one is open", x.view(), NONE);
        due("close the fifth", x.close(4), 0);
        due("a sixth when it is closed again", x.view(), NONE);
        due("open a sixth", x.open(5, INPUT, DYNAMIC), NONE);
    }

    @Case(promise = 4, says = "or no key")
    private static void aViewWithoutAKey() {
        KeyedFiles x = new KeyedFiles();
        due("no key", x.view(), NONE);
        due("a refused key", x.key(false, false, 0, 1), NONE);
        due("is none", x.view(), NONE);
        due("the prime key", x.key(true, false, 0, 1), 0);
        due("is enough", x.view(), 0);
    }

    @Case(promise = 4, says = "A new view, closed")
    private static void aNewViewIsClosed() {
        KeyedFiles x = filled();
        due("a view when another is open", x.view(), 2);
        due("close", x.close(2), 42);
        due("read", x.read(2, 0, 10), 42);
        due("reference", x.reference(2), NONE);
        due("value", x.value(2), 0);
        due("open", x.open(2, INPUT, DYNAMIC), 0);
        due("the other is open still", x.read(0, 0, 10), 0);
    }

    // ---- promise 5

    @Case(promise = 5, says = "NONE: no such mode")
    private static void modesTooLowAndTooHigh() {
        int[] none = {-1, 4, LOWEST, HIGHEST};
        KeyedFiles x = filled();
        for (int mode : none) {
            for (int access = 0; access < 3; access++) {
                due("open in mode " + mode, x.open(1, mode, access), NONE);
            }
        }
        due("it is closed still", x.close(1), 42);
        dueUnchanged(x);
    }

    @Case(promise = 5, says = "NONE: no such access")
    private static void accessesTooLowAndTooHigh() {
        int[] none = {-1, 3, LOWEST, HIGHEST};
        KeyedFiles x = filled();
        for (int access : none) {
            for (int mode = 0; mode < 4; mode++) {
                due("open by access " + access, x.open(1, mode, access), NONE);
            }
        }
        due("it is closed still", x.close(1), 42);
        dueUnchanged(x);
    }

    @Case(promise = 5, says = "0 (in every mode and access that there is)")
    private static void everyModeAndAccess() {
        for (int mode = 0; mode < 4; mode++) {
            for (int access = 0; access < 3; access++) {
                KeyedFiles x = filled();
                due("open in " + mode + ", " + access, x.open(1, mode, access), 0);
                due("it is open", x.open(1, mode, access), 41);
                due("key of reference", x.reference(1), 0);
                due("records", x.count(0), mode == OUTPUT ? 0 : 4);
            }
        }
    }

    @Case(promise = 5, says = "41 it is open; NONE goes ahead of all")
    private static void anOpenViewIsOpenedWrongly() {
        KeyedFiles x = filled();
        due("no mode", x.open(0, 4, DYNAMIC), NONE);
        due("no mode", x.open(0, -1, DYNAMIC), NONE);
        due("no access", x.open(0, INPUT, 3), NONE);
        due("no access", x.open(0, INPUT, -1), NONE);
        due("open already", x.open(0, INPUT, DYNAMIC), 41);
    }

    @Case(promise = 5, says = "41 (it stays open as it was)")
    private static void anOpenViewIsOpenedAgain() {
        KeyedFiles x = filled();
        due("start", x.start(0, 1, EQUAL, 7, 1), 0);
        for (int mode = 0; mode < 4; mode++) {
            for (int access = 0; access < 3; access++) {
                due("open in " + mode + ", " + access, x.open(0, mode, access), 41);
            }
        }
        dueUnchanged(x);
        due("the key of reference stays", x.reference(0), 1);
        dueNext(x, 0, ON, 2, 10);
        due("the mode stays", x.write(0, bytes(50)), 0);
        due("the access stays", x.read(0, 0, 50), 0);
    }

    @Case(promise = 5, says = "By mode 1 all records go")
    private static void outputEmptiesTheFile() {
        for (int access = 0; access < 3; access++) {
            KeyedFiles x = filled();
            due("a record under key 2", x.write(0, bytes(50, 1, 1)), 0);
            due("open", x.open(1, OUTPUT, access), 0);
            for (int key = 0; key < 3; key++) {
                dueOrder(x, key);
                due("scan", x.scan(key, 0), 0);
            }
            due("read", x.read(0, 0, 10), 23);
            due("what was barred", x.write(1, bytes(10, 7, 1)), 0);
            dueOrder(x, 2, 10);
        }
    }

    @Case(promise = 5, says = "By mode 1 all records go (by the others none)")
    private static void theOtherModesLeaveTheRecords() {
        int[] modes = {INPUT, BOTH, EXTEND};
        for (int mode : modes) {
            KeyedFiles x = filled();
            due("read", x.read(0, 1, 5), 0);
            due("open", x.open(1, mode, SEQUENTIAL), 0);
            due("the other's record read last", x.value(0), bytes(30, 5));
            dueNext(x, 0, ON, 2, 10);
            dueUnchanged(x);
        }
    }

    @Case(promise = 5, says = "By mode 1 all records go (of an empty file)")
    private static void outputOfAnEmptyFile() {
        KeyedFiles x = empty();
        due("open", x.open(1, OUTPUT, SEQUENTIAL), 0);
        dueOrder(x, 0);
        due("the other is lost", x.next(0, ON), 46);
        due("write", x.write(1, bytes(1)), 0);
        dueOrder(x, 0, 1);
    }

    @Case(promise = 5, says = "other views go on, each lost")
    private static void outputLosesTheOtherViews() {
        KeyedFiles x = filled();
        for (int view = 2; view < 5; view++) {
            due("view", x.view(), view);
            due("open", x.open(view, BOTH, DYNAMIC), 0);
        }
        due("at an entry", x.start(0, 1, EQUAL, 7, 1), 0);
        due("behind an entry", x.read(2, 1, 7), 2);
        due("at the end", x.next(3, BACK), 10);
        due("output", x.open(1, OUTPUT, DYNAMIC), 0);
        due("write", x.write(1, bytes(10, 7)), 0);
        dueLost(x, 0);
        dueLost(x, 2);
        dueLost(x, 3);
        dueLost(x, 4);
        due("it goes on by its key", x.reference(0), 1);
        due("it goes on", x.write(0, bytes(20, 7)), 2);
        due("a start finds a place", x.start(2, 1, EQUAL, 7, 1), 0);
        dueNext(x, 2, ON, 2, 10);
        due("a read finds a place", x.read(4, 0, 10), 0);
        dueNext(x, 4, ON, 0, 20);
        due("nor does it stay at the end", x.read(3, 0, 20), 0);
        dueNext(x, 3, BACK, 0, 10);
    }

    @Case(promise = 5, says = "other views go on, each lost, with no record read")
    private static void outputMakesTheOthersRecordsNone() {
        KeyedFiles x = filled(BOTH, SEQUENTIAL);
        due("view", x.view(), 2);
        due("read", x.read(0, 0, 20), 0);
        dueNext(x, 1, ON, 0, 10);
        due("output", x.open(2, OUTPUT, RANDOM), 0);
        due("value", x.value(0), 0);
        due("value", x.value(1), 0);
        due("write the same again", x.write(2, bytes(10, 7)), 0);
        due("remove of none", x.remove(1, 10), 43);
        due("rewrite of none", x.rewrite(1, bytes(10, 7)), 43);
        dueOrder(x, 0, 10);
    }

    @Case(promise = 5, says = "and places begin anew")
    private static void anOpenedViewIsAheadOfAll() {
        KeyedFiles x = filled();
        due("behind the last", x.read(0, 0, 40), 0);
        reopen(x, 0, INPUT, DYNAMIC);
        dueNext(x, 0, ON, 0, 10);
        due("at the last", x.start(0, 0, EQUAL, 40, 1), 0);
        reopen(x, 0, INPUT, SEQUENTIAL);
        dueNext(x, 0, ON, 0, 10);
        due("lost", x.start(0, 0, EQUAL, 41, 1), 23);
        reopen(x, 0, BOTH, SEQUENTIAL);
        dueNext(x, 0, ON, 0, 10);
        due("at the end", x.next(0, BACK), 10);
        reopen(x, 0, BOTH, DYNAMIC);
        dueNext(x, 0, ON, 0, 10);
        reopen(x, 0, INPUT, DYNAMIC);
        due("back from ahead of all", x.next(0, BACK), 10);
    }

    @Case(promise = 5, says = "and places begin anew (when records went while it was closed)")
    private static void aViewThatWasClosedDuringOutput() {
        KeyedFiles x = filled(OUTPUT, SEQUENTIAL);
        due("write", x.write(1, bytes(5)), 0);
        reopen(x, 0, INPUT, SEQUENTIAL);
        dueNext(x, 0, ON, 0, 5);
        due("the end", x.next(0, ON), 10);
    }

    @Case(promise = 5, says = "key of reference 0")
    private static void anOpenedViewHasKey0() {
        KeyedFiles x = filled();
        due("by key 1", x.read(0, 1, 7), 2);
        due("key 1", x.reference(0), 1);
        reopen(x, 0, INPUT, DYNAMIC);
        due("key 0", x.reference(0), 0);
        dueNext(x, 0, ON, 0, 10);
        dueNext(x, 0, ON, 0, 20);
        dueNext(x, 0, ON, 0, 30);
    }

    @Case(promise = 5, says = "so do open and close (make the record read last none)")
    private static void anOpenedViewHasReadNothing() {
        KeyedFiles x = filled();
        due("read", x.read(0, 0, 10), 0);
        reopen(x, 0, BOTH, SEQUENTIAL);
        due("value", x.value(0), 0);
        due("remove", x.remove(0, 10), 43);
        due("rewrite", x.rewrite(0, bytes(10, 7)), 43);
        dueUnchanged(x);
    }

    // ---- promise 6

    @Case(promise = 6, says = "42 (it was never opened, or is closed again)")
    private static void aClosedViewIsClosed() {
        KeyedFiles x = filled();
        due("never opened", x.close(1), 42);
        due("open", x.open(1, INPUT, DYNAMIC), 0);
        due("close", x.close(1), 0);
        due("closed again", x.close(1), 42);
        due("and open again", x.open(1, INPUT, DYNAMIC), 0);
        due("and closed", x.close(1), 0);
    }

    @Case(promise = 6, says = "0 (in every mode and access)")
    private static void everyOpenViewIsClosed() {
        for (int mode = 0; mode < 4; mode++) {
            for (int access = 0; access < 3; access++) {
                KeyedFiles x = filled(mode, access);
                due("close in " + mode + ", " + access, x.close(1), 0);
                due("it is closed", x.close(1), 42);
                due("records", x.count(0), mode == OUTPUT ? 0 : 4);
            }
        }
    }

    @Case(promise = 6, says = "42 it is not open")
    private static void aClosedViewRefusesEveryCall() {
        KeyedFiles x = filled();
        due("read", x.read(0, 1, 5), 0);
        due("close", x.close(0), 0);
        due("write", x.write(0, bytes(50)), 42);
        due("read", x.read(0, 0, 10), 42);
        due("start", x.start(0, 0, EQUAL, 10, 1), 42);
        due("next", x.next(0, ON), 42);
        due("next back", x.next(0, BACK), 42);
        due("rewrite", x.rewrite(0, bytes(10)), 42);
        due("remove", x.remove(0, 10), 42);
        due("reference", x.reference(0), NONE);
        due("value", x.value(0), 0);
        dueUnchanged(x);
    }

    @Case(promise = 6, says = "NONE goes ahead of all (ahead of 42)")
    private static void wrongCallsOfAClosedView() {
        KeyedFiles x = filled();
        due("no mode", x.open(1, 4, 0), NONE);
        due("no key", x.read(1, 3, 10), NONE);
        due("no key", x.read(1, -1, 10), NONE);
        due("no key", x.start(1, 3, EQUAL, 10, 1), NONE);
        due("no kind", x.start(1, 0, 5, 10, 1), NONE);
        due("no size", x.start(1, 0, EQUAL, 10, 2), NONE);
        due("a closed one", x.start(1, 0, EQUAL, 10, 1), 42);
    }

    @Case(promise = 6, says = "each is closed, or OPEN (the others stay as they are)")
    private static void closingLeavesTheOthers() {
        KeyedFiles x = filled(INPUT, DYNAMIC);
        due("read", x.read(1, 1, 7), 2);
        due("close", x.close(0), 0);
        due("value", x.value(1), bytes(10, 7));
        due("reference", x.reference(1), 1);
        dueNext(x, 1, ON, 2, 20);
        dueUnchanged(x);
    }

    // ---- promise 7

    @Case(promise = 7, says = "in modes 1, 2, 3 (mode 2 not by sequential access): 48")
    private static void whereAWriteIsRefused() {
        int[][] statuses = {{48, 48, 48}, {0, 0, 0}, {48, 0, 0}, {0, 0, 0}};
        for (int mode = 0; mode < 4; mode++) {
            for (int access = 0; access < 3; access++) {
                KeyedFiles x = filled(mode, access);
                int records = x.count(0);
                int status = x.write(1, bytes(50));
                due("write in " + mode + ", " + access, status, statuses[mode][access]);
                due("records", x.count(0), status == 0 ? records + 1 : records);
            }
        }
    }

    @Case(promise = 7, says = "48 (ahead of 21, 22 and 24)")
    private static void aRefusedWriteOfADouble() {
        KeyedFiles x = filled(INPUT, SEQUENTIAL);
        due("a prime that is there", x.write(1, bytes(10)), 48);
        KeyedFiles y = full();
        due("open", y.open(1, BOTH, SEQUENTIAL), 0);
        due("a full file", y.write(1, bytes(9, 9)), 48);
        due("a prime that is there", y.write(1, bytes(0, 0)), 48);
    }

    @Case(promise = 7, says = "21 when the prime field is not greater than that of the last record")
    private static void sequentialWritesNotGreater() {
        KeyedFiles x = filled(OUTPUT, SEQUENTIAL);
        due("first", x.write(1, bytes(10)), 0);
        due("equal", x.write(1, bytes(10, 1)), 21);
        due("one less", x.write(1, bytes(9, 2)), 21);
        due("least", x.write(1, bytes(0, 3)), 21);
        due("one greater", x.write(1, bytes(11, 4)), 0);
        due("the one ahead of the last", x.write(1, bytes(10, 5)), 21);
        due("greatest", x.write(1, bytes(255, 6)), 0);
        due("nothing is greater", x.write(1, bytes(255, 7)), 21);
        due("nor is what wraps round", x.write(1, bytes(0, 8)), 21);
        dueOrder(x, 0, 10, 11, 255);
    }

    @Case(promise = 7, says = "21 (fields are numbers without sign)")
    private static void sequentialWritesWithTheHighestBit() {
        KeyedFiles x = wide(OUTPUT, SEQUENTIAL);
        due("the greatest with a sign", x.write(0, Long.MAX_VALUE), 0);
        due("is less than the next", x.write(0, Long.MIN_VALUE), 0);
        due("equal", x.write(0, Long.MIN_VALUE), 21);
        due("not greater", x.write(0, Long.MAX_VALUE), 21);
        due("0", x.write(0, 0L), 21);
        due("all bits", x.write(0, -1L), 0);
        due("again", x.write(0, -1L), 21);
        due("0", x.write(0, 0L), 21);
        due("count", x.count(0), 3);
    }

    @Case(promise = 7, says = "the last record that this view has written (there is none yet)")
    private static void theFirstSequentialWrite() {
        KeyedFiles x = filled(OUTPUT, SEQUENTIAL);
        due("the least prime", x.write(1, bytes(0)), 0);
        KeyedFiles y = wide(OUTPUT, SEQUENTIAL);
        due("the least prime of all", y.write(0, 0L), 0);
        KeyedFiles z = wide(EXTEND, SEQUENTIAL);
        due("the least prime, into an empty file", z.write(0, 0L), 0);
    }

    @Case(promise = 7, says = "the last record that this view has written (not another one)")
    private static void sequentialWritesBesideAnotherView() {
        KeyedFiles x = filled(OUTPUT, SEQUENTIAL);
        due("another view's", x.write(0, bytes(100)), 0);
        due("counts not", x.write(1, bytes(50)), 2);
        due("another view's", x.write(0, bytes(20)), 2);
        due("counts not", x.write(1, bytes(50)), 21);
        due("greater than its own", x.write(1, bytes(60)), 2);
    }

    @Case(promise = 7, says = "the last record that this view has written (a refused one is not written)")
    private static void sequentialWritesBehindARefusedOne() {
        KeyedFiles x = filled(OUTPUT, SEQUENTIAL);
        due("first", x.write(1, bytes(10, 1, 1)), 0);
        due("barred", x.write(1, bytes(200, 2, 1)), 22);
        due("greater than the last written", x.write(1, bytes(11, 3)), 0);
        due("out of order", x.write(1, bytes(5, 4)), 21);
        due("not greater than the last written", x.write(1, bytes(11, 5)), 21);
        due("greater than the last written", x.write(1, bytes(12, 6)), 0);
    }

    @Case(promise = 7, says = "since it was opened")
    private static void sequentialWritesOfAViewOpenedAgain() {
        KeyedFiles x = filled(OUTPUT, SEQUENTIAL);
        due("first", x.write(1, bytes(200)), 0);
        reopen(x, 1, OUTPUT, SEQUENTIAL);
        due("less, but since it was opened the first", x.write(1, bytes(1)), 0);
        due("and now the last", x.write(1, bytes(1)), 21);
    }

    @Case(promise = 7, says = "mode 3: than the greatest prime field, too")
    private static void extendsNotGreater() {
        KeyedFiles x = filled(EXTEND, SEQUENTIAL);
        due("less than the least", x.write(1, bytes(1)), 21);
        due("less than the greatest", x.write(1, bytes(39)), 21);
        due("equal to the greatest", x.write(1, bytes(40)), 21);
        due("one greater", x.write(1, bytes(41)), 0);
        due("another view writes a greater one", x.write(0, bytes(60)), 2);
        due("less than that", x.write(1, bytes(59)), 21);
        due("equal to that", x.write(1, bytes(60)), 21);
        due("greater", x.write(1, bytes(61)), 2);
        dueOrder(x, 0, 10, 20, 30, 40, 41, 60, 61);
    }

    @Case(promise = 7, says = "mode 3: than the greatest prime field, too (beside the last one written)")
    private static void extendsBehindARecordThatIsGone() {
        KeyedFiles x = filled(EXTEND, SEQUENTIAL);
        due("write", x.write(1, bytes(60)), 0);
        due("remove", x.remove(0, 60), 0);
        due("greater than the greatest, not than the last written", x.write(1, bytes(50)), 21);
        due("equal to the last written", x.write(1, bytes(60)), 21);
        due("greater than both", x.write(1, bytes(61)), 0);
    }

    @Case(promise = 7, says = "mode 3: the greatest prime field, without sign")
    private static void extendsWithTheHighestBit() {
        KeyedFiles x = wide(BOTH, DYNAMIC);
        due("write", x.write(0, Long.MAX_VALUE), 0);
        due("write", x.write(0, Long.MIN_VALUE), 0);
        reopen(x, 0, EXTEND, SEQUENTIAL);
        due("less", x.write(0, Long.MAX_VALUE - 1), 21);
        due("greater", x.write(0, Long.MIN_VALUE + 1), 0);
    }

    @Case(promise = 7, says = "21 by sequential access (by the others in any order)")
    private static void otherWritesInAnyOrder() {
        int[][] ways = {{OUTPUT, RANDOM}, {OUTPUT, DYNAMIC}, {BOTH, RANDOM}, {BOTH, DYNAMIC}, {EXTEND, RANDOM}, {EXTEND, DYNAMIC}};
        for (int[] way : ways) {
            KeyedFiles x = filled(way[0], way[1]);
            due("high", x.write(1, bytes(50, 1)), 0);
            due("low", x.write(1, bytes(1, 2)), 0);
            due("there", x.write(1, bytes(50, 3)), 22);
        }
    }

    @Case(promise = 7, says = "21 .. ; 22, 24 (in this order)")
    private static void whichRefusalOfAWriteGoesFirst() {
        KeyedFiles x = full();
        due("22 ahead of 24", x.write(0, bytes(0, 0)), 22);
        due("24", x.write(0, bytes(9, 9)), 24);
        due("extend", x.open(1, EXTEND, SEQUENTIAL), 0);
        due("21 ahead of 22 and 24", x.write(1, bytes(0, 0)), 21);
        due("24 behind 21", x.write(1, bytes(9, 9)), 24);
        KeyedFiles y = filled(OUTPUT, SEQUENTIAL);
        due("write", y.write(1, bytes(10, 1, 1)), 0);
        due("21 ahead of 22 of an alternate key", y.write(1, bytes(9, 1, 1)), 21);
        due("22", y.write(1, bytes(11, 1, 1)), 22);
    }

    @Case(promise = 7, says = "22 a double where it's barred")
    private static void doublesThatAreBarred() {
        KeyedFiles x = filled();
        due("the first prime", x.write(0, bytes(10, 1)), 22);
        due("the last prime", x.write(0, bytes(40, 1)), 22);
        dueUnchanged(x);
        due("an alternate field", x.write(0, bytes(50, 1, 255)), 0);
        due("the same again", x.write(0, bytes(60, 1, 255)), 22);
        due("one less", x.write(0, bytes(60, 2, 254)), 0);
        dueOrder(x, 0, 10, 20, 30, 40, 50, 60);
        dueOrder(x, 1, 50, 60, 30, 10, 20, 40);
        dueOrder(x, 2, 60, 50);
    }

    @Case(promise = 7, says = "24 no room; there are at most 300 records")
    private static void aRecordTooMany() {
        KeyedFiles x = full();
        due("count", x.count(0), 300);
        due("one more", x.write(0, bytes(255, 255)), 24);
        due("and again", x.write(0, bytes(255, 254)), 24);
        due("count", x.count(0), 300);
        due("the last one", x.scan(0, 299), bytes(1, 43));
        due("behind the last one", x.scan(0, 300), 0);
        due("not there", x.read(0, 0, 0xFFFF), 23);
        due("whole", x.whole(), true);
    }

    @Case(promise = 7, says = "24 no room (there is room again)")
    private static void roomThatComesBack() {
        KeyedFiles x = full();
        due("a rewrite needs none", x.rewrite(0, bytes(0, 7, 1)), 0);
        due("remove", x.remove(0, 299), 0);
        due("room for one", x.write(0, bytes(255, 255)), 0);
        due("not for two", x.write(0, bytes(255, 254)), 24);
        due("output", x.open(1, OUTPUT, DYNAMIC), 0);
        due("room again", x.write(0, bytes(255, 254)), 0);
        due("count", x.count(0), 1);
        due("whole", x.whole(), true);
    }

    @Case(promise = 7, says = "24 no room (what is refused is not the last one written)")
    private static void aSequentialWriteBehindOneWithoutRoom() {
        KeyedFiles x = full();
        due("extend", x.open(1, EXTEND, SEQUENTIAL), 0);
        due("no room", x.write(1, bytes(200, 0)), 24);
        due("remove", x.remove(0, 0), 0);
        due("less than the refused one", x.write(1, bytes(100, 0)), 0);
    }

    @Case(promise = 7, says = "0, 2: an entry under such a key came behind an equal one")
    private static void writesWithAndWithoutDoubles() {
        KeyedFiles x = empty();
        due("into an empty file", x.write(0, bytes(20, 128)), 0);
        due("ahead of all", x.write(0, bytes(10, 127)), 0);
        due("behind all", x.write(0, bytes(30, 129)), 0);
        due("behind an equal one", x.write(0, bytes(5, 128)), 2);
        due("behind two", x.write(0, bytes(4, 128)), 2);
        dueOrder(x, 1, 10, 20, 5, 4, 30);
    }

    @Case(promise = 7, says = "2 (by any of the keys that allow doubles)")
    private static void aDoubleUnderOneOfTheKeys() {
        for (int key = 1; key < 6; key++) {
            KeyedFiles x = new KeyedFiles();
            for (int i = 0; i < 6; i++) {
                due("key", x.key(i == 0, i > 0, i, 1), i);
            }
            due("view", x.view(), 0);
            due("open", x.open(0, BOTH, RANDOM), 0);
            due("first", x.write(0, bytes(1, 1, 1, 1, 1, 1)), 0);
            due("no double", x.write(0, bytes(2, 2, 2, 2, 2, 2)), 0);
            int[] one = {3, 3, 3, 3, 3, 3};
            one[key] = 1;
            due("a double under key " + key, x.write(0, bytes(one)), 2);
        }
    }

    @Case(promise = 7, says = "Its entries come behind equal ones")
    private static void aThirdEqualOne() {
        KeyedFiles x = filled();
        due("with the least prime", x.write(0, bytes(0, 7)), 2);
        dueOrder(x, 1, 30, 10, 20, 40, 0);
        due("with the greatest prime", x.write(0, bytes(255, 5)), 2);
        dueOrder(x, 1, 30, 255, 10, 20, 40, 0);
    }

    // ---- promise 8

    @Case(promise = 8, says = "in modes 0, 2, not by sequential access: 47")
    private static void whereAReadIsRefused() {
        int[][] statuses = {{47, 0, 0}, {47, 47, 47}, {47, 0, 0}, {47, 47, 47}};
        for (int mode = 0; mode < 4; mode++) {
            for (int access = 0; access < 3; access++) {
                KeyedFiles x = filled(mode, access);
                int status = statuses[mode][access];
                due("read in " + mode + ", " + access, x.read(1, 1, 5), status);
                due("reference", x.reference(1), status == 0 ? 1 : 0);
                due("value", x.value(1), status == 0 ? bytes(30, 5) : 0);
            }
        }
    }

    @Case(promise = 8, says = "47 (what is refused leaves the view as it was)")
    private static void aRefusedReadLeavesThePlace() {
        KeyedFiles x = filled(INPUT, SEQUENTIAL);
        dueNext(x, 1, ON, 0, 10);
        due("refused", x.read(1, 1, 7), 47);
        due("refused, and not there", x.read(1, 1, 99), 47);
        due("reference", x.reference(1), 0);
        due("value", x.value(1), bytes(10, 7));
        dueNext(x, 1, ON, 0, 20);
    }

    @Case(promise = 8, says = "NONE: no such key")
    private static void readsByNoKey() {
        KeyedFiles x = filled();
        due("read", x.read(0, 1, 7), 2);
        int[] none = {-1, 3, 6, LOWEST, HIGHEST};
        for (int key : none) {
            due("read by key " + key, x.read(0, key, 10), NONE);
        }
        due("reference stays", x.reference(0), 1);
        due("value stays", x.value(0), bytes(10, 7));
        dueNext(x, 0, ON, 2, 20);
        KeyedFiles y = filled(INPUT, SEQUENTIAL);
        due("ahead of 47", y.read(1, 3, 10), NONE);
    }

    @Case(promise = 8, says = "23 (of an empty file)")
    private static void readsOfAnEmptyFile() {
        KeyedFiles x = empty();
        for (int key = 0; key < 3; key++) {
            due("read by key " + key, x.read(0, key, 0), 23);
            due("reference", x.reference(0), key);
            due("value", x.value(0), 0);
            dueLost(x, 0);
        }
    }

    @Case(promise = 8, says = "23 (below the least, between, above the greatest, too large for the field)")
    private static void readsOfFieldsThatAreNotThere() {
        KeyedFiles x = filled();
        long[] none = {0, 9, 11, 39, 41, 255, 256, 256 + 10, (1L << 32) + 10, (1L << 56) + 10, bytes(10, 7), Long.MAX_VALUE};
        for (long k : none) {
            due("read of " + k, x.read(0, 0, k), 23);
        }
        due("the least", x.read(0, 0, 10), 0);
        due("the greatest", x.read(0, 0, 40), 0);
    }

    @Case(promise = 8, says = "whose field is k (the least and the greatest that there can be)")
    private static void readsAtTheEndsOfAField() {
        KeyedFiles x = wide(BOTH, DYNAMIC);
        long[] records = {-1L, 0L, Long.MAX_VALUE, Long.MIN_VALUE};
        for (long record : records) {
            due("not there", x.read(0, 0, record), 23);
            due("write", x.write(0, record), 0);
            due("there", x.read(0, 0, record), 0);
            due("value", x.value(0), record);
        }
        KeyedFiles y = empty();
        due("write", y.write(0, bytes(255, 0, 255)), 0);
        due("write", y.write(0, bytes(0, 255)), 0);
        due("prime 255", y.read(0, 0, 255), 0);
        due("prime 0", y.read(0, 0, 0), 0);
        due("alternate 255", y.read(0, 1, 255), 0);
        due("alternate 0", y.read(0, 1, 0), 0);
    }

    @Case(promise = 8, says = "The first entry of a key whose field is k")
    private static void theFirstOfEqualOnes() {
        KeyedFiles x = filled();
        due("the first of three", x.read(0, 1, 7), 2);
        due("value", x.value(0), bytes(10, 7));
        due("remove the first", x.remove(0, 10), 0);
        due("the first of two", x.read(0, 1, 7), 2);
        due("value", x.value(0), bytes(20, 7));
        due("remove the first", x.remove(0, 20), 0);
        due("one alone", x.read(0, 1, 7), 0);
        due("value", x.value(0), bytes(40, 7));
        due("remove it", x.remove(0, 40), 0);
        due("none", x.read(0, 1, 7), 23);
    }

    @Case(promise = 8, says = "2: the entry next to it in the direction read has the same field")
    private static void readsWithAndWithoutDoubles() {
        KeyedFiles x = filled();
        due("a field alone, ahead of another one", x.read(0, 1, 5), 0);
        due("a field with doubles", x.read(0, 1, 7), 2);
        due("by the prime key there are none", x.read(0, 0, 10), 0);
        due("one with a greater field behind it", x.write(0, bytes(50, 9)), 0);
        due("a field alone, the last one", x.read(0, 1, 9), 0);
        due("write", x.write(0, bytes(60, 9)), 2);
        due("a double behind it", x.read(0, 1, 9), 2);
    }

    @Case(promise = 8, says = "The key is the one of reference, the place behind the entry")
    private static void thePlaceBehindWhatWasRead() {
        KeyedFiles x = filled();
        due("the last by key 1", x.read(0, 1, 7), 2);
        dueNext(x, 0, ON, 2, 20);
        due("the first by key 0", x.read(0, 0, 10), 0);
        due("key 0", x.reference(0), 0);
        due("none ahead of it", x.next(0, BACK), 10);
        due("the last by key 0", x.read(0, 0, 40), 0);
        due("none behind it", x.next(0, ON), 10);
        due("the first of equal ones", x.read(0, 1, 7), 2);
        dueNext(x, 0, BACK, 0, 30);
    }

    @Case(promise = 8, says = "by 23 it is lost")
    private static void aReadThatFindsNone() {
        KeyedFiles x = filled();
        due("read", x.read(0, 0, 20), 0);
        due("none", x.read(0, 1, 6), 23);
        due("the key is the one of reference", x.reference(0), 1);
        due("value", x.value(0), 0);
        dueLost(x, 0);
        due("found again", x.read(0, 0, 20), 0);
        dueNext(x, 0, ON, 0, 30);
    }

    // ---- promise 9

    @Case(promise = 9, says = "0 for none (none at first; no view; a closed one)")
    private static void valuesOfNone() {
        KeyedFiles x = filled();
        due("none at first", x.value(0), 0);
        due("a closed view", x.value(1), 0);
        int[] none = {-1, 2, 5, LOWEST, HIGHEST};
        for (int view : none) {
            due("value of view " + view, x.value(view), 0);
        }
        due("read", x.read(0, 0, 10), 0);
        due("close", x.close(0), 0);
        due("closed again", x.value(0), 0);
    }

    @Case(promise = 9, says = "write, read, start, next, rewrite, remove make it none")
    private static void callsThatMakeItNone() {
        for (int call = 0; call < 12; call++) {
            KeyedFiles x = filled();
            due("read", x.read(0, 0, 40), 0);
            due("value", x.value(0), bytes(40, 7));
            int[] statuses = {0, 22, 23, 0, 23, 10, 0, 23, 22, 0, 23, 0};
            due("call " + call, callThatMakesNone(x, call), statuses[call]);
            due("value behind call " + call, x.value(0), 0);
        }
    }

    private static int callThatMakesNone(KeyedFiles x, int call) {
        switch (call) {
            case 0: return x.write(0, bytes(50));
            case 1: return x.write(0, bytes(40));
            case 2: return x.read(0, 0, 41);
            case 3: return x.start(0, 0, EQUAL, 40, 1);
            case 4: return x.start(0, 0, EQUAL, 41, 1);
            case 5: return x.next(0, ON);
            case 6: return x.rewrite(0, bytes(40, 7, 0, 1));
            case 7: return x.rewrite(0, bytes(41));
            case 8: return rewriteThatIsBarred(x);
            case 9: return x.remove(0, 10);
            case 10: return x.remove(0, 41);
            default: return x.close(0);
        }
    }

    private static int rewriteThatIsBarred(KeyedFiles x) {
        due("write", x.write(0, bytes(50, 0, 1)), 0);
        due("read", x.read(0, 0, 40), 0);
        return x.rewrite(0, bytes(40, 7, 1));
    }

    @Case(promise = 9, says = "make it none (by 43, 46 and 21, too)")
    private static void sequentialCallsThatMakeItNone() {
        KeyedFiles x = filled(BOTH, SEQUENTIAL);
        dueNext(x, 1, ON, 0, 10);
        due("another prime", x.rewrite(1, bytes(11)), 21);
        due("value", x.value(1), 0);
        dueNext(x, 1, ON, 0, 20);
        due("removed by another view", x.remove(0, 20), 0);
        due("it is not there", x.remove(1, 20), 43);
        due("value", x.value(1), 0);
        dueNext(x, 1, ON, 0, 30);
        due("removed by another view", x.remove(0, 30), 0);
        due("it is not there", x.rewrite(1, bytes(30)), 43);
        due("value", x.value(1), 0);
        dueNext(x, 1, BACK, 0, 10);
        due("the end", x.next(1, BACK), 10);
        due("value", x.value(1), 0);
        due("no next one", x.next(1, ON), 46);
        due("value", x.value(1), 0);
    }

    @Case(promise = 9, says = "unless they answer NONE, 42, 47, 48 or 49")
    private static void callsThatLeaveIt() {
        KeyedFiles x = filled(INPUT, SEQUENTIAL);
        dueNext(x, 1, ON, 0, 10);
        due("read", x.read(1, 0, 20), 47);
        due("value", x.value(1), bytes(10, 7));
        due("write", x.write(1, bytes(50)), 48);
        due("value", x.value(1), bytes(10, 7));
        due("rewrite", x.rewrite(1, bytes(10)), 49);
        due("value", x.value(1), bytes(10, 7));
        due("remove", x.remove(1, 10), 49);
        due("value", x.value(1), bytes(10, 7));
        due("read by no key", x.read(1, 3, 10), NONE);
        due("start by no key", x.start(1, 3, EQUAL, 10, 1), NONE);
        due("no kind of start", x.start(1, 0, 5, 10, 1), NONE);
        due("no size of start", x.start(1, 0, EQUAL, 10, 2), NONE);
        due("value", x.value(1), bytes(10, 7));
        KeyedFiles y = filled(INPUT, RANDOM);
        due("read", y.read(1, 0, 20), 0);
        due("start", y.start(1, 0, EQUAL, 10, 1), 47);
        due("value", y.value(1), bytes(20, 7));
        due("next", y.next(1, ON), 47);
        due("next back", y.next(1, BACK), 47);
        due("value", y.value(1), bytes(20, 7));
    }

    @Case(promise = 9, says = "unless they answer .. 47, 48 (so a sequential remove finds it still)")
    private static void aSequentialChangeBehindARefusedCall() {
        KeyedFiles x = filled(BOTH, SEQUENTIAL);
        dueNext(x, 1, ON, 0, 10);
        due("read", x.read(1, 0, 20), 47);
        due("write", x.write(1, bytes(50)), 48);
        due("no key", x.start(1, 3, EQUAL, 10, 1), NONE);
        due("rewrite", x.rewrite(1, bytes(10, 5)), 2);
        dueNext(x, 1, ON, 0, 20);
        due("read", x.read(1, 0, 10), 47);
        due("write", x.write(1, bytes(50)), 48);
        due("remove", x.remove(1, 0), 0);
        dueOrder(x, 0, 10, 30, 40);
    }

    @Case(promise = 9, says = "It stays what it was then")
    private static void theRecordChangesBehindTheView() {
        KeyedFiles x = filled(BOTH, DYNAMIC);
        due("read", x.read(0, 0, 20), 0);
        due("rewritten by another view", x.rewrite(1, bytes(20, 9, 9)), 0);
        due("value", x.value(0), bytes(20, 7));
        due("removed by another view", x.remove(1, 20), 0);
        due("value", x.value(0), bytes(20, 7));
        due("value again", x.value(0), bytes(20, 7));
        due("a call of another view", x.value(1), 0);
    }

    @Case(promise = 9, says = "The record that a view read last (of all bits, of none)")
    private static void theLeastAndTheGreatestRecord() {
        KeyedFiles x = wide(BOTH, DYNAMIC);
        due("write", x.write(0, 0L), 0);
        due("write", x.write(0, -1L), 0);
        due("all bits", x.read(0, 0, -1L), 0);
        due("value", x.value(0), -1L);
        due("back", x.next(0, BACK), 0);
        due("value", x.value(0), 0L);
    }

    // ---- promise 10

    @Case(promise = 10, says = "in modes 0, 2, not by random access: 47")
    private static void whereAStartIsRefused() {
        int[][] statuses = {{0, 47, 0}, {47, 47, 47}, {0, 47, 0}, {47, 47, 47}};
        for (int mode = 0; mode < 4; mode++) {
            for (int access = 0; access < 3; access++) {
                KeyedFiles x = filled(mode, access);
                int status = statuses[mode][access];
                due("start in " + mode + ", " + access, x.start(1, 1, EQUAL, 7, 1), status);
                due("reference", x.reference(1), status == 0 ? 1 : 0);
            }
        }
    }

    @Case(promise = 10, says = "NONE: no such key, or kind of start")
    private static void startsByNoKeyOrKind() {
        KeyedFiles x = filled();
        due("read", x.read(0, 1, 7), 2);
        int[] noKey = {-1, 3, 6, LOWEST, HIGHEST};
        for (int key : noKey) {
            due("start by key " + key, x.start(0, key, EQUAL, 10, 1), NONE);
        }
        int[] noKind = {-1, 5, LOWEST, HIGHEST};
        for (int op : noKind) {
            due("start of kind " + op, x.start(0, 0, op, 10, 1), NONE);
        }
        due("reference stays", x.reference(0), 1);
        due("value stays", x.value(0), bytes(10, 7));
        dueNext(x, 0, ON, 2, 20);
    }

    @Case(promise = 10, says = "NONE also when size is not 1 .. the field's")
    private static void startsByPartsTooShortOrTooLong() {
        KeyedFiles x = new KeyedFiles();
        for (int i = 0; i < 6; i++) {
            int size = i == 0 ? 8 : i;
            due("key", x.key(i == 0, i > 0, 0, size), i);
        }
        due("view", x.view(), 0);
        due("open", x.open(0, INPUT, SEQUENTIAL), 0);
        for (int key = 0; key < 6; key++) {
            int longest = key == 0 ? 8 : key;
            int[] none = {0, -1, longest + 1, longest + 8, LOWEST, HIGHEST};
            for (int size : none) {
                due("size " + size + " of " + longest, x.start(0, key, NOT_LESS, 0, size), NONE);
            }
            due("the shortest", x.start(0, key, NOT_LESS, 0, 1), 23);
            due("the longest", x.start(0, key, NOT_LESS, 0, longest), 23);
        }
    }

    @Case(promise = 10, says = "NONE goes ahead of all (ahead of 47)")
    private static void wrongStartsOfAViewThatMayNotStart() {
        KeyedFiles x = filled(OUTPUT, RANDOM);
        due("no key", x.start(1, 3, EQUAL, 10, 1), NONE);
        due("no kind", x.start(1, 0, 5, 10, 1), NONE);
        due("no kind", x.start(1, 0, -1, 10, 1), NONE);
        due("no size", x.start(1, 0, EQUAL, 10, 0), NONE);
        due("no size", x.start(1, 0, EQUAL, 10, 2), NONE);
        due("refused", x.start(1, 0, EQUAL, 10, 1), 47);
    }

    @Case(promise = 10, says = "23 there is none (of an empty file)")
    private static void startsInAnEmptyFile() {
        KeyedFiles x = empty();
        for (int key = 0; key < 3; key++) {
            for (int op = 0; op < 5; op++) {
                due("kind " + op, x.start(0, key, op, 1, 1), 23);
                due("reference", x.reference(0), key);
                dueLost(x, 0);
            }
        }
    }

    /** A start of view 0 that reads this prime in both directions, or finds none (prime below 0). */
    private static void dueStart(KeyedFiles x, int key, int op, long k, int size, int prime) {
        String what = "start(0, " + key + ", " + op + ", " + k + ", " + size + ")";
        due(what, x.start(0, key, op, k, size), prime < 0 ? 23 : 0);
        if (prime < 0) {
            dueLost(x, 0);
            return;
        }
        due("value behind " + what, x.value(0), 0);
        x.next(0, ON);
        due("what is read from " + what, x.value(0) >>> 56, prime);
        due(what, x.start(0, key, op, k, size), 0);
        x.next(0, BACK);
        due("what is read back from " + what, x.value(0) >>> 56, prime);
    }

    @Case(promise = 10, says = "op = 0 equal to k")
    private static void startsEqual() {
        KeyedFiles x = filled();
        dueStart(x, 0, EQUAL, 9, 1, -1);
        dueStart(x, 0, EQUAL, 10, 1, 10);
        dueStart(x, 0, EQUAL, 11, 1, -1);
        dueStart(x, 0, EQUAL, 40, 1, 40);
        dueStart(x, 0, EQUAL, 41, 1, -1);
        dueStart(x, 0, EQUAL, 256 + 10, 1, -1);
        dueStart(x, 1, EQUAL, 5, 1, 30);
        dueStart(x, 1, EQUAL, 6, 1, -1);
        dueStart(x, 1, EQUAL, 7, 1, 10);
        dueStart(x, 1, EQUAL, 8, 1, -1);
    }

    @Case(promise = 10, says = "1 greater")
    private static void startsGreater() {
        KeyedFiles x = filled();
        dueStart(x, 0, GREATER, 0, 1, 10);
        dueStart(x, 0, GREATER, 9, 1, 10);
        dueStart(x, 0, GREATER, 10, 1, 20);
        dueStart(x, 0, GREATER, 39, 1, 40);
        dueStart(x, 0, GREATER, 40, 1, -1);
        dueStart(x, 0, GREATER, 255, 1, -1);
        dueStart(x, 0, GREATER, 256, 1, -1);
        dueStart(x, 1, GREATER, 4, 1, 30);
        dueStart(x, 1, GREATER, 5, 1, 10);
        dueStart(x, 1, GREATER, 6, 1, 10);
        dueStart(x, 1, GREATER, 7, 1, -1);
    }

    @Case(promise = 10, says = "2 not less")
    private static void startsNotLess() {
        KeyedFiles x = filled();
        dueStart(x, 0, NOT_LESS, 0, 1, 10);
        dueStart(x, 0, NOT_LESS, 10, 1, 10);
        dueStart(x, 0, NOT_LESS, 11, 1, 20);
        dueStart(x, 0, NOT_LESS, 40, 1, 40);
        dueStart(x, 0, NOT_LESS, 41, 1, -1);
        dueStart(x, 0, NOT_LESS, 256, 1, -1);
        dueStart(x, 1, NOT_LESS, 5, 1, 30);
        dueStart(x, 1, NOT_LESS, 6, 1, 10);
        dueStart(x, 1, NOT_LESS, 7, 1, 10);
        dueStart(x, 1, NOT_LESS, 8, 1, -1);
    }

    @Case(promise = 10, says = "the last one (3 less)")
    private static void startsLess() {
        KeyedFiles x = filled();
        dueStart(x, 0, LESS, 0, 1, -1);
        dueStart(x, 0, LESS, 10, 1, -1);
        dueStart(x, 0, LESS, 11, 1, 10);
        dueStart(x, 0, LESS, 40, 1, 30);
        dueStart(x, 0, LESS, 41, 1, 40);
        dueStart(x, 0, LESS, 256, 1, 40);
        dueStart(x, 0, LESS, Long.MAX_VALUE, 1, 40);
        dueStart(x, 1, LESS, 5, 1, -1);
        dueStart(x, 1, LESS, 7, 1, 30);
        dueStart(x, 1, LESS, 8, 1, 40);
    }

    @Case(promise = 10, says = "the last one (4 not greater)")
    private static void startsNotGreater() {
        KeyedFiles x = filled();
        dueStart(x, 0, NOT_GREATER, 0, 1, -1);
        dueStart(x, 0, NOT_GREATER, 9, 1, -1);
        dueStart(x, 0, NOT_GREATER, 10, 1, 10);
        dueStart(x, 0, NOT_GREATER, 39, 1, 30);
        dueStart(x, 0, NOT_GREATER, 40, 1, 40);
        dueStart(x, 0, NOT_GREATER, 256, 1, 40);
        dueStart(x, 1, NOT_GREATER, 4, 1, -1);
        dueStart(x, 1, NOT_GREATER, 5, 1, 30);
        dueStart(x, 1, NOT_GREATER, 6, 1, 30);
        dueStart(x, 1, NOT_GREATER, 7, 1, 40);
    }

    @Case(promise = 10, says = "by the first size bytes of a key's field")
    private static void startsByAPart() {
        KeyedFiles x = new KeyedFiles();
        due("key 0", x.key(true, false, 0, 1), 0);
        due("key 1", x.key(false, true, 1, 3), 1);
        due("view", x.view(), 0);
        due("open", x.open(0, BOTH, DYNAMIC), 0);
        due("write", x.write(0, bytes(1, 5, 0, 0)), 0);
        due("write", x.write(0, bytes(2, 5, 0, 255)), 0);
        due("write", x.write(0, bytes(3, 5, 255, 0)), 0);
        due("write", x.write(0, bytes(4, 255, 255, 255)), 0);
        dueStart(x, 1, EQUAL, 5, 1, 1);
        dueStart(x, 1, EQUAL, 0x05FF, 2, 3);
        dueStart(x, 1, EQUAL, 0x0500FF, 3, 2);
        dueStart(x, 1, EQUAL, 0x0500FF, 2, -1);
        dueStart(x, 1, GREATER, 5, 1, 4);
        dueStart(x, 1, GREATER, 0x0500, 2, 3);
        dueStart(x, 1, GREATER, 0x050000, 3, 2);
        dueStart(x, 1, NOT_LESS, 0x0501, 2, 3);
        dueStart(x, 1, LESS, 5, 1, -1);
        dueStart(x, 1, LESS, 255, 1, 3);
        dueStart(x, 1, LESS, 0x05FF, 2, 2);
        dueStart(x, 1, LESS, 0x050001, 3, 1);
        dueStart(x, 1, NOT_GREATER, 5, 1, 3);
        dueStart(x, 1, NOT_GREATER, 0x0500, 2, 2);
        dueStart(x, 1, NOT_GREATER, 0xFFFF, 2, 4);
        dueStart(x, 1, EQUAL, 0xFFFFFF, 3, 4);
    }

    @Case(promise = 10, says = "by the first size bytes (all eight, and one, without sign)")
    private static void startsWithTheHighestBit() {
        KeyedFiles x = wide(BOTH, DYNAMIC);
        due("write", x.write(0, 1L), 0);
        due("write", x.write(0, Long.MAX_VALUE), 0);
        due("write", x.write(0, Long.MIN_VALUE), 0);
        due("write", x.write(0, -1L), 0);
        dueStart(x, 0, EQUAL, -1L, 8, 255);
        dueStart(x, 0, GREATER, -1L, 8, -1);
        dueStart(x, 0, LESS, -1L, 8, 128);
        dueStart(x, 0, GREATER, Long.MAX_VALUE, 8, 128);
        dueStart(x, 0, NOT_GREATER, Long.MAX_VALUE, 8, 127);
        dueStart(x, 0, LESS, Long.MIN_VALUE, 8, 127);
        dueStart(x, 0, NOT_LESS, Long.MIN_VALUE + 1, 8, 255);
        dueStart(x, 0, NOT_LESS, 0L, 8, 0);
        dueStart(x, 0, LESS, 1L, 8, -1);
        dueStart(x, 0, GREATER, 127, 1, 128);
        dueStart(x, 0, LESS, 128, 1, 127);
        dueStart(x, 0, EQUAL, 255, 1, 255);
        dueStart(x, 0, EQUAL, 0xFFFFFFFFFFFFFFL, 7, 255);
    }

    @Case(promise = 10, says = "23 there is none, it is lost")
    private static void aStartThatFindsNone() {
        KeyedFiles x = filled();
        due("read", x.read(0, 0, 20), 0);
        due("none", x.start(0, 1, EQUAL, 6, 1), 23);
        due("value", x.value(0), 0);
        dueLost(x, 0);
        due("found again", x.start(0, 0, EQUAL, 20, 1), 0);
        dueNext(x, 0, ON, 0, 20);
        due("found again, ahead of all is gone", x.next(0, BACK), 0);
    }

    @Case(promise = 10, says = "The key is the one of reference")
    private static void theKeyOfAStart() {
        KeyedFiles x = filled();
        due("by key 1", x.start(0, 1, NOT_LESS, 0, 1), 0);
        due("key 1", x.reference(0), 1);
        due("none by key 2", x.start(0, 2, NOT_LESS, 0, 1), 23);
        due("key 2", x.reference(0), 2);
        due("by key 0", x.start(0, 0, NOT_GREATER, 255, 1), 0);
        due("key 0", x.reference(0), 0);
    }

    @Case(promise = 10, says = "The place is at the first entry (and no longer at the end)")
    private static void aStartFromTheEnd() {
        KeyedFiles x = filled();
        due("the end", x.next(0, BACK), 10);
        due("start", x.start(0, 0, EQUAL, 10, 1), 0);
        dueNext(x, 0, BACK, 0, 10);
        due("the end", x.next(0, BACK), 10);
        due("read", x.read(0, 0, 40), 0);
        due("the end", x.next(0, ON), 10);
        due("start", x.start(0, 0, GREATER, 30, 1), 0);
        dueNext(x, 0, ON, 0, 40);
    }

    // ---- promise 11

    @Case(promise = 11, says = "in modes 0, 2, not by random access: 47")
    private static void whereANextIsRefused() {
        int[][] statuses = {{0, 47, 0}, {47, 47, 47}, {0, 47, 0}, {47, 47, 47}};
        for (int mode = 0; mode < 4; mode++) {
            for (int access = 0; access < 3; access++) {
                KeyedFiles x = filled(mode, access);
                int status = statuses[mode][access];
                due("next in " + mode + ", " + access, x.next(1, ON), status);
                due("value", x.value(1), status == 0 ? bytes(10, 7) : 0);
                due("back in " + mode + ", " + access, x.next(1, BACK), status == 0 ? 10 : 47);
            }
        }
    }

    @Case(promise = 11, says = "10 there is none: it is at the end (of an empty file)")
    private static void theEndOfAnEmptyFile() {
        KeyedFiles x = empty();
        due("on", x.next(0, ON), 10);
        dueLost(x, 0);
        reopen(x, 0, INPUT, SEQUENTIAL);
        due("back", x.next(0, BACK), 10);
        dueLost(x, 0);
    }

    @Case(promise = 11, says = "10 there is none: it is at the end (behind the last entry)")
    private static void theEndBehindTheLast() {
        KeyedFiles x = filled();
        due("read the last", x.read(0, 0, 40), 0);
        due("the end", x.next(0, ON), 10);
        due("value", x.value(0), 0);
        due("reference", x.reference(0), 0);
        due("no next one", x.next(0, ON), 46);
    }

    @Case(promise = 11, says = "46 was at the end in any direction already")
    private static void theEndInAnyDirection() {
        boolean[] directions = {ON, BACK};
        for (boolean first : directions) {
            for (boolean second : directions) {
                KeyedFiles x = filled();
                due("read", x.read(0, 0, first == BACK ? 10 : 40), 0);
                due("the end", x.next(0, first), 10);
                due("already", x.next(0, second), 46);
                due("and again", x.next(0, first), 46);
            }
        }
    }

    @Case(promise = 11, says = "46 was at the end already (whatever has come since)")
    private static void theEndStays() {
        KeyedFiles x = filled();
        due("read", x.read(0, 0, 40), 0);
        due("the end", x.next(0, ON), 10);
        due("write behind it", x.write(0, bytes(50)), 0);
        due("rewrite", x.rewrite(0, bytes(50, 1)), 0);
        due("remove", x.remove(0, 30), 0);
        due("on", x.next(0, ON), 46);
        due("back", x.next(0, BACK), 46);
        due("refused", x.start(0, 0, 5, 50, 1), NONE);
        due("on", x.next(0, ON), 46);
        due("start", x.start(0, 0, EQUAL, 50, 1), 0);
        dueNext(x, 0, ON, 0, 50);
    }

    @Case(promise = 11, says = "46 it is lost")
    private static void aLostViewHasNoNext() {
        KeyedFiles x = filled();
        due("read of none", x.read(0, 0, 41), 23);
        dueLost(x, 0);
        due("start of none", x.start(0, 0, LESS, 10, 1), 23);
        dueLost(x, 0);
        due("write", x.write(0, bytes(41)), 0);
        dueLost(x, 0);
        due("value", x.value(0), 0);
    }

    @Case(promise = 11, says = "Ahead of all: back is the end")
    private static void backFromAheadOfAll() {
        KeyedFiles x = filled(INPUT, SEQUENTIAL);
        due("back", x.next(1, BACK), 10);
        due("value", x.value(1), 0);
        dueLost(x, 1);
        reopen(x, 1, INPUT, SEQUENTIAL);
        dueNext(x, 1, ON, 0, 10);
    }

    @Case(promise = 11, says = "a PLACE (ahead of all at first): what comes ahead of the first one is seen")
    private static void aheadOfAllStaysAheadOfAll() {
        KeyedFiles x = filled(INPUT, SEQUENTIAL);
        due("write the least", x.write(0, bytes(0)), 0);
        dueNext(x, 1, ON, 0, 0);
        dueNext(x, 1, ON, 0, 10);
    }

    @Case(promise = 11, says = "At an entry: that one, if it is there still")
    private static void atAnEntryInBothDirections() {
        KeyedFiles x = filled();
        due("start", x.start(0, 0, EQUAL, 20, 1), 0);
        dueNext(x, 0, ON, 0, 20);
        due("start", x.start(0, 0, EQUAL, 20, 1), 0);
        dueNext(x, 0, BACK, 0, 20);
        due("start at the first", x.start(0, 0, EQUAL, 10, 1), 0);
        dueNext(x, 0, BACK, 0, 10);
        due("start at the last", x.start(0, 0, EQUAL, 40, 1), 0);
        dueNext(x, 0, ON, 0, 40);
    }

    @Case(promise = 11, says = "At an entry: that one, if it is there still (though others came round it)")
    private static void atAnEntryAmongNewOnes() {
        KeyedFiles x = filled();
        due("start", x.start(0, 1, EQUAL, 5, 1), 0);
        due("ahead", x.write(0, bytes(50, 4)), 0);
        due("behind", x.write(0, bytes(60, 6)), 0);
        due("an equal one", x.write(0, bytes(5, 5)), 2);
        due("its record by another field", x.rewrite(0, bytes(30, 5, 9)), 0);
        dueNext(x, 0, ON, 2, 30);
        due("what it is now", x.value(0), bytes(30, 5, 9));
        dueNext(x, 0, ON, 0, 5);
        dueNext(x, 0, ON, 0, 60);
    }

    @Case(promise = 11, says = "else the one behind (ahead of) where it was")
    private static void atAnEntryThatIsGone() {
        KeyedFiles x = filled();
        due("start", x.start(0, 0, EQUAL, 20, 1), 0);
        due("remove", x.remove(0, 20), 0);
        dueNext(x, 0, ON, 0, 30);
        due("start", x.start(0, 0, EQUAL, 30, 1), 0);
        due("remove", x.remove(0, 30), 0);
        dueNext(x, 0, BACK, 0, 10);
        dueOrder(x, 0, 10, 40);
    }

    @Case(promise = 11, says = "else the one behind (ahead of) where it was (there is none)")
    private static void atTheFirstOrTheLastThatIsGone() {
        KeyedFiles x = filled();
        due("start", x.start(0, 0, EQUAL, 10, 1), 0);
        due("remove", x.remove(0, 10), 0);
        due("none ahead of the first", x.next(0, BACK), 10);
        due("start", x.start(0, 0, EQUAL, 40, 1), 0);
        due("remove", x.remove(0, 40), 0);
        due("none behind the last", x.next(0, ON), 10);
        due("start", x.start(0, 0, EQUAL, 20, 1), 0);
        due("remove", x.remove(0, 20), 0);
        due("remove", x.remove(0, 30), 0);
        due("nothing is left", x.next(0, ON), 10);
        due("the end", x.next(0, BACK), 46);
    }

    /** As filled(), with entries under key 2: 1 (10), 2 (20), 3 (40). */
    private static KeyedFiles filledUnderKey2() {
        KeyedFiles x = filled();
        due("an entry", x.rewrite(0, bytes(10, 7, 1)), 0);
        due("an entry", x.rewrite(0, bytes(20, 7, 2)), 0);
        due("an entry", x.rewrite(0, bytes(40, 7, 3)), 0);
        return x;
    }

    @Case(promise = 11, says = "else the one behind (ahead of) where it was (its field is the told value now)")
    private static void atAnEntryThatIsLeftOutNow() {
        KeyedFiles x = filledUnderKey2();
        due("start", x.start(0, 2, EQUAL, 2, 1), 0);
        due("left out", x.rewrite(0, bytes(20, 7, 0)), 0);
        dueNext(x, 0, ON, 0, 40);
        KeyedFiles y = filledUnderKey2();
        due("start", y.start(0, 2, EQUAL, 2, 1), 0);
        due("left out", y.rewrite(0, bytes(20, 7, 0)), 0);
        dueNext(y, 0, BACK, 0, 10);
    }

    @Case(promise = 11, says = "else the one behind (ahead of) where it was (among equal ones)")
    private static void atAnEqualEntryThatIsGone() {
        KeyedFiles x = filled();
        due("start at the first 7", x.start(0, 1, EQUAL, 7, 1), 0);
        due("remove", x.remove(0, 10), 0);
        dueNext(x, 0, ON, 2, 20);
        due("start at the last 7", x.start(0, 1, NOT_GREATER, 7, 1), 0);
        due("remove", x.remove(0, 40), 0);
        dueNext(x, 0, BACK, 0, 20);
    }

    @Case(promise = 11, says = "The place is behind it then")
    private static void behindWhatWasRead() {
        KeyedFiles x = filled();
        dueNext(x, 0, ON, 0, 10);
        dueNext(x, 0, ON, 0, 20);
        dueNext(x, 0, BACK, 0, 10);
        dueNext(x, 0, ON, 0, 20);
        dueNext(x, 0, ON, 0, 30);
        due("start", x.start(0, 0, EQUAL, 30, 1), 0);
        dueNext(x, 0, BACK, 0, 30);
        dueNext(x, 0, ON, 0, 40);
    }

    @Case(promise = 11, says = "The next entry (what it stood behind is gone)")
    private static void behindAnEntryThatIsGone() {
        KeyedFiles x = filled();
        due("read", x.read(0, 0, 20), 0);
        due("remove", x.remove(0, 20), 0);
        dueNext(x, 0, ON, 0, 30);
        due("remove", x.remove(0, 30), 0);
        dueNext(x, 0, BACK, 0, 10);
        due("remove", x.remove(0, 10), 0);
        due("none ahead", x.next(0, BACK), 10);
        KeyedFiles y = filledUnderKey2();
        due("read", y.read(0, 2, 2), 0);
        due("left out", y.rewrite(0, bytes(20, 7, 0)), 0);
        dueNext(y, 0, ON, 0, 40);
        due("remove the last", y.remove(0, 40), 0);
        due("none behind", y.next(0, ON), 10);
    }

    @Case(promise = 11, says = "The next entry (one came right behind the place)")
    private static void behindAnEntryAmongNewOnes() {
        KeyedFiles x = filled();
        due("read", x.read(0, 0, 20), 0);
        due("write one behind it", x.write(0, bytes(21)), 0);
        due("write one ahead of it", x.write(0, bytes(19)), 2);
        dueNext(x, 0, ON, 0, 21);
        due("read", x.read(0, 0, 20), 0);
        dueNext(x, 0, BACK, 0, 19);
        due("read the last", x.read(0, 0, 40), 0);
        due("write one behind it", x.write(0, bytes(255)), 2);
        dueNext(x, 0, ON, 0, 255);
    }

    @Case(promise = 11, says = "The next entry (of equal ones that came right after one another)")
    private static void equalOnesThatCameRightAfterOneAnother() {
        KeyedFiles x = filled();
        due("one comes", x.rewrite(0, bytes(40, 9)), 0);
        due("another one comes", x.rewrite(0, bytes(10, 9)), 2);
        due("read the first", x.read(0, 1, 9), 2);
        due("value", x.value(0), bytes(40, 9));
        dueNext(x, 0, ON, 0, 10);
        dueNext(x, 0, BACK, 0, 40);
        due("start at the first", x.start(0, 1, EQUAL, 9, 1), 0);
        dueNext(x, 0, BACK, 0, 40);
        dueNext(x, 0, BACK, 0, 20);
    }

    @Case(promise = 11, says = "Back from behind an entry: the one ahead of that")
    private static void backFromBehind() {
        KeyedFiles x = filled();
        due("read the last", x.read(0, 0, 40), 0);
        dueNext(x, 0, BACK, 0, 30);
        dueNext(x, 0, BACK, 0, 20);
        dueNext(x, 0, BACK, 0, 10);
        due("none is ahead of the first", x.next(0, BACK), 10);
        due("and none follows", x.next(0, ON), 46);
    }

    @Case(promise = 11, says = "2: the entry next to it in the direction read has the same field")
    private static void doublesInBothDirections() {
        KeyedFiles x = filled();
        due("start", x.start(0, 1, NOT_LESS, 0, 1), 0);
        dueNext(x, 0, ON, 0, 30);
        dueNext(x, 0, ON, 2, 10);
        dueNext(x, 0, ON, 2, 20);
        dueNext(x, 0, ON, 0, 40);
        dueNext(x, 0, BACK, 2, 20);
        dueNext(x, 0, BACK, 0, 10);
        dueNext(x, 0, BACK, 0, 30);
        due("the end", x.next(0, BACK), 10);
        due("start", x.start(0, 1, NOT_GREATER, 255, 1), 0);
        dueNext(x, 0, BACK, 2, 40);
    }

    @Case(promise = 11, says = "The next entry of the key of reference (a sparse key leaves records out)")
    private static void goingByASparseKey() {
        KeyedFiles x = filled();
        due("write", x.write(0, bytes(15, 1, 2)), 0);
        due("write", x.write(0, bytes(35, 1, 1)), 2);
        due("start", x.start(0, 2, NOT_LESS, 0, 1), 0);
        dueNext(x, 0, ON, 0, 35);
        dueNext(x, 0, ON, 0, 15);
        due("the end", x.next(0, ON), 10);
    }

    @Case(promise = 11, says = "each view has a PLACE (of its own)")
    private static void viewsGoEachByThemselves() {
        KeyedFiles x = filled(INPUT, SEQUENTIAL);
        dueNext(x, 0, ON, 0, 10);
        dueNext(x, 0, ON, 0, 20);
        dueNext(x, 1, ON, 0, 10);
        dueNext(x, 0, ON, 0, 30);
        due("the end of one", x.next(1, BACK), 10);
        due("is not the other's", x.next(0, ON), 0);
        due("nor is its value", x.value(1), 0);
        due("value", x.value(0), bytes(40, 7));
    }

    // ---- promise 12

    @Case(promise = 12, says = "in mode 2: 49")
    private static void whereARewriteIsRefused() {
        int[][] statuses = {{49, 49, 49}, {49, 49, 49}, {43, 0, 0}, {49, 49, 49}};
        for (int mode = 0; mode < 4; mode++) {
            for (int access = 0; access < 3; access++) {
                KeyedFiles x = filled(mode, access);
                due("rewrite in " + mode + ", " + access, x.rewrite(1, bytes(10, 9)), statuses[mode][access]);
                if (mode != OUTPUT) {
                    dueOrder(x, 1, statuses[mode][access] == 0 ? new int[] {30, 20, 40, 10} : new int[] {30, 10, 20, 40});
                }
            }
        }
    }

    @Case(promise = 12, says = "43 for none (none was read yet, or a call made it none)")
    private static void sequentialRewritesOfNone() {
        KeyedFiles x = filled(BOTH, SEQUENTIAL);
        due("none yet", x.rewrite(1, bytes(10, 9)), 43);
        dueNext(x, 1, ON, 0, 10);
        due("the one read", x.rewrite(1, bytes(10, 7)), 0);
        due("none any more", x.rewrite(1, bytes(10, 9)), 43);
        dueNext(x, 1, ON, 0, 20);
        due("start", x.start(1, 0, EQUAL, 20, 1), 0);
        due("none by a start", x.rewrite(1, bytes(20, 9)), 43);
        dueNext(x, 1, ON, 0, 20);
        dueNext(x, 1, BACK, 0, 10);
        due("the end", x.next(1, BACK), 10);
        due("none by the end", x.rewrite(1, bytes(20, 9)), 43);
        dueUnchanged(x);
    }

    @Case(promise = 12, says = "43: of the one read last, if it is there still")
    private static void sequentialRewritesOfOneThatIsGone() {
        KeyedFiles x = filled(BOTH, SEQUENTIAL);
        dueNext(x, 1, ON, 0, 10);
        due("removed by another view", x.remove(0, 10), 0);
        due("gone", x.rewrite(1, bytes(10, 7)), 43);
        dueNext(x, 1, ON, 0, 20);
        due("removed by another view", x.remove(0, 20), 0);
        due("43 goes ahead of 21", x.rewrite(1, bytes(21, 7)), 43);
        dueOrder(x, 0, 30, 40);
    }

    @Case(promise = 12, says = "21 for another prime field")
    private static void sequentialRewritesOfAnotherPrime() {
        KeyedFiles x = filled(BOTH, SEQUENTIAL);
        int[] others = {20, 11, 9, 0, 255};
        for (int other : others) {
            due("start", x.start(1, 0, EQUAL, 10, 1), 0);
            dueNext(x, 1, ON, 0, 10);
            due("prime " + other, x.rewrite(1, bytes(other, 7)), 21);
        }
        due("none read last any more", x.rewrite(1, bytes(10, 7)), 43);
        dueUnchanged(x);
    }

    @Case(promise = 12, says = "21 .. 22 (in this order)")
    private static void whichRefusalOfARewriteGoesFirst() {
        KeyedFiles x = filled(BOTH, SEQUENTIAL);
        due("write", x.write(0, bytes(50, 1, 1)), 0);
        dueNext(x, 1, ON, 0, 10);
        due("another prime and a double", x.rewrite(1, bytes(11, 7, 1)), 21);
        dueNext(x, 1, ON, 0, 20);
        due("a double", x.rewrite(1, bytes(20, 7, 1)), 22);
        due("23 ahead of 22", x.rewrite(0, bytes(51, 1, 1)), 23);
    }

    @Case(promise = 12, says = "else of the one with its prime field: 23")
    private static void rewritesOfNoRecord() {
        int[] accesses = {RANDOM, DYNAMIC};
        for (int access : accesses) {
            KeyedFiles x = filled(BOTH, access);
            int[] none = {0, 9, 11, 39, 41, 255};
            for (int prime : none) {
                due("prime " + prime, x.rewrite(1, bytes(prime, 7)), 23);
            }
            dueUnchanged(x);
            due("the first", x.rewrite(1, bytes(10, 7)), 0);
            due("the last", x.rewrite(1, bytes(40, 7)), 0);
            due("not the one read last", x.read(1, 0, 20), 0);
            due("but the one with the prime field", x.rewrite(1, bytes(30, 6)), 0);
            dueOrder(x, 1, 30, 10, 20, 40);
        }
        KeyedFiles y = empty();
        due("of an empty file", y.rewrite(0, bytes(10)), 23);
    }

    @Case(promise = 12, says = "22 (a double of another record)")
    private static void rewritesThatAreBarred() {
        KeyedFiles x = filled();
        due("write", x.write(0, bytes(50, 1, 1)), 0);
        due("barred", x.rewrite(0, bytes(10, 6, 1)), 22);
        dueOrder(x, 1, 50, 30, 10, 20, 40);
        dueOrder(x, 2, 50);
        due("what it was", x.scan(0, 0), bytes(10, 7));
        due("its own field is no double", x.rewrite(0, bytes(50, 2, 1)), 0);
        due("one above", x.rewrite(0, bytes(10, 7, 2)), 0);
        due("barred now", x.rewrite(0, bytes(50, 2, 2)), 22);
        due("the told value is never barred", x.rewrite(0, bytes(50, 2, 0)), 0);
        dueOrder(x, 2, 10);
    }

    @Case(promise = 12, says = "0, 2 (an entry came behind an equal one)")
    private static void rewritesWithAndWithoutDoubles() {
        KeyedFiles x = filled();
        due("an entry that stays among equal ones", x.rewrite(0, bytes(20, 7, 0, 1)), 0);
        due("an entry that comes alone", x.rewrite(0, bytes(20, 6)), 0);
        due("an entry that comes behind one", x.rewrite(0, bytes(20, 5)), 2);
        due("an entry that comes behind two", x.rewrite(0, bytes(20, 7)), 2);
        due("an entry under a key without doubles", x.rewrite(0, bytes(20, 7, 1)), 0);
        due("an entry that comes ahead of all", x.rewrite(0, bytes(20, 0, 1)), 0);
        due("an entry that comes behind all", x.rewrite(0, bytes(20, 255, 1)), 0);
        dueOrder(x, 1, 30, 10, 40, 20);
    }

    @Case(promise = 12, says = "Alternate entries whose field changed come behind equal ones; others stay")
    private static void entriesThatStayAndEntriesThatMove() {
        KeyedFiles x = filled();
        due("nothing changed", x.rewrite(0, bytes(10, 7)), 0);
        dueOrder(x, 1, 30, 10, 20, 40);
        due("away", x.rewrite(0, bytes(10, 8)), 0);
        dueOrder(x, 1, 30, 20, 40, 10);
        due("and back", x.rewrite(0, bytes(10, 7)), 2);
        dueOrder(x, 1, 30, 20, 40, 10);
        due("under another key alone", x.rewrite(0, bytes(20, 7, 3)), 0);
        dueOrder(x, 1, 30, 20, 40, 10);
        due("one ahead of the lone one", x.rewrite(0, bytes(40, 5)), 2);
        dueOrder(x, 1, 30, 40, 20, 10);
        dueOrder(x, 0, 10, 20, 30, 40);
    }

    @Case(promise = 12, says = "Alternate entries whose field changed (to and from the told value)")
    private static void entriesOfASparseKeyComeAndGo() {
        KeyedFiles x = filled();
        dueOrder(x, 2);
        due("an entry comes", x.rewrite(0, bytes(20, 7, 255)), 0);
        dueOrder(x, 2, 20);
        due("another one comes", x.rewrite(0, bytes(40, 7, 1)), 0);
        dueOrder(x, 2, 40, 20);
        due("an entry goes", x.rewrite(0, bytes(20, 7, 0)), 0);
        dueOrder(x, 2, 40);
        due("its field is free", x.rewrite(0, bytes(10, 7, 255)), 0);
        dueOrder(x, 2, 40, 10);
        dueOrder(x, 1, 30, 10, 20, 40);
    }

    @Case(promise = 12, says = "A record takes the place of another one (there are as many as before)")
    private static void aRewriteOfAFullFile() {
        KeyedFiles x = full();
        due("the first", x.rewrite(0, bytes(0, 0, 255)), 0);
        due("the last", x.rewrite(0, bytes(1, 43, 255)), 0);
        due("count", x.count(0), 300);
        due("the first", x.scan(0, 0), bytes(0, 0, 255));
        due("the last", x.scan(0, 299), bytes(1, 43, 255));
        due("whole", x.whole(), true);
    }

    // ---- promise 13

    @Case(promise = 13, says = "in mode 2: 49")
    private static void whereARemoveIsRefused() {
        int[][] statuses = {{49, 49, 49}, {49, 49, 49}, {43, 0, 0}, {49, 49, 49}};
        for (int mode = 0; mode < 4; mode++) {
            for (int access = 0; access < 3; access++) {
                KeyedFiles x = filled(mode, access);
                due("remove in " + mode + ", " + access, x.remove(1, 10), statuses[mode][access]);
                int left = mode == OUTPUT ? 0 : statuses[mode][access] == 0 ? 3 : 4;
                due("records", x.count(0), left);
            }
        }
    }

    @Case(promise = 13, says = "by sequential access the one read last: 43")
    private static void sequentialRemovesOfNone() {
        KeyedFiles x = filled(BOTH, SEQUENTIAL);
        due("none yet, though k is there", x.remove(1, 10), 43);
        dueNext(x, 1, ON, 0, 10);
        due("start", x.start(1, 0, EQUAL, 20, 1), 0);
        due("none by a start", x.remove(1, 20), 43);
        dueUnchanged(x);
        dueNext(x, 1, ON, 0, 20);
        due("the one read, though k is another", x.remove(1, 40), 0);
        dueOrder(x, 0, 10, 30, 40);
        due("none any more", x.remove(1, 10), 43);
        dueNext(x, 1, ON, 0, 30);
        due("the one read, though no field is k", x.remove(1, -1), 0);
        dueOrder(x, 0, 10, 40);
    }

    @Case(promise = 13, says = "43: if it is there still")
    private static void sequentialRemovesOfOneThatIsGone() {
        KeyedFiles x = filled(BOTH, SEQUENTIAL);
        dueNext(x, 1, ON, 0, 10);
        due("removed by another view", x.remove(0, 10), 0);
        due("gone", x.remove(1, 10), 43);
        dueOrder(x, 0, 20, 30, 40);
        dueOrder(x, 1, 30, 20, 40);
    }

    @Case(promise = 13, says = "else the one with a prime field of k: 23")
    private static void removesOfNoRecord() {
        int[] accesses = {RANDOM, DYNAMIC};
        for (int access : accesses) {
            KeyedFiles x = filled(BOTH, access);
            long[] none = {0, 9, 11, 39, 41, 255, 256 + 10, (1L << 32) + 10, bytes(10, 7), Long.MAX_VALUE};
            for (long k : none) {
                due("remove of " + k, x.remove(1, k), 23);
            }
            dueUnchanged(x);
            due("the first", x.remove(1, 10), 0);
            due("gone", x.remove(1, 10), 23);
            due("the last", x.remove(1, 40), 0);
            due("gone", x.remove(1, 40), 23);
            dueOrder(x, 0, 20, 30);
            dueOrder(x, 1, 30, 20);
        }
        KeyedFiles y = empty();
        due("of an empty file", y.remove(0, 0), 23);
    }

    @Case(promise = 13, says = "a prime field of k (the least and the greatest that there can be)")
    private static void removesAtTheEndsOfAField() {
        KeyedFiles x = wide(BOTH, RANDOM);
        long[] records = {-1L, 0L, Long.MAX_VALUE, Long.MIN_VALUE};
        for (long record : records) {
            due("write", x.write(0, record), 0);
        }
        for (long record : records) {
            due("remove", x.remove(0, record), 0);
            due("gone", x.remove(0, record), 23);
        }
        due("count", x.count(0), 0);
    }

    @Case(promise = 13, says = "A record is removed (with all its entries, and to the last one)")
    private static void theLastRecordIsRemoved() {
        KeyedFiles x = empty();
        due("write", x.write(0, bytes(1, 2, 3)), 0);
        due("remove", x.remove(0, 1), 0);
        for (int key = 0; key < 3; key++) {
            dueOrder(x, key);
            due("scan", x.scan(key, 0), 0);
        }
        due("neither barred nor a double", x.write(0, bytes(1, 2, 3)), 0);
        for (int key = 0; key < 3; key++) {
            dueOrder(x, key, 1);
        }
    }

    @Case(promise = 13, says = "A record is removed (equal ones stay in their order)")
    private static void oneOfEqualOnesIsRemoved() {
        KeyedFiles x = filled();
        due("the one in the middle", x.remove(0, 20), 0);
        dueOrder(x, 1, 30, 10, 40);
        due("written again, it comes behind", x.write(0, bytes(20, 7)), 2);
        dueOrder(x, 1, 30, 10, 40, 20);
        due("the first", x.remove(0, 10), 0);
        dueOrder(x, 1, 30, 40, 20);
        due("the last", x.remove(0, 20), 0);
        dueOrder(x, 1, 30, 40);
    }

    // ---- promise 14

    @Case(promise = 14, says = "0 for none (i too small, too large)")
    private static void scansOutsideTheEntries() {
        KeyedFiles x = filled();
        int[] none = {-1, 4, 5, 300, LOWEST, HIGHEST};
        for (int key = 0; key < 2; key++) {
            for (int i : none) {
                due("scan(" + key + ", " + i + ")", x.scan(key, i), 0);
            }
        }
        due("the first", x.scan(0, 0), bytes(10, 7));
        due("the last", x.scan(0, 3), bytes(40, 7));
        due("the first by key 1", x.scan(1, 0), bytes(30, 5));
        due("the last by key 1", x.scan(1, 3), bytes(40, 7));
    }

    @Case(promise = 14, says = "0 for none (no key, an empty one)")
    private static void scansOfNoKey() {
        KeyedFiles x = filled();
        int[] none = {-1, 3, 6, LOWEST, HIGHEST};
        for (int key : none) {
            due("scan of key " + key, x.scan(key, 0), 0);
        }
        due("scan of an empty key", x.scan(2, 0), 0);
    }

    @Case(promise = 14, says = "The record of the i-th entry (of a full file)")
    private static void scansOfAFullFile() {
        KeyedFiles x = full();
        int[] places = {0, 1, 127, 128, 255, 256, 257, 298, 299};
        for (int i : places) {
            due("scan " + i, x.scan(0, i), bytes(i >> 8, i));
        }
        due("behind the last", x.scan(0, 300), 0);
    }

    @Case(promise = 14, says = "The record of the i-th entry (it needs no view, and changes none)")
    private static void scansLeaveTheViews() {
        KeyedFiles x = filled();
        due("read", x.read(0, 1, 7), 2);
        due("scan", x.scan(0, 3), bytes(40, 7));
        due("value", x.value(0), bytes(10, 7));
        due("reference", x.reference(0), 1);
        dueNext(x, 0, ON, 2, 20);
        due("close", x.close(0), 0);
        due("scan", x.scan(0, 3), bytes(40, 7));
    }

    // ---- promise 15

    @Case(promise = 15, says = "NONE when it is not open")
    private static void referencesOfViewsThatAreNotOpen() {
        KeyedFiles x = filled();
        due("never opened", x.reference(1), NONE);
        due("open", x.open(1, OUTPUT, SEQUENTIAL), 0);
        due("open", x.reference(1), 0);
        due("close", x.close(1), 0);
        due("closed", x.reference(1), NONE);
        int[] none = {-1, 2, 5, LOWEST, HIGHEST};
        for (int view : none) {
            due("reference of view " + view, x.reference(view), NONE);
        }
    }

    @Case(promise = 15, says = "A view's key of reference (the first key and the last)")
    private static void referencesToTheSixthKey() {
        KeyedFiles x = new KeyedFiles();
        for (int i = 0; i < 6; i++) {
            due("key", x.key(i == 0, false, i, 1), i);
        }
        due("view", x.view(), 0);
        due("open", x.open(0, BOTH, DYNAMIC), 0);
        due("at first", x.reference(0), 0);
        due("read", x.read(0, 5, 0), 23);
        due("the last key", x.reference(0), 5);
        due("write, rewrite, remove leave it", x.write(0, bytes(1)), 0);
        due("rewrite", x.rewrite(0, bytes(1, 1)), 0);
        due("remove", x.remove(0, 1), 0);
        due("next leaves it", x.next(0, ON), 46);
        due("the last key", x.reference(0), 5);
        due("start", x.start(0, 0, EQUAL, 0, 1), 23);
        due("the first key", x.reference(0), 0);
    }

    // ---- promise 16

    @Case(promise = 16, says = "NONE when there is none such")
    private static void countsOfNoKey() {
        KeyedFiles x = filled();
        int[] none = {-1, 3, 6, LOWEST, HIGHEST};
        for (int key : none) {
            due("count of key " + key, x.count(key), NONE);
        }
    }

    @Case(promise = 16, says = "How many entries a key has (none; all; of the prime one: records)")
    private static void countsFromNoneToFull() {
        KeyedFiles x = empty();
        for (int key = 0; key < 3; key++) {
            due("count of an empty key", x.count(key), 0);
        }
        due("an entry under two keys", x.write(0, bytes(1, 1, 0)), 0);
        due("an entry under three", x.write(0, bytes(2, 1, 1)), 2);
        due("a write that is barred", x.write(0, bytes(3, 1, 1)), 22);
        due("records", x.count(0), 2);
        due("entries", x.count(1), 2);
        due("entries of the sparse key", x.count(2), 1);
        due("a full file", full().count(0), 300);
    }

    // ---- promise 17

    @Case(promise = 17, says = "Whether each record has just its entries (there is no record, or no key)")
    private static void nothingIsWhole() {
        KeyedFiles x = new KeyedFiles();
        due("without a key", x.whole(), true);
        due("with one", x.key(true, false, 0, 1), 0);
        due("with one", x.whole(), true);
        due("empty", empty().whole(), true);
    }

    @Case(promise = 17, says = "and all stand in order (of a full file under six keys)")
    private static void aFullFileIsWhole() {
        KeyedFiles x = new KeyedFiles();
        due("prime", x.key(true, false, 0, 2), 0);
        due("falling", x.key(false, false, 2, 2), 1);
        due("few fields", x.key(false, true, 4, 1), 2);
        due("one field", x.key(false, true, 7, 1), 3);
        due("few fields, sparse", x.key(false, true, 4, 1), 4);
        due("all bytes", x.key(false, false, 0, 8), 5);
        due("sparse", x.sparse(4, 0), 1);
        due("view", x.view(), 0);
        due("open", x.open(0, OUTPUT, RANDOM), 0);
        for (int i = 0; i < 300; i++) {
            int falling = 300 - i;
            x.write(0, bytes(i >> 8, i, falling >> 8, falling, i % 3));
        }
        int[] counts = {300, 300, 300, 300, 200, 300};
        for (int key = 0; key < 6; key++) {
            due("count of key " + key, x.count(key), counts[key]);
        }
        due("whole", x.whole(), true);
        due("and again", x.whole(), true);
    }

    @Case(promise = 17, says = "Whether each record has just its entries (refused calls leave it so)")
    private static void refusedCallsLeaveItWhole() {
        KeyedFiles x = filled(BOTH, SEQUENTIAL);
        due("write", x.write(0, bytes(50, 1, 1)), 0);
        due("barred", x.write(0, bytes(60, 1, 1)), 22);
        due("whole", x.whole(), true);
        due("barred", x.rewrite(0, bytes(10, 9, 1)), 22);
        due("whole", x.whole(), true);
        due("not there", x.remove(0, 60), 23);
        due("refused", x.write(1, bytes(60)), 48);
        due("none read", x.remove(1, 10), 43);
        due("whole", x.whole(), true);
        dueOrder(x, 0, 10, 20, 30, 40, 50);
        dueOrder(x, 1, 50, 30, 10, 20, 40);
        dueOrder(x, 2, 50);
    }

    // ---- running them

    private static List<Method> allCases() {
        List<Method> cases = new ArrayList<>();
        for (Method method : KeyedFilesBoundaries.class.getDeclaredMethods()) {
            if (method.getAnnotation(Case.class) != null) {
                cases.add(method);
            }
        }
        Comparator<Method> byPromise = Comparator.comparingInt(method -> method.getAnnotation(Case.class).promise());
        cases.sort(byPromise.thenComparing(Method::getName));
        return cases;
    }

    private static void run(Method method) throws IllegalAccessException {
        running = method;
        try {
            method.invoke(null);
        } catch (InvocationTargetException thrown) {
            complain("threw " + thrown.getCause());
        }
    }

    public static void main(String[] args) throws IllegalAccessException {
        int[] tested = new int[PROMISES + 1];
        List<Method> cases = allCases();
        for (Method method : cases) {
            tested[method.getAnnotation(Case.class).promise()]++;
            run(method);
        }
        for (int promise = 1; promise <= PROMISES; promise++) {
            if (tested[promise] == 0) {
                wrong++;
                System.out.println("promise " + promise + " has no test");
            }
        }
        System.out.println(wrong == 0 ? cases.size() + " cases: all answers are as due" : wrong + " answers are not as due");
        if (wrong != 0) {
            System.exit(1);
        }
    }
}
