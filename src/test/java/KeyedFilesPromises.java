/** Each promise of the document: ordinary inputs, the edges that it names, wrong inputs. */
public final class KeyedFilesPromises {
    private static final int INPUT = 0;
    private static final int OUTPUT = 1;
    private static final int BOTH = 2;
    private static final int EXTEND = 3;
    private static final int SEQUENTIAL = 0;
    private static final int RANDOM = 1;
    private static final int DYNAMIC = 2;
    private static final int EQUAL = 0;
    private static final int GREATER = 1;
    private static final int NOT_LESS = 2;
    private static final int LESS = 3;
    private static final int NOT_GREATER = 4;

    private static int wrong = 0;
    private static int promise = 0;

    private static void due(String what, long got, long want) {
        if (got != want) {
            wrong++;
            System.out.println("promise " + promise + ": " + what + " answered " + got + ", due is " + want);
        }
    }

    private static void due(String what, boolean got, boolean want) {
        due(what, got ? 1L : 0L, want ? 1L : 0L);
    }

    /** A record of its first bytes; the others are 0. */
    private static long bytes(int... first) {
        long record = 0;
        for (int i = 0; i < 8; i++) {
            record = record << 8 | (i < first.length ? first[i] & 0xFF : 0);
        }
        return record;
    }

    /** Prime key: byte 0. Key 1: byte 1, with doubles. Key 2: byte 2, without, sparse at 0. */
    private static KeyedFiles threeKeys(int views) {
        KeyedFiles x = new KeyedFiles();
        due("key 0", x.key(true, false, 0, 1), 0);
        due("key 1", x.key(false, true, 1, 1), 1);
        due("key 2", x.key(false, false, 2, 1), 2);
        due("sparse key 2", x.sparse(2, 0), 1);
        for (int i = 0; i < views; i++) {
            due("view", x.view(), i);
        }
        return x;
    }

    /** Three keys, and views that are open in mode 2 by dynamic access. */
    private static KeyedFiles openFile(int views) {
        KeyedFiles x = threeKeys(views);
        for (int i = 0; i < views; i++) {
            due("open", x.open(i, BOTH, DYNAMIC), 0);
        }
        return x;
    }

    /** A file with primes 10, 20, 30, 40, of which 10, 20 and 40 have 7 under key 1, and 30 has 5. */
    private static KeyedFiles filled(int views) {
        KeyedFiles x = openFile(views);
        due("write 10", x.write(0, bytes(10, 7)), 0);
        due("write 20", x.write(0, bytes(20, 7)), 2);
        due("write 30", x.write(0, bytes(30, 5)), 0);
        due("write 40", x.write(0, bytes(40, 7)), 2);
        return x;
    }

    private static void reopen(KeyedFiles x, int view, int mode, int access) {
        due("close", x.close(view), 0);
        due("open again", x.open(view, mode, access), 0);
    }

    /** The next one is read, and has this prime byte. */
    private static void dueNext(KeyedFiles x, int view, boolean back, int status, int primeByte) {
        due("next", x.next(view, back), status);
        due("prime byte of the next", x.value(view) >>> 56, primeByte);
    }

    /** The first byte of each entry's record, in the order of a key. */
    private static void dueOrder(KeyedFiles x, int key, int... primeBytes) {
        due("count", x.count(key), primeBytes.length);
        for (int i = 0; i < primeBytes.length; i++) {
            due("scan(" + key + ", " + i + ")", x.scan(key, i) >>> 56, primeBytes[i]);
        }
        due("scan behind all", x.scan(key, primeBytes.length), 0);
        due("whole", x.whole(), true);
    }

    private static void newObject() {
        KeyedFiles x = new KeyedFiles();
        due("count of key 0", x.count(0), KeyedFiles.NONE);
        due("scan", x.scan(0, 0), 0);
        due("value", x.value(0), 0);
        due("reference", x.reference(0), KeyedFiles.NONE);
        due("open", x.open(0, BOTH, DYNAMIC), KeyedFiles.NONE);
        due("close", x.close(0), KeyedFiles.NONE);
        due("write", x.write(0, 1), KeyedFiles.NONE);
        due("read", x.read(0, 0, 1), KeyedFiles.NONE);
        due("start", x.start(0, 0, 0, 1, 1), KeyedFiles.NONE);
        due("next", x.next(0, false), KeyedFiles.NONE);
        due("rewrite", x.rewrite(0, 1), KeyedFiles.NONE);
        due("remove", x.remove(0, 1), KeyedFiles.NONE);
        due("sparse", x.sparse(1, 1), KeyedFiles.NONE);
        due("whole", x.whole(), true);
        due("first key", x.key(true, false, 0, 1), 0);
        due("no records", x.count(0), 0);
        due("no views", x.view(), 0);
        due("another object's keys", new KeyedFiles().count(0), KeyedFiles.NONE);
    }

    private static void keyMaking() {
        KeyedFiles x = new KeyedFiles();
        due("an alternate key first", x.key(false, false, 0, 1), KeyedFiles.NONE);
        due("a prime one with doubles", x.key(true, true, 0, 1), KeyedFiles.NONE);
        int[][] noFields = {
            {0, 0}, {0, -1}, {0, 9}, {-1, 1}, {-1, 2}, {8, 1}, {7, 2}, {1, 8}, {8, 0},
            {Integer.MAX_VALUE, 1}, {Integer.MAX_VALUE, Integer.MAX_VALUE}, {Integer.MIN_VALUE, 8},
            {0, Integer.MIN_VALUE}, {Integer.MIN_VALUE, Integer.MIN_VALUE}, {5, Integer.MIN_VALUE}
        };
        for (int[] field : noFields) {
            due("no field " + field[0] + ", " + field[1], x.key(true, false, field[0], field[1]), KeyedFiles.NONE);
        }
        due("the prime one", x.key(true, false, 0, 8), 0);
        due("a second prime one", x.key(true, false, 0, 1), KeyedFiles.NONE);
        due("the last byte", x.key(false, true, 7, 1), 1);
        due("same field again", x.key(false, false, 7, 1), 2);
        due("a view", x.view(), 0);
        due("a key behind a view", x.key(false, false, 1, 7), 3);
        due("an open that fails", x.open(0, 9, 0), KeyedFiles.NONE);
        due("a key behind it", x.key(false, true, 0, 8), 4);
        due("the sixth", x.key(false, true, 3, 2), 5);
        due("a seventh", x.key(false, true, 3, 2), KeyedFiles.NONE);
        KeyedFiles y = openFile(1);
        due("a key when a view is open", y.key(false, true, 0, 1), KeyedFiles.NONE);
        due("close", y.close(0), 0);
        due("a key when a view was open", y.key(false, true, 0, 1), KeyedFiles.NONE);
    }

    private static void fields() {
        KeyedFiles x = new KeyedFiles();
        due("prime", x.key(true, false, 3, 2), 0);
        due("all bytes", x.key(false, false, 0, 8), 1);
        due("last bytes", x.key(false, true, 5, 3), 2);
        due("view", x.view(), 0);
        due("open", x.open(0, BOTH, DYNAMIC), 0);
        long record = 0xF1F2F3F4F5F6F7F8L;
        due("write", x.write(0, record), 0);
        due("read by the middle", x.read(0, 0, 0xF4F5L), 0);
        due("value", x.value(0), record);
        due("the middle with more above", x.read(0, 0, 0x1F4F5L), 23);
        due("the middle with a sign", x.read(0, 0, (short) 0xF4F5), 23);
        due("read by all", x.read(0, 1, record), 0);
        due("read by the end", x.read(0, 2, 0xF6F7F8L), 0);
        due("a low one", x.write(0, 0x0102030405060708L), 0);
        due("without sign the high one is the greater", x.scan(1, 1), record);
    }

    private static void sparseKeys() {
        KeyedFiles x = threeKeys(1);
        due("the prime key", x.sparse(0, 1), KeyedFiles.NONE);
        due("no key", x.sparse(3, 1), KeyedFiles.NONE);
        due("no key", x.sparse(-1, 1), KeyedFiles.NONE);
        due("behind view()", x.sparse(1, 9), 1);
        due("open", x.open(0, BOTH, DYNAMIC), 0);
        due("when open", x.sparse(1, 2), KeyedFiles.NONE);
        due("left out of key 1 and key 2", x.write(0, bytes(1, 9)), 0);
        due("left out again: no double", x.write(0, bytes(2, 9)), 0);
        due("in both", x.write(0, bytes(3, 8, 1)), 0);
        due("barred", x.write(0, bytes(4, 8, 1)), 22);
        dueOrder(x, 0, 1, 2, 3);
        dueOrder(x, 1, 3);
        dueOrder(x, 2, 3);
        due("a left out field is not found", x.read(0, 1, 9), 23);
        due("nor started at", x.start(0, 2, EQUAL, 0, 1), 23);
        due("close", x.close(0), 0);
        due("when a view was open", x.sparse(1, 2), KeyedFiles.NONE);

        KeyedFiles y = threeKeys(1);
        due("out of the field's range", y.sparse(1, 256 + 7), 1);
        due("open", y.open(0, BOTH, DYNAMIC), 0);
        due("write", y.write(0, bytes(1, 7, 0)), 0);
        due("write", y.write(0, bytes(2, 7, 0)), 2);
        due("write", y.write(0, bytes(3, 7, 5)), 2);
        dueOrder(y, 1, 1, 2, 3);
        dueOrder(y, 2, 3);
    }

    private static void viewMaking() {
        due("without a key", new KeyedFiles().view(), KeyedFiles.NONE);
        KeyedFiles x = threeKeys(5);
        due("a sixth", x.view(), KeyedFiles.NONE);
        due("closed at first", x.close(4), 42);
        due("open", x.open(4, INPUT, DYNAMIC), 0);
        due("no such one", x.open(5, INPUT, DYNAMIC), KeyedFiles.NONE);
        KeyedFiles y = openFile(1);
        due("when another is open", y.view(), 1);
    }

    private static void opening() {
        KeyedFiles x = threeKeys(2);
        due("no view", x.open(-1, INPUT, DYNAMIC), KeyedFiles.NONE);
        due("no view", x.open(2, INPUT, DYNAMIC), KeyedFiles.NONE);
        due("no mode", x.open(0, -1, DYNAMIC), KeyedFiles.NONE);
        due("no mode", x.open(0, 4, DYNAMIC), KeyedFiles.NONE);
        due("no access", x.open(0, INPUT, -1), KeyedFiles.NONE);
        due("no access", x.open(0, INPUT, 3), KeyedFiles.NONE);
        due("still closed", x.close(0), 42);
        due("open", x.open(0, BOTH, DYNAMIC), 0);
        due("no mode goes ahead of 41", x.open(0, 4, DYNAMIC), KeyedFiles.NONE);
        due("open already", x.open(0, OUTPUT, SEQUENTIAL), 41);
        due("write", x.write(0, bytes(1, 1)), 0);
        due("write", x.write(0, bytes(2, 1)), 2);
        due("41 lets the records be", x.open(0, OUTPUT, SEQUENTIAL), 41);
        due("records", x.count(0), 2);
        due("read", x.read(0, 1, 1), 2);
        due("41 again", x.open(0, INPUT, SEQUENTIAL), 41);
        due("41 keeps the key of reference", x.reference(0), 1);
        dueNext(x, 0, false, 0, 2);
        reopen(x, 0, INPUT, DYNAMIC);
        due("records stay by mode 0", x.count(0), 2);
        due("key of reference", x.reference(0), 0);
        due("nothing read", x.value(0), 0);
        dueNext(x, 0, false, 0, 1);
        reopen(x, 0, EXTEND, RANDOM);
        due("records stay by mode 3", x.count(0), 2);
        reopen(x, 0, INPUT, SEQUENTIAL);
        due("end", x.next(0, true), 10);
        reopen(x, 0, INPUT, SEQUENTIAL);
        dueNext(x, 0, false, 0, 1);
    }

    private static void openingForOutput() {
        KeyedFiles x = filled(3);
        due("read", x.read(0, 1, 7), 2);
        due("close", x.close(2), 0);
        due("output", x.open(2, OUTPUT, DYNAMIC), 0);
        dueOrder(x, 0);
        dueOrder(x, 1);
        due("nothing read", x.value(0), 0);
        due("the other is open still", x.reference(0), 1);
        due("the other is lost", x.next(0, false), 46);
        due("write", x.write(2, bytes(7, 9)), 0);
        due("one ahead of all is lost, too", x.next(1, false), 46);
        due("a start finds it again", x.start(0, 0, NOT_LESS, 0, 1), 0);
        dueNext(x, 0, false, 0, 7);
        reopen(x, 2, OUTPUT, SEQUENTIAL);
        due("a record that went can't be removed", x.remove(0, 7), 23);
        reopen(x, 1, BOTH, SEQUENTIAL);
        due("write", x.write(2, bytes(8)), 0);
        dueNext(x, 1, false, 0, 8);
        reopen(x, 2, OUTPUT, SEQUENTIAL);
        due("none read last", x.rewrite(1, bytes(8)), 43);
    }

    private static void closing() {
        KeyedFiles x = threeKeys(1);
        due("no view", x.close(-1), KeyedFiles.NONE);
        due("no view", x.close(1), KeyedFiles.NONE);
        due("closed", x.close(0), 42);
        due("open", x.open(0, BOTH, DYNAMIC), 0);
        due("write", x.write(0, bytes(1)), 0);
        due("read", x.read(0, 0, 1), 0);
        due("close", x.close(0), 0);
        due("nothing read", x.value(0), 0);
        due("no key of reference", x.reference(0), KeyedFiles.NONE);
        due("write", x.write(0, bytes(2)), 42);
        due("read", x.read(0, 0, 1), 42);
        due("start", x.start(0, 0, 0, 1, 1), 42);
        due("next", x.next(0, false), 42);
        due("rewrite", x.rewrite(0, bytes(1)), 42);
        due("remove", x.remove(0, 1), 42);
        due("close", x.close(0), 42);
        due("NONE ahead of 42", x.read(0, 3, 1), KeyedFiles.NONE);
        due("NONE ahead of 42", x.start(0, 0, 5, 1, 1), KeyedFiles.NONE);
        due("the record stays", x.count(0), 1);
    }

    private static void writing() {
        KeyedFiles x = threeKeys(1);
        int[][] statuses = {{48, 48, 48}, {0, 0, 0}, {48, 0, 0}, {0, 0, 0}};
        for (int mode = 0; mode < 4; mode++) {
            for (int access = 0; access < 3; access++) {
                due("open", x.open(0, mode, access), 0);
                int primeByte = 1 + mode * 3 + access;
                due("write in " + mode + ", " + access, x.write(0, bytes(primeByte, primeByte)), statuses[mode][access]);
                due("close", x.close(0), 0);
            }
        }
        KeyedFiles y = filled(1);
        due("prime there", y.write(0, bytes(10, 1)), 22);
        due("alternate", y.write(0, bytes(50, 1, 1)), 0);
        due("alternate there", y.write(0, bytes(60, 7, 1)), 22);
        due("behind equals", y.write(0, bytes(5, 7, 2)), 2);
        due("lowest, no double", y.write(0, bytes(4, 0, 3)), 0);
        due("without sign", y.write(0, bytes(200, 255)), 0);
        due("in any order", y.write(0, bytes(45, 6)), 0);
        dueOrder(y, 0, 4, 5, 10, 20, 30, 40, 45, 50, 200);
        dueOrder(y, 1, 4, 50, 30, 45, 10, 20, 40, 5, 200);
        dueOrder(y, 2, 50, 5, 4);
        due("no view", y.write(1, bytes(9)), KeyedFiles.NONE);
        due("read", y.read(0, 0, 10), 0);
        due("a write that fails", y.write(0, bytes(10)), 22);
        due("makes the record read none", y.value(0), 0);
    }

    private static void writingInOrder() {
        KeyedFiles x = threeKeys(2);
        due("output", x.open(0, OUTPUT, SEQUENTIAL), 0);
        due("first", x.write(0, bytes(10)), 0);
        due("equal", x.write(0, bytes(10)), 21);
        due("less", x.write(0, bytes(9)), 21);
        due("greater", x.write(0, bytes(20, 1, 1)), 0);
        due("22 behind 21", x.write(0, bytes(15, 1, 1)), 21);
        due("22", x.write(0, bytes(30, 1, 1)), 22);
        due("what was barred is not the last", x.write(0, bytes(25)), 2);
        due("without sign", x.write(0, bytes(128)), 2);
        due("another view", x.open(1, BOTH, DYNAMIC), 0);
        due("writes more", x.write(1, bytes(200)), 2);
        due("by output only its own count", x.write(0, bytes(150)), 2);
        due("but no double", x.write(0, bytes(200)), 22);
        due("remove", x.remove(1, 150), 0);
        due("a record that is gone counts still", x.write(0, bytes(140)), 21);
        reopen(x, 1, OUTPUT, DYNAMIC);
        due("even by output of another view", x.write(0, bytes(140)), 21);
        due("greater", x.write(0, bytes(160)), 0);
        reopen(x, 0, OUTPUT, SEQUENTIAL);
        due("open begins anew", x.write(0, bytes(3)), 0);
        reopen(x, 0, OUTPUT, RANDOM);
        due("random", x.write(0, bytes(9)), 0);
        due("in any order", x.write(0, bytes(8)), 2);
    }

    private static void extending() {
        KeyedFiles x = filled(2);
        reopen(x, 1, EXTEND, SEQUENTIAL);
        due("less than the greatest", x.write(1, bytes(35)), 21);
        due("equal to the greatest", x.write(1, bytes(40)), 21);
        due("greater", x.write(1, bytes(50)), 0);
        due("another view writes", x.write(0, bytes(60)), 2);
        due("the greatest now", x.write(1, bytes(55)), 21);
        due("remove", x.remove(0, 60), 0);
        due("greater again", x.write(1, bytes(55)), 2);
        due("remove", x.remove(0, 55), 0);
        due("its own last one counts when it is gone", x.write(1, bytes(52)), 21);
        reopen(x, 1, EXTEND, SEQUENTIAL);
        due("anew: only the greatest counts", x.write(1, bytes(52)), 2);
        reopen(x, 1, EXTEND, DYNAMIC);
        due("by dynamic access in any order", x.write(1, bytes(1)), 2);
        KeyedFiles y = threeKeys(1);
        due("extend", y.open(0, EXTEND, SEQUENTIAL), 0);
        due("into nothing", y.write(0, bytes(0)), 0);
    }

    private static void room() {
        KeyedFiles x = new KeyedFiles();
        due("key", x.key(true, false, 0, 2), 0);
        due("key", x.key(false, true, 7, 1), 1);
        due("view", x.view(), 0);
        due("open", x.open(0, BOTH, DYNAMIC), 0);
        for (int i = 0; i < 300; i++) {
            // 7 and 300 have no common divisor, so each prime comes once, in a mixed order.
            int prime = i * 7 % 300;
            due("write " + i, x.write(0, bytes(prime >> 8, prime)), i == 0 ? 0 : 2);
        }
        due("no room", x.write(0, bytes(9, 9)), 24);
        due("22 goes ahead of 24", x.write(0, bytes(0, 9)), 22);
        due("count", x.count(0), 300);
        due("count", x.count(1), 300);
        due("whole", x.whole(), true);
        due("the last of the prime key", x.scan(0, 299), bytes(1, 43));
        due("the last that came", x.scan(1, 299), bytes(1, 37));
        due("behind all", x.scan(1, 300), 0);
        due("rewrite needs no room", x.rewrite(0, bytes(0, 0, 0, 0, 0, 0, 0, 1)), 0);
        due("remove", x.remove(0, 3), 0);
        due("room again", x.write(0, bytes(9, 9)), 2);
        due("no room again", x.write(0, bytes(9, 8)), 24);
    }

    private static void reading() {
        KeyedFiles x = filled(1);
        due("prime", x.read(0, 0, 30), 0);
        due("value", x.value(0), bytes(30, 5));
        due("the first of equals", x.read(0, 1, 7), 2);
        due("value", x.value(0), bytes(10, 7));
        due("reference", x.reference(0), 1);
        dueNext(x, 0, false, 2, 20);
        due("one alone", x.read(0, 1, 5), 0);
        due("not there", x.read(0, 2, 5), 23);
        due("reference by 23", x.reference(0), 2);
        due("nothing read by 23", x.value(0), 0);
        due("lost by 23", x.next(0, false), 46);
        due("a read finds it again", x.read(0, 0, 20), 0);
        dueNext(x, 0, true, 0, 10);
        due("above the field", x.read(0, 0, 256 + 10), 23);
        due("below none", x.read(0, 0, -1), 23);
        due("no key", x.read(0, 3, 10), KeyedFiles.NONE);
        due("no key", x.read(0, -1, 10), KeyedFiles.NONE);
        due("no view", x.read(1, 0, 10), KeyedFiles.NONE);
        due("no view", x.read(-1, 0, 10), KeyedFiles.NONE);
        due("NONE keeps the reference", x.reference(0), 0);
        int[][] statuses = {{47, 0, 0}, {47, 47, 47}, {47, 0, 0}, {47, 47, 47}};
        int[] modes = {INPUT, BOTH, EXTEND, OUTPUT};
        for (int mode : modes) {
            for (int access = 0; access < 3; access++) {
                reopen(x, 0, mode, access);
                due("read in " + mode + ", " + access, x.read(0, 0, 10), statuses[mode][access]);
            }
        }
    }

    private static void values() {
        KeyedFiles x = filled(2);
        due("none at first", x.value(0), 0);
        due("no view", x.value(2), 0);
        due("no view", x.value(-1), 0);
        due("read", x.read(0, 0, 10), 0);
        due("rewrite by another view", x.rewrite(1, bytes(10, 9)), 0);
        due("it stays what it was", x.value(0), bytes(10, 7));
        due("remove by another view", x.remove(1, 10), 0);
        due("it stays what it was", x.value(0), bytes(10, 7));
        due("the other view's", x.value(1), 0);
        due("NONE", x.start(0, 0, 9, 0, 1), KeyedFiles.NONE);
        due("NONE keeps it", x.value(0), bytes(10, 7));
        due("start", x.start(0, 0, GREATER, 0, 1), 0);
        due("start makes it none", x.value(0), 0);
        dueNext(x, 0, false, 0, 20);
        due("remove 23", x.remove(0, 99), 23);
        due("none by 23", x.value(0), 0);
        dueNext(x, 0, false, 0, 30);
        due("rewrite 23", x.rewrite(0, bytes(99)), 23);
        due("none by 23", x.value(0), 0);
        dueNext(x, 0, false, 0, 40);
        due("the end", x.next(0, false), 10);
        due("none by 10", x.value(0), 0);
        due("read", x.read(0, 0, 20), 0);
        due("write", x.write(0, bytes(50)), 0);
        due("none by a write", x.value(0), 0);
        reopen(x, 0, INPUT, SEQUENTIAL);
        dueNext(x, 0, false, 0, 20);
        due("write", x.write(0, bytes(60)), 48);
        due("read", x.read(0, 0, 20), 47);
        due("rewrite", x.rewrite(0, bytes(20)), 49);
        due("remove", x.remove(0, 20), 49);
        due("these keep it", x.value(0), bytes(20, 7));
    }

    /** Primes of two bytes: 0x0105, 0x0110, 0x0203, 0xFF00. */
    private static KeyedFiles parts() {
        KeyedFiles x = new KeyedFiles();
        due("key", x.key(true, false, 0, 2), 0);
        due("key", x.key(false, true, 2, 1), 1);
        due("view", x.view(), 0);
        due("open", x.open(0, BOTH, DYNAMIC), 0);
        due("write", x.write(0, bytes(2, 3, 9)), 0);
        due("write", x.write(0, bytes(1, 5, 9)), 2);
        due("write", x.write(0, bytes(255, 0, 8)), 0);
        due("write", x.write(0, bytes(1, 16, 9)), 2);
        return x;
    }

    /** A start finds the record with these first bytes, from both directions; first below 0: none. */
    private static void dueStart(KeyedFiles x, int key, int op, long k, int size, int first, int second) {
        String what = "start(" + key + ", " + op + ", " + k + ", " + size + ")";
        due(what, x.start(0, key, op, k, size), first < 0 ? 23 : 0);
        due("reference by it", x.reference(0), key);
        if (first < 0) {
            due("lost", x.next(0, false), 46);
            due("lost", x.next(0, true), 46);
            return;
        }
        x.next(0, false);
        due("forwards from " + what, x.value(0), bytes(first, second, third(first)));
        x.start(0, key, op, k, size);
        x.next(0, true);
        due("back from " + what, x.value(0), bytes(first, second, third(first)));
    }

    /** The third byte of the record in parts() whose first byte this is. */
    private static int third(int first) {
        return first == 255 ? 8 : 9;
    }

    private static void starting() {
        KeyedFiles x = parts();
        dueStart(x, 0, EQUAL, 1, 1, 1, 5);
        dueStart(x, 0, EQUAL, 3, 1, -1, 0);
        dueStart(x, 0, EQUAL, 0x0110, 2, 1, 16);
        dueStart(x, 0, EQUAL, 0x0111, 2, -1, 0);
        dueStart(x, 0, EQUAL, 0x0105, 1, -1, 0);
        dueStart(x, 0, EQUAL, 255, 1, 255, 0);
        dueStart(x, 0, EQUAL, 256 + 1, 1, -1, 0);
        dueStart(x, 0, GREATER, 1, 1, 2, 3);
        dueStart(x, 0, GREATER, 0, 1, 1, 5);
        dueStart(x, 0, GREATER, 255, 1, -1, 0);
        dueStart(x, 0, GREATER, 0x0105, 2, 1, 16);
        dueStart(x, 0, GREATER, 0x10000, 2, -1, 0);
        dueStart(x, 0, NOT_LESS, 1, 1, 1, 5);
        dueStart(x, 0, NOT_LESS, 3, 1, 255, 0);
        dueStart(x, 0, NOT_LESS, 256, 1, -1, 0);
        dueStart(x, 0, NOT_LESS, 0x0106, 2, 1, 16);
        dueStart(x, 0, LESS, 1, 1, -1, 0);
        dueStart(x, 0, LESS, 2, 1, 1, 16);
        dueStart(x, 0, LESS, 255, 1, 2, 3);
        dueStart(x, 0, LESS, 256, 1, 255, 0);
        dueStart(x, 0, LESS, 0x0110, 2, 1, 5);
        dueStart(x, 0, NOT_GREATER, 1, 1, 1, 16);
        dueStart(x, 0, NOT_GREATER, 0, 1, -1, 0);
        dueStart(x, 0, NOT_GREATER, 254, 1, 2, 3);
        dueStart(x, 0, NOT_GREATER, 0x0105, 2, 1, 5);
        dueStart(x, 1, EQUAL, 9, 1, 2, 3);
        dueStart(x, 1, NOT_GREATER, 9, 1, 1, 16);
        dueStart(x, 1, LESS, 9, 1, 255, 0);
        dueStart(x, 1, GREATER, 8, 1, 2, 3);
    }

    private static void startingWrongly() {
        KeyedFiles x = parts();
        due("read", x.read(0, 0, 0x0105), 0);
        due("no view", x.start(1, 0, 0, 1, 1), KeyedFiles.NONE);
        due("no key", x.start(0, 2, 0, 1, 1), KeyedFiles.NONE);
        due("no key", x.start(0, -1, 0, 1, 1), KeyedFiles.NONE);
        due("no kind", x.start(0, 0, -1, 1, 1), KeyedFiles.NONE);
        due("no kind", x.start(0, 0, 5, 1, 1), KeyedFiles.NONE);
        due("no size", x.start(0, 0, 0, 1, 0), KeyedFiles.NONE);
        due("no size", x.start(0, 0, 0, 1, 3), KeyedFiles.NONE);
        due("no size of this key", x.start(0, 1, 0, 1, 2), KeyedFiles.NONE);
        due("no size", x.start(0, 0, 0, 1, Integer.MIN_VALUE), KeyedFiles.NONE);
        due("the place stays", x.next(0, false), 0);
        due("the place stays", x.value(0), bytes(1, 16, 9));
        int[][] statuses = {{0, 47, 0}, {47, 47, 47}, {0, 47, 0}, {47, 47, 47}};
        int[] modes = {INPUT, BOTH, EXTEND, OUTPUT};
        for (int mode : modes) {
            for (int access = 0; access < 3; access++) {
                reopen(x, 0, mode, access);
                due("start in " + mode + ", " + access, x.start(0, 1, NOT_LESS, 0, 1), statuses[mode][access]);
                due("NONE ahead of 47", x.start(0, 0, 5, 1, 1), KeyedFiles.NONE);
                due("reference", x.reference(0), statuses[mode][access] == 0 ? 1 : 0);
            }
        }
    }

    private static void goingThrough() {
        KeyedFiles x = filled(1);
        dueNext(x, 0, false, 0, 10);
        dueNext(x, 0, false, 0, 20);
        dueNext(x, 0, true, 0, 10);
        dueNext(x, 0, false, 0, 20);
        dueNext(x, 0, false, 0, 30);
        dueNext(x, 0, false, 0, 40);
        due("the end", x.next(0, false), 10);
        due("no next one", x.next(0, false), 46);
        due("nor one back", x.next(0, true), 46);
        due("write", x.write(0, bytes(50, 3)), 0);
        due("the end stays", x.next(0, false), 46);
        due("read", x.read(0, 0, 50), 0);
        dueNext(x, 0, true, 0, 40);
        due("start", x.start(0, 1, NOT_GREATER, 255, 1), 0);
        dueNext(x, 0, true, 2, 40);
        dueNext(x, 0, true, 2, 20);
        dueNext(x, 0, true, 0, 10);
        dueNext(x, 0, false, 2, 20);
        dueNext(x, 0, false, 0, 40);
        due("start", x.start(0, 1, EQUAL, 5, 1), 0);
        dueNext(x, 0, true, 0, 30);
        dueNext(x, 0, true, 0, 50);
        due("the end back", x.next(0, true), 10);
        due("no next one", x.next(0, false), 46);
        due("a start leaves the end", x.start(0, 0, EQUAL, 10, 1), 0);
        dueNext(x, 0, true, 0, 10);
        reopen(x, 0, INPUT, DYNAMIC);
        due("back from ahead of all", x.next(0, true), 10);
        due("is the end", x.next(0, false), 46);
        due("no view", x.next(1, false), KeyedFiles.NONE);
        due("no view", x.next(-1, true), KeyedFiles.NONE);
        int[][] statuses = {{0, 47, 0}, {47, 47, 47}, {0, 47, 0}, {47, 47, 47}};
        int[] modes = {INPUT, BOTH, EXTEND, OUTPUT};
        for (int mode : modes) {
            for (int access = 0; access < 3; access++) {
                reopen(x, 0, mode, access);
                due("next in " + mode + ", " + access, x.next(0, false), statuses[mode][access]);
            }
        }
    }

    private static void goingThroughChanges() {
        KeyedFiles x = filled(1);
        due("start", x.start(0, 0, EQUAL, 20, 1), 0);
        due("remove", x.remove(0, 20), 0);
        dueNext(x, 0, false, 0, 30);
        due("start", x.start(0, 0, EQUAL, 30, 1), 0);
        due("remove", x.remove(0, 30), 0);
        dueNext(x, 0, true, 0, 10);
        due("read", x.read(0, 0, 10), 0);
        due("write", x.write(0, bytes(15)), 0);
        dueNext(x, 0, false, 0, 15);
        due("remove", x.remove(0, 15), 0);
        due("write", x.write(0, bytes(12)), 0);
        dueNext(x, 0, true, 0, 12);
        due("remove", x.remove(0, 12), 0);
        dueNext(x, 0, false, 0, 40);

        KeyedFiles y = filled(1);
        due("start", y.start(0, 1, EQUAL, 7, 1), 0);
        due("its record is rewritten under another key", y.rewrite(0, bytes(10, 7, 4)), 0);
        dueNext(y, 0, false, 2, 10);
        due("one comes under that key", y.rewrite(0, bytes(20, 7, 5)), 0);
        due("and a third one", y.rewrite(0, bytes(40, 7, 6)), 0);
        due("start", y.start(0, 2, EQUAL, 5, 1), 0);
        due("its entry is left out", y.rewrite(0, bytes(20, 7, 0)), 0);
        dueNext(y, 0, true, 0, 10);
        due("its entry is left out", y.rewrite(0, bytes(10, 7, 0)), 0);
        dueNext(y, 0, false, 0, 40);
    }

    private static void rewriting() {
        KeyedFiles x = filled(1);
        due("same fields", x.rewrite(0, bytes(10, 7, 0, 1)), 0);
        dueOrder(x, 1, 30, 10, 20, 40);
        due("it is another record", x.scan(0, 0), bytes(10, 7, 0, 1));
        due("not there", x.rewrite(0, bytes(11, 7)), 23);
        due("to a field alone", x.rewrite(0, bytes(10, 6)), 0);
        dueOrder(x, 1, 30, 10, 20, 40);
        due("back behind equals", x.rewrite(0, bytes(10, 7)), 2);
        dueOrder(x, 1, 30, 20, 40, 10);
        due("into a sparse key", x.rewrite(0, bytes(20, 7, 3)), 0);
        dueOrder(x, 1, 30, 20, 40, 10);
        dueOrder(x, 2, 20);
        due("barred", x.rewrite(0, bytes(30, 7, 3)), 22);
        dueOrder(x, 1, 30, 20, 40, 10);
        due("its own is no double", x.rewrite(0, bytes(20, 5, 3)), 2);
        dueOrder(x, 1, 30, 20, 40, 10);
        due("out of a sparse key", x.rewrite(0, bytes(20, 5, 0)), 0);
        dueOrder(x, 2);
        due("no longer barred", x.rewrite(0, bytes(30, 7, 3)), 2);
        dueOrder(x, 1, 20, 40, 10, 30);
        dueOrder(x, 0, 10, 20, 30, 40);
        due("no view", x.rewrite(1, bytes(10)), KeyedFiles.NONE);
        reopen(x, 0, BOTH, RANDOM);
        due("random", x.rewrite(0, bytes(10, 1)), 0);
        reopen(x, 0, BOTH, SEQUENTIAL);
        due("none read", x.rewrite(0, bytes(10)), 43);
        int[] modes = {INPUT, EXTEND, OUTPUT};
        for (int mode : modes) {
            for (int access = 0; access < 3; access++) {
                reopen(x, 0, mode, access);
                due("rewrite in " + mode + ", " + access, x.rewrite(0, bytes(10, 1)), 49);
            }
        }
    }

    private static void rewritingInSequence() {
        KeyedFiles x = filled(2);
        reopen(x, 0, BOTH, SEQUENTIAL);
        due("none read", x.rewrite(0, bytes(10, 7)), 43);
        dueNext(x, 0, false, 0, 10);
        due("another prime", x.rewrite(0, bytes(20, 7)), 21);
        due("none read by 21", x.rewrite(0, bytes(10, 7)), 43);
        dueNext(x, 0, false, 0, 20);
        due("the one read", x.rewrite(0, bytes(20, 5)), 2);
        due("none read", x.value(0), 0);
        due("none read", x.rewrite(0, bytes(20, 5)), 43);
        dueOrder(x, 1, 30, 20, 10, 40);
        dueNext(x, 0, false, 0, 30);
        due("the very same by another view", x.rewrite(1, bytes(30, 5)), 0);
        due("it is there still", x.rewrite(0, bytes(30, 2, 1)), 0);
        dueNext(x, 0, false, 0, 40);
        due("21 goes ahead of 22", x.rewrite(0, bytes(41, 2, 1)), 21);
        due("start", x.start(0, 0, EQUAL, 40, 1), 0);
        dueNext(x, 0, false, 0, 40);
        due("barred", x.rewrite(0, bytes(40, 2, 1)), 22);
        due("start", x.start(0, 0, EQUAL, 40, 1), 0);
        dueNext(x, 0, false, 0, 40);
        due("removed by another view", x.remove(1, 40), 0);
        due("it is gone", x.rewrite(0, bytes(40, 2)), 43);
    }

    private static void removing() {
        KeyedFiles x = filled(2);
        due("not there", x.remove(0, 11), 23);
        due("above the field", x.remove(0, 256 + 10), 23);
        due("prime 20", x.remove(0, 20), 0);
        dueOrder(x, 0, 10, 30, 40);
        dueOrder(x, 1, 30, 10, 40);
        due("not there again", x.remove(0, 20), 23);
        due("no view", x.remove(2, 10), KeyedFiles.NONE);
        due("write again", x.write(0, bytes(20, 7)), 2);
        dueOrder(x, 1, 30, 10, 40, 20);
        reopen(x, 0, BOTH, SEQUENTIAL);
        due("none read", x.remove(0, 10), 43);
        dueNext(x, 0, false, 0, 10);
        due("the one read, whatever k", x.remove(0, 40), 0);
        dueOrder(x, 0, 20, 30, 40);
        due("none read", x.remove(0, 40), 43);
        dueNext(x, 0, false, 0, 20);
        due("by another view", x.remove(1, 20), 0);
        due("it is gone", x.remove(0, 20), 43);
        dueNext(x, 0, false, 0, 30);
        due("the very same by another view", x.rewrite(1, bytes(30, 5)), 0);
        due("it is there still", x.remove(0, 0), 0);
        dueOrder(x, 0, 40);
        reopen(x, 0, BOTH, RANDOM);
        due("random", x.remove(0, 40), 0);
        dueOrder(x, 0);
        dueOrder(x, 1);
        due("write", x.write(0, bytes(10)), 0);
        int[] modes = {INPUT, EXTEND, OUTPUT};
        for (int mode : modes) {
            for (int access = 0; access < 3; access++) {
                reopen(x, 0, mode, access);
                due("remove in " + mode + ", " + access, x.remove(0, 10), 49);
            }
        }
    }

    private static void scanning() {
        KeyedFiles x = filled(1);
        due("first", x.scan(1, 0), bytes(30, 5));
        due("last", x.scan(1, 3), bytes(40, 7));
        due("behind", x.scan(1, 4), 0);
        due("ahead", x.scan(1, -1), 0);
        due("far ahead", x.scan(1, Integer.MIN_VALUE), 0);
        due("far behind", x.scan(1, Integer.MAX_VALUE), 0);
        due("of an empty key", x.scan(2, 0), 0);
        due("no key", x.scan(3, 0), 0);
        due("no key", x.scan(-1, 0), 0);
        due("close", x.close(0), 0);
        due("without an open view", x.scan(0, 0), bytes(10, 7));
    }

    private static void references() {
        KeyedFiles x = threeKeys(2);
        due("closed", x.reference(0), KeyedFiles.NONE);
        due("no view", x.reference(2), KeyedFiles.NONE);
        due("no view", x.reference(-1), KeyedFiles.NONE);
        due("open", x.open(0, BOTH, DYNAMIC), 0);
        due("at first", x.reference(0), 0);
        due("read", x.read(0, 2, 1), 23);
        due("by a read", x.reference(0), 2);
        due("start", x.start(0, 1, NOT_LESS, 1, 1), 23);
        due("by a start that finds none", x.reference(0), 1);
        due("the other", x.reference(1), KeyedFiles.NONE);
    }

    private static void counting() {
        KeyedFiles x = threeKeys(1);
        due("at first", x.count(0), 0);
        due("no key", x.count(3), KeyedFiles.NONE);
        due("no key", x.count(-1), KeyedFiles.NONE);
        due("open", x.open(0, BOTH, DYNAMIC), 0);
        due("write", x.write(0, bytes(1, 1, 0)), 0);
        due("write", x.write(0, bytes(2, 1, 5)), 2);
        due("records", x.count(0), 2);
        due("entries", x.count(1), 2);
        due("entries of a sparse key", x.count(2), 1);
        due("a write that fails", x.write(0, bytes(3, 1, 5)), 22);
        due("records", x.count(0), 2);
        due("entries", x.count(1), 2);
    }

    private static void wholeness() {
        KeyedFiles x = filled(1);
        due("whole", x.whole(), true);
        for (int i = 0; i < 40; i++) {
            x.write(0, bytes(100 + i, i % 3, i % 5));
            x.rewrite(0, bytes(100 + i / 2, i % 4, i % 7));
            x.remove(0, 100 + i / 3);
            due("whole " + i, x.whole(), true);
        }
        due("close", x.close(0), 0);
        due("whole when closed", x.whole(), true);
        due("output", x.open(0, OUTPUT, SEQUENTIAL), 0);
        due("whole when empty", x.whole(), true);
    }

    public static void main(String[] args) {
        promise = 1;
        newObject();
        promise = 2;
        keyMaking();
        fields();
        promise = 3;
        sparseKeys();
        promise = 4;
        viewMaking();
        promise = 5;
        opening();
        openingForOutput();
        promise = 6;
        closing();
        promise = 7;
        writing();
        writingInOrder();
        extending();
        room();
        promise = 8;
        reading();
        promise = 9;
        values();
        promise = 10;
        starting();
        startingWrongly();
        promise = 11;
        goingThrough();
        goingThroughChanges();
        promise = 12;
        rewriting();
        rewritingInSequence();
        promise = 13;
        removing();
        promise = 14;
        scanning();
        promise = 15;
        references();
        promise = 16;
        counting();
        promise = 17;
        wholeness();
        System.out.println(wrong == 0 ? "all answers are as due" : wrong + " answers are not as due");
        if (wrong != 0) {
            System.exit(1);
        }
    }
}
