import java.util.ArrayList;
import java.util.List;
import java.util.Random;

/**
 * Runs of mixed calls (the same ones each time), each answer compared with a model that keeps no
 * index: it gathers and sorts a key's entries anew whenever it needs them.
 */
public final class KeyedFilesAgainstModel {
    private static final int RUNS = 7000;

    /** What an object answers behind its 512th call is free. */
    private static final int MOST_CALLS = 512;
    private static final int MOST_LAST_SCANS = 100;

    private static final class Rec {
        long bytes;
        boolean gone;
        long goneAt;
        final long[] came = new long[6];
    }

    private static final class Key {
        boolean doubles;
        int from;
        int size;
        Long sparse;

        long field(long record) {
            long field = 0;
            for (int i = from; i < from + size; i++) {
                field = field * 256 + (record >>> 8 * (7 - i) & 255);
            }
            return field;
        }
    }

    private static final class Look {
        int mode = -1;
        int access;
        int reference;
        boolean lost;
        boolean ended;
        /** Ahead of all: null. Else {field, arrival, 1 for at the entry or 0 for behind it}. */
        long[] place;
        /** The record of the entry that it is at or behind. */
        Rec stood;
        Rec last;
        long value;
        Long written;

        void none() {
            last = null;
            value = 0;
        }
    }

    private static final class Model {
        final List<Key> keys = new ArrayList<>();
        final List<Look> views = new ArrayList<>();
        final List<Rec> records = new ArrayList<>();
        boolean opened;
        long clock;

        int compare(int key, Rec rec, long field, long came) {
            int byField = Long.compareUnsigned(keys.get(key).field(rec.bytes), field);
            return byField != 0 ? byField : Long.compare(rec.came[key], came);
        }

        List<Rec> entries(int key) {
            List<Rec> all = new ArrayList<>();
            Key by = keys.get(key);
            for (Rec rec : records) {
                if (by.sparse == null || by.sparse != by.field(rec.bytes)) {
                    all.add(rec);
                }
            }
            all.sort((a, b) -> compare(key, a, by.field(b.bytes), b.came[key]));
            return all;
        }

        boolean noKey(int key) {
            return key < 0 || key >= keys.size();
        }

        boolean noView(int view) {
            return view < 0 || view >= views.size();
        }

        int key(boolean prime, boolean doubles, int from, int size) {
            if (opened || keys.size() == 6 || prime != keys.isEmpty() || prime && doubles) {
                return -1;
            }
            if (size < 1 || size > 8 || from < 0 || (long) from + size > 8) {
                return -1;
            }
            Key key = new Key();
            key.doubles = doubles;
            key.from = from;
            key.size = size;
            keys.add(key);
            return keys.size() - 1;
        }

        int sparse(int key, long v) {
            if (noKey(key) || key == 0 || opened) {
                return -1;
            }
            keys.get(key).sparse = v;
            return 1;
        }

        int view() {
            if (views.size() == 5 || keys.isEmpty()) {
                return -1;
            }
            views.add(new Look());
            return views.size() - 1;
        }

        int open(int view, int mode, int access) {
            if (noView(view) || mode < 0 || mode > 3 || access < 0 || access > 2) {
                return -1;
            }
            if (views.get(view).mode >= 0) {
                return 41;
            }
            opened = true;
            if (mode == 1) {
                records.clear();
                for (Look look : views) {
                    look.lost = true;
                    look.none();
                }
            }
            Look look = new Look();
            look.mode = mode;
            look.access = access;
            views.set(view, look);
            return 0;
        }

        int close(int view) {
            if (noView(view)) {
                return -1;
            }
            if (views.get(view).mode < 0) {
                return 42;
            }
            views.set(view, new Look());
            return 0;
        }

        /** Whether an entry under any of the keys would be an equal of another record's. */
        boolean equalThere(long record, Rec but, boolean barred) {
            for (int key = 0; key < keys.size(); key++) {
                Key by = keys.get(key);
                boolean stays = but != null && by.field(but.bytes) == by.field(record);
                if (by.doubles == barred || stays) {
                    continue;
                }
                for (Rec rec : entries(key)) {
                    if (rec != but && by.field(rec.bytes) == by.field(record)) {
                        return true;
                    }
                }
            }
            return false;
        }

        int write(int view, long record) {
            if (noView(view)) {
                return -1;
            }
            Look look = views.get(view);
            if (look.mode < 0) {
                return 42;
            }
            if (look.mode == 0 || look.mode == 2 && look.access == 0) {
                return 48;
            }
            look.none();
            long prime = keys.get(0).field(record);
            if (look.access == 0) {
                if (look.written != null && Long.compareUnsigned(prime, look.written) <= 0) {
                    return 21;
                }
                for (Rec rec : records) {
                    if (look.mode == 3 && Long.compareUnsigned(prime, keys.get(0).field(rec.bytes)) <= 0) {
                        return 21;
                    }
                }
            }
            if (equalThere(record, null, true)) {
                return 22;
            }
            if (records.size() == 300) {
                return 24;
            }
            int status = equalThere(record, null, false) ? 2 : 0;
            Rec rec = new Rec();
            rec.bytes = record;
            clock++;
            java.util.Arrays.fill(rec.came, clock);
            records.add(rec);
            look.written = prime;
            return status;
        }

        int found(Look look, int key, List<Rec> entries, int i, int step) {
            Key by = keys.get(key);
            Rec rec = entries.get(i);
            long field = by.field(rec.bytes);
            look.last = rec;
            look.value = rec.bytes;
            look.place = new long[] {field, rec.came[key], 0};
            look.stood = rec;
            look.lost = false;
            look.ended = false;
            int j = i + step;
            boolean more = j >= 0 && j < entries.size() && by.field(entries.get(j).bytes) == field;
            return by.doubles && more ? 2 : 0;
        }

        int read(int view, int key, long k) {
            if (noView(view) || noKey(key)) {
                return -1;
            }
            Look look = views.get(view);
            if (look.mode < 0) {
                return 42;
            }
            if (look.mode % 2 == 1 || look.access == 0) {
                return 47;
            }
            look.none();
            look.reference = key;
            List<Rec> entries = entries(key);
            for (int i = 0; i < entries.size(); i++) {
                if (keys.get(key).field(entries.get(i).bytes) == k) {
                    return found(look, key, entries, i, 1);
                }
            }
            look.lost = true;
            return 23;
        }

        long value(int view) {
            return noView(view) ? 0 : views.get(view).value;
        }

        int start(int view, int key, int op, long k, int size) {
            if (noView(view) || noKey(key) || op < 0 || op > 4 || size < 1 || size > keys.get(key).size) {
                return -1;
            }
            Look look = views.get(view);
            if (look.mode < 0) {
                return 42;
            }
            if (look.mode % 2 == 1 || look.access == 1) {
                return 47;
            }
            look.none();
            look.reference = key;
            Rec best = null;
            for (Rec rec : entries(key)) {
                long part = keys.get(key).field(rec.bytes) >>> 8 * (keys.get(key).size - size);
                int order = Long.compareUnsigned(part, k);
                boolean fits = op == 0 ? order == 0 : op == 1 ? order > 0 : op == 2 ? order >= 0 : op == 3 ? order < 0 : order <= 0;
                if (fits && (best == null || op > 2)) {
                    best = rec;
                }
            }
            look.lost = best == null;
            if (best == null) {
                return 23;
            }
            look.ended = false;
            look.place = new long[] {keys.get(key).field(best.bytes), best.came[key], 1};
            look.stood = best;
            return 0;
        }

        int next(int view, boolean back) {
            if (noView(view)) {
                return -1;
            }
            Look look = views.get(view);
            if (look.mode < 0) {
                return 42;
            }
            if (look.mode % 2 == 1 || look.access == 1) {
                return 47;
            }
            look.none();
            if (look.lost || look.ended) {
                return 46;
            }
            int key = look.reference;
            List<Rec> entries = entries(key);
            int best = -1;
            for (int i = 0; i < entries.size(); i++) {
                int order = look.place == null ? 1 : compare(key, entries.get(i), look.place[0], look.place[1]);
                boolean here = order == 0 && look.place[2] == 1;
                if (back ? order < 0 || here : (order > 0 || here) && best < 0) {
                    best = i;
                }
            }
            if (best < 0) {
                look.ended = true;
                return 10;
            }
            return found(look, key, entries, best, back ? -1 : 1);
        }

        Rec byPrime(long k) {
            for (Rec rec : records) {
                if (keys.get(0).field(rec.bytes) == k) {
                    return rec;
                }
            }
            return null;
        }

        int rewrite(int view, long record) {
            if (noView(view)) {
                return -1;
            }
            Look look = views.get(view);
            if (look.mode < 0) {
                return 42;
            }
            if (look.mode != 2) {
                return 49;
            }
            Rec rec = look.last;
            look.none();
            if (look.access == 0) {
                if (rec == null || rec.gone) {
                    return 43;
                }
                if (keys.get(0).field(rec.bytes) != keys.get(0).field(record)) {
                    return 21;
                }
            } else {
                rec = byPrime(keys.get(0).field(record));
                if (rec == null) {
                    return 23;
                }
            }
            if (equalThere(record, rec, true)) {
                return 22;
            }
            int status = equalThere(record, rec, false) ? 2 : 0;
            clock++;
            for (int key = 0; key < keys.size(); key++) {
                if (keys.get(key).field(rec.bytes) != keys.get(key).field(record)) {
                    rec.came[key] = clock;
                }
            }
            rec.bytes = record;
            return status;
        }

        int remove(int view, long k) {
            if (noView(view)) {
                return -1;
            }
            Look look = views.get(view);
            if (look.mode < 0) {
                return 42;
            }
            if (look.mode != 2) {
                return 49;
            }
            Rec rec = look.last;
            look.none();
            if (look.access != 0) {
                rec = byPrime(k);
            }
            if (rec == null || rec.gone) {
                return look.access == 0 ? 43 : 23;
            }
            rec.gone = true;
            rec.goneAt = clock;
            records.remove(rec);
            return 0;
        }

        long scan(int key, int i) {
            if (noKey(key)) {
                return 0;
            }
            List<Rec> entries = entries(key);
            return i < 0 || i >= entries.size() ? 0 : entries.get(i).bytes;
        }

        int reference(int view) {
            return noView(view) || views.get(view).mode < 0 ? -1 : views.get(view).reference;
        }

        int count(int key) {
            return noKey(key) ? -1 : entries(key).size();
        }

        /**
         * Whether the document leaves open what next is: the entry that the view stood at has moved
         * (is it there still?), or one with the same field came when it was gone (is that behind it?).
         */
        boolean isNextOpen(Look look) {
            if (look.place == null || look.lost || look.ended) {
                return false;
            }
            Rec stood = look.stood;
            int key = look.reference;
            if (stood.came[key] != look.place[1]) {
                return true;
            }
            for (Rec rec : entries(key)) {
                boolean equal = keys.get(key).field(rec.bytes) == look.place[0];
                if (stood.gone && equal && rec.came[key] > stood.goneAt) {
                    return true;
                }
            }
            return false;
        }

        /**
         * Whether the document leaves open if the record read last is there still: it was rewritten,
         * or it was removed and another one has its prime field now.
         */
        boolean isLastOpen(Look look) {
            if (look.last == null || look.access != 0) {
                return false;
            }
            boolean isBack = byPrime(keys.get(0).field(look.value)) != null;
            return look.last.gone ? isBack : look.last.bytes != look.value;
        }
    }

    /** One run: an object, its model, and what this run's calls are like. */
    private static final class Run {
        final Random random;
        final KeyedFiles file = new KeyedFiles();
        final Model model = new Model();
        final int spread;
        final int wildness;
        final boolean sequential;
        final boolean isCrowded;
        final StringBuilder calls = new StringBuilder();
        final int[] seen;
        int called;

        Run(int seed, int[] seen) {
            random = new Random(seed);
            spread = 2 + random.nextInt(seed % 10 == 0 ? 254 : 8);
            wildness = seed % 3 == 0 ? 10 : 200;
            sequential = seed % 4 == 1;
            isCrowded = seed % 20 == 7;
            this.seen = seen;
        }

        int small(int limit) {
            if (random.nextInt(wildness) == 0) {
                int[] wild = {-1, limit, limit + 1, Integer.MIN_VALUE, Integer.MAX_VALUE};
                return wild[random.nextInt(wild.length)];
            }
            return limit <= 0 ? 0 : random.nextInt(limit);
        }

        int aByte() {
            int b = random.nextInt(spread);
            return random.nextInt(8) == 0 ? 255 - b : b;
        }

        long aRecord() {
            long record = 0;
            for (int i = 0; i < 8; i++) {
                record = record << 8 | aByte();
            }
            return record;
        }

        /** A field of a key (of a record that is there, often), or its first bytes, or a wild one. */
        long aField(int key, int size) {
            if (model.noKey(key) || random.nextInt(wildness) == 0) {
                // The document does not say what a k below 0 is to a field that is shorter than k.
                return random.nextBoolean() ? random.nextLong() >>> 1 : random.nextInt(600);
            }
            long record = aRecord();
            if (!model.records.isEmpty() && random.nextInt(3) > 0) {
                record = model.records.get(random.nextInt(model.records.size())).bytes;
            }
            int cut = model.keys.get(key).size - size;
            return cut < 0 || cut > 7 ? record : model.keys.get(key).field(record) >>> 8 * cut;
        }

        boolean check(String call, long got, long want) {
            called++;
            calls.append(call).append(" -> ").append(got).append('\n');
            if (got >= 0 && got < 50) {
                seen[(int) got]++;
            }
            if (got != want) {
                System.out.println(calls + "due is " + want);
            }
            return got == want;
        }

        boolean makeKeys() {
            int keys = 1 + random.nextInt(7);
            for (int i = 0; i < keys; i++) {
                boolean prime = random.nextInt(wildness) == 0 ? random.nextBoolean() : i == 0;
                boolean doubles = i == 0 ? random.nextInt(wildness) == 0 : random.nextInt(3) > 0;
                int size = 1 + (doubles || i == 0 ? random.nextInt(2) : 1 + random.nextInt(7));
                size = random.nextInt(wildness) == 0 ? small(9) : size;
                int from = small(9 - size);
                String call = "key(" + prime + ", " + doubles + ", " + from + ", " + size + ")";
                if (!check(call, file.key(prime, doubles, from, size), model.key(prime, doubles, from, size))) {
                    return false;
                }
                if (random.nextInt(3) == 0) {
                    int key = small(i + 1);
                    long v = aField(key, 1);
                    // The document does not say what a second told value is to the first one.
                    boolean isTold = !model.noKey(key) && model.keys.get(key).sparse != null;
                    if (!isTold && !check("sparse(" + key + ", " + v + ")", file.sparse(key, v), model.sparse(key, v))) {
                        return false;
                    }
                }
            }
            int views = 1 + random.nextInt(6);
            for (int i = 0; i < views; i++) {
                if (!check("view()", file.view(), model.view())) {
                    return false;
                }
            }
            return true;
        }

        boolean openOne(int view) {
            // Whether an open that answers 41 makes the record read last none, can be read both ways.
            if (!model.noView(view) && model.views.get(view).last != null) {
                return true;
            }
            int mode = random.nextInt(8) == 0 ? 1 : random.nextInt(3) > 0 ? 2 : small(4);
            int access = sequential && random.nextBoolean() ? 0 : random.nextInt(2) == 0 ? 2 : small(3);
            String call = "open(" + view + ", " + mode + ", " + access + ")";
            return check(call, file.open(view, mode, access), model.open(view, mode, access));
        }

        boolean lookOn(int view) {
            int key = small(model.keys.size());
            int i = small(model.records.size());
            switch (random.nextInt(6)) {
                case 0:
                    return check("scan(" + key + ", " + i + ")", file.scan(key, i), model.scan(key, i));
                case 1:
                    return check("count(" + key + ")", file.count(key), model.count(key));
                case 2:
                    return check("reference(" + view + ")", file.reference(view), model.reference(view));
                case 3:
                    return check("whole()", file.whole() ? 1 : 0, 1);
                case 4:
                    return check("view()", file.view(), model.view());
                default:
                    return check("value(" + view + ")", file.value(view), model.value(view));
            }
        }

        boolean change(int view) {
            long record = aRecord();
            int kind = random.nextInt(4);
            if (kind < 2 && !model.noView(view) && model.isLastOpen(model.views.get(view))) {
                return true;
            }
            switch (kind) {
                case 0: {
                    long k = aField(0, model.noKey(0) ? 1 : model.keys.get(0).size);
                    return check("remove(" + view + ", " + k + ")", file.remove(view, k), model.remove(view, k));
                }
                case 1: {
                    Rec last = model.noView(view) ? null : model.views.get(view).last;
                    long old = last == null ? 0 : last.bytes;
                    if (last == null && !model.records.isEmpty()) {
                        old = model.records.get(random.nextInt(model.records.size())).bytes;
                    }
                    long mixed = random.nextInt(6) == 0 ? record : mix(old, record);
                    return check("rewrite(" + view + ", " + mixed + ")", file.rewrite(view, mixed), model.rewrite(view, mixed));
                }
                default:
                    return check("write(" + view + ", " + record + ")", file.write(view, record), model.write(view, record));
            }
        }

        /** The old record with another byte, outside the prime field for the most part. */
        long mix(long old, long record) {
            int shift = 8 * random.nextInt(8);
            long mask = 255L << shift;
            long mixed = old & ~mask | record & mask;
            boolean samePrime = model.noKey(0) || model.keys.get(0).field(mixed) == model.keys.get(0).field(old);
            return samePrime || random.nextInt(4) == 0 ? mixed : old;
        }

        boolean seek(int view) {
            int key = small(model.keys.size());
            int most = model.noKey(key) ? 8 : model.keys.get(key).size;
            if (random.nextBoolean()) {
                long k = aField(key, most);
                String call = "read(" + view + ", " + key + ", " + k + ")";
                return check(call, file.read(view, key, k), model.read(view, key, k));
            }
            int size = 1 + small(most);
            int op = small(5);
            long k = aField(key, size);
            String call = "start(" + view + ", " + key + ", " + op + ", " + k + ", " + size + ")";
            return check(call, file.start(view, key, op, k, size), model.start(view, key, op, k, size));
        }

        boolean one() {
            int view = small(model.views.size());
            int kind = random.nextInt(20);
            if (kind == 0) {
                return openOne(view);
            }
            if (kind == 1) {
                return random.nextInt(3) > 0 || check("close(" + view + ")", file.close(view), model.close(view));
            }
            if (kind < 8) {
                return change(view);
            }
            if (kind < 11) {
                return seek(view);
            }
            if (kind < 16) {
                boolean back = random.nextInt(3) == 0;
                if (!model.noView(view) && model.isNextOpen(model.views.get(view))) {
                    return true;
                }
                return check("next(" + view + ", " + back + ")", file.next(view, back), model.next(view, back));
            }
            return lookOn(view);
        }

        int lastScans() {
            return Math.min(MOST_LAST_SCANS, model.keys.size() * (model.records.size() + 1));
        }

        boolean sameAtTheEnd() {
            for (int key = 0; key < model.keys.size(); key++) {
                for (int i = 0; i <= model.records.size() && called < MOST_CALLS - 1; i++) {
                    if (!check("scan(" + key + ", " + i + ")", file.scan(key, i), model.scan(key, i))) {
                        return false;
                    }
                }
            }
            return check("whole()", file.whole() ? 1 : 0, 1);
        }

        /** Keys and so many records that a few calls fill the file. */
        boolean crowd() {
            int[][] fields = {{0, 2}, {2, 1}, {3, 1}};
            for (int i = 0; i < fields.length; i++) {
                boolean prime = i == 0;
                int from = fields[i][0];
                int size = fields[i][1];
                if (!check("key " + i, file.key(prime, !prime, from, size), model.key(prime, !prime, from, size))) {
                    return false;
                }
            }
            if (!check("view()", file.view(), model.view()) || !check("open(0, 2, 2)", file.open(0, 2, 2), model.open(0, 2, 2))) {
                return false;
            }
            int many = 285 + random.nextInt(16);
            while (model.records.size() < many && called < 400) {
                long record = random.nextLong() & 0xFFFF0303FFFFFFFFL;
                if (!check("write(0, " + record + ")", file.write(0, record), model.write(0, record))) {
                    return false;
                }
            }
            return true;
        }

        boolean all() {
            if (isCrowded ? !crowd() : !makeKeys()) {
                return false;
            }
            for (int i = 0; i < model.views.size(); i++) {
                if (random.nextInt(4) > 0 && !openOne(i)) {
                    return false;
                }
            }
            while (called < MOST_CALLS - lastScans() - 1) {
                if (!one()) {
                    return false;
                }
            }
            return sameAtTheEnd();
        }
    }

    public static void main(String[] args) {
        int wrong = 0;
        int[] seen = new int[50];
        for (int seed = 1; seed <= RUNS && wrong < 3; seed++) {
            if (!new Run(seed, seen).all()) {
                wrong++;
            }
        }
        int[] statuses = {0, 2, 10, 21, 22, 23, 24, 41, 42, 43, 46, 47, 48, 49};
        for (int status : statuses) {
            if (seen[status] < 100) {
                wrong++;
                System.out.println("status " + status + " came only " + seen[status] + " times: the runs test too little");
            }
        }
        System.out.println(wrong == 0 ? "all answers are as due" : wrong + " runs are not as due");
        if (wrong != 0) {
            System.exit(1);
        }
    }
}
