import java.lang.reflect.Field;
import java.util.ArrayList;
import java.util.List;

/**
 * No call can break a file, so this test reaches into one and breaks it by hand: only so can it be
 * seen that whole() would tell. How the state is held is free: where it is held in another way than
 * this test knows, there is nothing here that it could break, and it says so.
 */
public final class KeyedFilesBroken {
    private static int wrong = 0;

    private static void due(String what, boolean got, boolean want) {
        if (got != want) {
            wrong++;
            System.out.println("whole(), " + what + ", answered " + got + ", due is " + want);
        }
    }

    private static Object inside(Object owner, String name) throws ReflectiveOperationException {
        Field field = owner.getClass().getDeclaredField(name);
        field.setAccessible(true);
        return field.get(owner);
    }

    private static void put(Object owner, String name, Object value) throws ReflectiveOperationException {
        Field field = owner.getClass().getDeclaredField(name);
        field.setAccessible(true);
        field.set(owner, value);
    }

    @SuppressWarnings("unchecked")
    private static List<Object> list(Object owner, String name) throws ReflectiveOperationException {
        Object held = inside(owner, name);
        if (!(held instanceof List)) {
            throw new NoSuchFieldException(name);
        }
        return (List<Object>) held;
    }

    private static List<Object> entries(KeyedFiles x, int key) throws ReflectiveOperationException {
        return list(list(x, "indexes").get(key), "entries");
    }

    /** Primes 1, 2, 3; all equal under key 1; 3 left out of key 2. */
    private static KeyedFiles sound() {
        KeyedFiles x = new KeyedFiles();
        x.key(true, false, 0, 1);
        x.key(false, true, 1, 1);
        x.key(false, false, 2, 1);
        x.sparse(2, 0);
        x.view();
        x.open(0, 2, 2);
        x.write(0, 0x0105010000000000L);
        x.write(0, 0x0205020000000000L);
        x.write(0, 0x0305000000000000L);
        due("sound", x.whole(), true);
        due("sound when asked again", x.whole(), true);
        return x;
    }

    private static void swapEntries(int key) throws ReflectiveOperationException {
        KeyedFiles x = sound();
        List<Object> entries = entries(x, key);
        entries.add(entries.remove(0));
        due("key " + key + " out of order", x.whole(), false);
    }

    private static void loseEntry(int key) throws ReflectiveOperationException {
        KeyedFiles x = sound();
        entries(x, key).remove(0);
        due("key " + key + " lacks an entry", x.whole(), false);
    }

    private static void doubleEntry(int key) throws ReflectiveOperationException {
        KeyedFiles x = sound();
        List<Object> entries = entries(x, key);
        entries.set(1, entries.get(0));
        due("key " + key + " has an entry twice", x.whole(), false);
    }

    private static void doubleRecord() throws ReflectiveOperationException {
        KeyedFiles x = sound();
        List<Object> entries = entries(x, 1);
        put(entries.get(1), "stored", inside(entries.get(0), "stored"));
        due("a record has two entries under a key, and another none", x.whole(), false);
    }

    private static void changeBytes() throws ReflectiveOperationException {
        KeyedFiles x = sound();
        Object stored = inside(entries(x, 0).get(0), "stored");
        put(stored, "bytes", 0x0106010000000000L);
        due("a record's field is not its entry's", x.whole(), false);
    }

    private static void loseRecord() throws ReflectiveOperationException {
        KeyedFiles x = sound();
        put(inside(entries(x, 0).get(0), "stored"), "isThere", false);
        due("entries of a record that is gone", x.whole(), false);
    }

    private static void leaveOutMore() throws ReflectiveOperationException {
        KeyedFiles x = sound();
        put(list(x, "indexes").get(2), "fieldLeftOut", 1L);
        due("an entry that should be left out", x.whole(), false);
    }

    private static void barDoubles() throws ReflectiveOperationException {
        KeyedFiles x = sound();
        List<Object> indexes = list(x, "indexes");
        Object strict = indexes.get(2);
        List<Object> equal = new ArrayList<>(entries(x, 1));
        put(strict, "from", 1);
        put(strict, "entries", equal);
        due("doubles under a key that bars them", x.whole(), false);
    }

    private static void breakAll() throws ReflectiveOperationException {
        for (int key = 0; key < 3; key++) {
            swapEntries(key);
            loseEntry(key);
            doubleEntry(key);
        }
        doubleRecord();
        changeBytes();
        loseRecord();
        leaveOutMore();
        barDoubles();
    }

    public static void main(String[] args) throws ReflectiveOperationException {
        sound();
        try {
            breakAll();
        } catch (NoSuchFieldException heldOtherwise) {
            System.out.println("the state is held otherwise, there is no " + heldOtherwise.getMessage() + ": not broken by hand");
        }
        System.out.println(wrong == 0 ? "all answers are as due" : wrong + " answers are not as due");
        if (wrong != 0) {
            System.exit(1);
        }
    }
}
