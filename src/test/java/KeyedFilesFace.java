import java.lang.reflect.Constructor;
import java.lang.reflect.Field;
import java.lang.reflect.Method;
import java.lang.reflect.Modifier;
import java.util.Arrays;
import java.util.Set;
import java.util.TreeSet;

/** What the class shows is the document's face, and nothing more. */
public final class KeyedFilesFace {
    private static final String[] DUE = {
        "public static final int NONE",
        "public KeyedFiles()",
        "public int key(boolean, boolean, int, int)",
        "public int sparse(int, long)",
        "public int view()",
        "public int open(int, int, int)",
        "public int close(int)",
        "public int write(int, long)",
        "public int read(int, int, long)",
        "public long value(int)",
        "public int start(int, int, int, long, int)",
        "public int next(int, boolean)",
        "public int rewrite(int, long)",
        "public int remove(int, long)",
        "public long scan(int, int)",
        "public int reference(int)",
        "public int count(int)",
        "public boolean whole()"
    };

    private static String parameters(Class<?>[] types) {
        StringBuilder text = new StringBuilder("(");
        for (Class<?> type : types) {
            text.append(text.length() > 1 ? ", " : "").append(type.getSimpleName());
        }
        return text.append(")").toString();
    }

    private static boolean isShown(int modifiers) {
        return !Modifier.isPrivate(modifiers);
    }

    private static String typed(int modifiers, Class<?> type, String rest) {
        return Modifier.toString(modifiers) + " " + type.getSimpleName() + " " + rest;
    }

    private static Set<String> shown() {
        Set<String> all = new TreeSet<>();
        for (Field field : KeyedFiles.class.getDeclaredFields()) {
            if (isShown(field.getModifiers())) {
                all.add(typed(field.getModifiers(), field.getType(), field.getName()));
            }
        }
        for (Constructor<?> made : KeyedFiles.class.getDeclaredConstructors()) {
            if (isShown(made.getModifiers())) {
                all.add(Modifier.toString(made.getModifiers()) + " KeyedFiles" + parameters(made.getParameterTypes()));
            }
        }
        for (Method method : KeyedFiles.class.getDeclaredMethods()) {
            if (isShown(method.getModifiers())) {
                String rest = method.getName() + parameters(method.getParameterTypes());
                all.add(typed(method.getModifiers(), method.getReturnType(), rest));
            }
        }
        return all;
    }

    private static int privateNamesThatArePublic() {
        Set<String> names = new TreeSet<>();
        for (Method method : KeyedFiles.class.getMethods()) {
            names.add(method.getName());
        }
        int wrong = 0;
        for (Method method : KeyedFiles.class.getDeclaredMethods()) {
            if (!isShown(method.getModifiers()) && names.contains(method.getName())) {
                wrong++;
                System.out.println("a private method bears a public one's name: " + method.getName());
            }
        }
        return wrong;
    }

    public static void main(String[] args) {
        int wrong = privateNamesThatArePublic();
        Set<String> due = new TreeSet<>(Arrays.asList(DUE));
        Set<String> shown = shown();
        if (!shown.equals(due)) {
            wrong++;
            System.out.println("the face is " + shown + ", due is " + due);
        }
        if (KeyedFiles.NONE != -1) {
            wrong++;
            System.out.println("NONE is " + KeyedFiles.NONE);
        }
        if (KeyedFiles.class.getModifiers() != (Modifier.PUBLIC | Modifier.FINAL)) {
            wrong++;
            System.out.println("the class is " + Modifier.toString(KeyedFiles.class.getModifiers()));
        }
        System.out.println(wrong == 0 ? "the face is as due" : wrong + " faults in the face");
        if (wrong != 0) {
            System.exit(1);
        }
    }
}
