import java.lang.reflect.Constructor;
import java.lang.reflect.Field;
import java.lang.reflect.Method;
import java.lang.reflect.Modifier;
import java.util.Arrays;
import java.util.List;
import java.util.Set;
import java.util.TreeSet;

/** The class shows the document's face and no other member. */
public final class Face {
    private static final List<String> DUE = List.of(
            "public static final int NumberBench.REFUSED",
            "public NumberBench()",
            "public int NumberBench.keep(int,long)",
            "public long NumberBench.reckon(int,int,int,int)",
            "public long NumberBench.whole(int,int,long)",
            "public long NumberBench.cast(int,int)",
            "public int NumberBench.compare(int,int)",
            "public long NumberBench.horner(int)",
            "public int NumberBench.single(int)",
            "public long NumberBench.fromSingle(int,int)",
            "public long NumberBench.sum(int)");

    private static int wrong = 0;

    public static void main(String[] args) {
        Set<String> shown = new TreeSet<>();
        Set<String> publicNames = new TreeSet<>();
        Set<String> hiddenNames = new TreeSet<>();
        for (Field field : NumberBench.class.getDeclaredFields()) {
            show(shown, field.getModifiers(), field.toString(), field.isSynthetic());
        }
        for (Constructor<?> constructor : NumberBench.class.getDeclaredConstructors()) {
            show(shown, constructor.getModifiers(), constructor.toString(), constructor.isSynthetic());
        }
        for (Method method : NumberBench.class.getDeclaredMethods()) {
            show(shown, method.getModifiers(), method.toString(), method.isSynthetic());
            (Modifier.isPrivate(method.getModifiers()) ? hiddenNames : publicNames).add(method.getName());
        }
        hiddenNames.retainAll(publicNames);
        due("the face", shown, new TreeSet<>(DUE));
        due("private names that are public, too", hiddenNames, Set.of());
        due("the class", Modifier.toString(NumberBench.class.getModifiers()), "public final");
        due("fields that change and are static", changingStatics(), List.of());
        System.out.println(wrong == 0 ? "all answers are as due" : wrong + " answers are not as due");
        if (wrong != 0) {
            System.exit(1);
        }
    }

    private static void show(Set<String> shown, int modifiers, String text, boolean synthetic) {
        if (!synthetic && !Modifier.isPrivate(modifiers)) {
            shown.add(text);
        }
    }

    private static List<String> changingStatics() {
        return Arrays.stream(NumberBench.class.getDeclaredFields())
                .filter(field -> Modifier.isStatic(field.getModifiers()) && !Modifier.isFinal(field.getModifiers()))
                .map(Field::toString)
                .toList();
    }

    private static void due(String what, Object got, Object want) {
        if (!got.equals(want)) {
            wrong++;
            System.out.println(what + ": " + got + ", due is " + want);
        }
    }
}
