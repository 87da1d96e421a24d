import java.lang.reflect.Method;
import java.lang.reflect.Modifier;
import java.util.Arrays;
import java.util.Set;
import java.util.TreeSet;
import java.util.stream.Collectors;

/** The public face: the document's constants, constructor and methods, and no other. */
public final class FaceTest {
    private static final Set<String> METHODS = new TreeSet<>(Set.of(
        "boolean base[char]", "int clear[]", "int most[]", "int least[]", "int ways[]", "int list[int]",
        "int energyOf[int]", "int at[int, int]", "int take[int]", "boolean type[char]", "int read[]",
        "int energy[]", "int partner[int]", "int loop[int]"));

    public static void main(String[] args) {
        Check check = new Check();
        Class<FoldedStrand> face = FoldedStrand.class;
        check.due("BAD", FoldedStrand.BAD, -1);
        check.due("FULL", FoldedStrand.FULL, -2);
        check.due("public and final", face.getModifiers(), Modifier.PUBLIC | Modifier.FINAL);
        check.due("methods", methods(face).toString(), METHODS.toString());
        check.due("constants",
            Arrays.stream(face.getDeclaredFields()).filter(f -> !Modifier.isPrivate(f.getModifiers()))
            .map(f -> f.toString()).sorted().collect(Collectors.joining(", ")),
            "public static final int FoldedStrand.BAD, public static final int FoldedStrand.FULL");
        check.due("constructors", Arrays.toString(face.getDeclaredConstructors()), "[public FoldedStrand()]");
        Set<String> names = METHODS.stream().map(m -> m.replaceAll(".* |\\[.*", "")).collect(Collectors.toSet());
        check.due("private methods with a public name",
            Arrays.stream(face.getDeclaredMethods()).filter(m -> Modifier.isPrivate(m.getModifiers()))
            .filter(m -> names.contains(m.getName())).count(), 0);
        check.finish();
    }

    private static Set<String> methods(Class<?> face) {
        Set<String> found = new TreeSet<>();
        for (Method method : face.getDeclaredMethods()) {
            if (!Modifier.isPrivate(method.getModifiers())) {
                found.add(method.getReturnType() + " " + method.getName()
                    + Arrays.toString(method.getParameterTypes()));
            }
        }
        return found;
    }
}
