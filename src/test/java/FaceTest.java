import java.lang.reflect.Constructor;
import java.lang.reflect.Field;
import java.lang.reflect.Method;
import java.lang.reflect.Modifier;
import java.util.Set;
import java.util.TreeSet;

/** The public face is the document's, and nothing else can be reached from outside. */
public final class FaceTest {
    private static final String INDEX = " throws java.lang.IndexOutOfBoundsException";
    private static final String ARGUMENT = "java.lang.IllegalArgumentException";
    private static final String STATE = "java.lang.IllegalStateException";

    public static void main(String[] args) {
        Check check = new Check();
        check.due("class is public and final", Modifier.toString(ResidueUnit.class.getModifiers()), "public final");
        check.due("public methods", reachableMethods(), documentedMethods());
        check.due("constructors", constructors(), Set.of("public ResidueUnit()"));
        privateMethodsHaveOwnNames(check);
        fieldsArePrivate(check);
        nestedClassesAreHidden(check);
        check.finish();
    }

    private static Set<String> documentedMethods() {
        Set<String> face = new TreeSet<>();
        face.add("public void ResidueUnit.load(int,long)" + INDEX + "," + ARGUMENT);
        face.add("public long ResidueUnit.binary(int)" + INDEX + "," + STATE);
        face.add("public void ResidueUnit.work(int,int,int,int)" + INDEX + "," + ARGUMENT);
        face.add("public int ResidueUnit.compare(int,int)" + INDEX);
        face.add("public void ResidueUnit.scale(int,int,int,boolean)" + INDEX + "," + ARGUMENT);
        face.add("public void ResidueUnit.divide(int,int,int,int)" + INDEX + ",java.lang.ArithmeticException");
        face.add("public int ResidueUnit.channel(int,int)" + INDEX);
        face.add("public int ResidueUnit.inject(int,int,int)" + INDEX);
        face.add("public int ResidueUnit.verify(int)" + INDEX);
        face.add("public int ResidueUnit.repair(int)" + INDEX + "," + STATE);
        face.add("public boolean ResidueUnit.sure(int)" + INDEX);
        face.add("public long ResidueUnit.bound(int,int)" + INDEX + "," + ARGUMENT + "," + STATE);
        face.add("public void ResidueUnit.instruct(int,int,int,int,int)" + INDEX + "," + ARGUMENT);
        face.add("public int ResidueUnit.run(int) throws " + ARGUMENT);
        face.add("public int ResidueUnit.stopped()");
        return face;
    }

    private static Set<String> reachableMethods() {
        Set<String> names = new TreeSet<>();
        for (Method method : ResidueUnit.class.getDeclaredMethods()) {
            if (!Modifier.isPrivate(method.getModifiers())) {
                names.add(method.toString());
            }
        }
        return names;
    }

    private static Set<String> constructors() {
        Set<String> names = new TreeSet<>();
        for (Constructor<?> constructor : ResidueUnit.class.getDeclaredConstructors()) {
            names.add(constructor.toString());
        }
        return names;
    }

    private static void privateMethodsHaveOwnNames(Check check) {
        Set<String> names = new TreeSet<>();
        for (Method method : ResidueUnit.class.getMethods()) {
            names.add(method.getName());
        }
        for (Method method : ResidueUnit.class.getDeclaredMethods()) {
            if (Modifier.isPrivate(method.getModifiers())) {
                check.due(method + " bears the name of a public one", names.contains(method.getName()), false);
            }
        }
    }

    private static void fieldsArePrivate(Check check) {
        for (Field field : ResidueUnit.class.getDeclaredFields()) {
            int modifiers = field.getModifiers();
            check.due(field + " is private", Modifier.isPrivate(modifiers), true);
            check.due(field + " is final if static", !Modifier.isStatic(modifiers) || Modifier.isFinal(modifiers), true);
        }
    }

    private static void nestedClassesAreHidden(Check check) {
        for (Class<?> nested : ResidueUnit.class.getDeclaredClasses()) {
            int modifiers = nested.getModifiers();
            check.due(nested + " is static", Modifier.isStatic(modifiers), true);
            check.due(nested + " is hidden", Modifier.isPublic(modifiers) || Modifier.isProtected(modifiers), false);
        }
    }
}
