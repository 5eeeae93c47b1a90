import java.lang.reflect.Constructor;
import java.lang.reflect.Field;
import java.lang.reflect.Method;
import java.lang.reflect.Modifier;
import java.util.Set;
import java.util.TreeSet;

/** The public face: just the constants, the constructor and the methods that the document names. */
public final class FaceTest {
    private static int wrong = 0;

    private static void due(String what, Object got, Object want) {
        if (!want.equals(got)) {
            wrong++;
            System.out.println(what + " is " + got + ", due is " + want);
        }
    }

    public static void main(String[] args) throws Exception {
        due("final", Modifier.isFinal(FarScreen.class.getModifiers()), true);
        due("constants", constants(), new TreeSet<>(Set.of("NONE=-1", "LETTER=0", "PICTURE=1", "FILM=2",
            "MOVE=0", "KNOWN=1", "ROUGH=2", "WHOLE=3")));
        due("constructors", constructors(), new TreeSet<>(Set.of("public FarScreen()")));
        String index = " throws java.lang.IndexOutOfBoundsException";
        String argument = " throws java.lang.IllegalArgumentException";
        String both = index + ",java.lang.IllegalArgumentException";
        due("methods", methods(), new TreeSet<>(Set.of(
            "public int FarScreen.fill(int,int,int,int,int)" + both,
            "public int FarScreen.move(int,int,int,int,int,int)" + both,
            "public int FarScreen.look(int,int)" + index,
            "public int FarScreen.step(int)" + argument,
            "public int FarScreen.time()",
            "public int FarScreen.near(int,int)" + index,
            "public int FarScreen.far(int,int)" + index,
            "public int FarScreen.kind(int,int)" + index,
            "public int FarScreen.since(int,int)" + index,
            "public long FarScreen.unlike()",
            "public int FarScreen.rough()",
            "public int FarScreen.waiting()",
            "public int FarScreen.known(int)" + index,
            "public int FarScreen.knownPictures()",
            "public int FarScreen.sent(int)" + argument,
            "public int FarScreen.used()",
            "public int FarScreen.anew()",
            "public int FarScreen.stepsToGo(int)" + argument)));
        System.out.println(wrong == 0 ? "the face is as due" : wrong + " parts of the face are not as due");
        if (wrong != 0) System.exit(1);
    }

    private static Set<String> constants() throws Exception {
        Set<String> found = new TreeSet<>();
        for (Field field : FarScreen.class.getDeclaredFields()) {
            if (Modifier.isPrivate(field.getModifiers())) continue;
            due(field.getName() + " is a public static final int",
                field.getModifiers() + " " + field.getType(),
                (Modifier.PUBLIC | Modifier.STATIC | Modifier.FINAL) + " int");
            found.add(field.getName() + "=" + field.getInt(null));
        }
        return found;
    }

    private static Set<String> constructors() {
        Set<String> found = new TreeSet<>();
        for (Constructor<?> constructor : FarScreen.class.getDeclaredConstructors()) {
            if (!Modifier.isPrivate(constructor.getModifiers())) found.add(constructor.toString());
        }
        return found;
    }

    private static Set<String> methods() {
        Set<String> found = new TreeSet<>();
        for (Method method : FarScreen.class.getDeclaredMethods()) {
            if (!Modifier.isPrivate(method.getModifiers())) found.add(method.toString());
        }
        return found;
    }
}
