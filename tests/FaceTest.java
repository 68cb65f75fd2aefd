import java.io.IOException;
import java.lang.reflect.Constructor;
import java.lang.reflect.Executable;
import java.lang.reflect.Field;
import java.lang.reflect.Method;
import java.lang.reflect.Modifier;
import java.nio.file.Files;
import java.nio.file.Path;
import java.util.HashSet;
import java.util.Set;
import java.util.TreeSet;

/** The class shows the document's face and nothing else, and its source keeps to what LANGUAGE.md leaves. */
public final class FaceTest {
    private static final String INDEX = " IndexOutOfBoundsException";
    private static final String ARGUMENT = " IllegalArgumentException";
    private static final String STATE = " IllegalStateException";
    private static final String[] FACE = {
        "MeanderFarm()",
        "int setHardness(int,int,int)" + ARGUMENT + INDEX,
        "int setStones(int,int,boolean)" + INDEX,
        "int setFlow(int,int)" + ARGUMENT + INDEX,
        "int cell(int,int,int)" + INDEX,
        "int course(int,int)" + INDEX,
        "int slip(int,int)" + ARGUMENT + STATE + INDEX,
        "int dig(int,int)" + STATE + INDEX,
        "int neck(int)" + INDEX,
        "int addFarm(int,int,int,int)" + ARGUMENT + STATE,
        "int farm(int,int)" + INDEX,
        "int pass(int)" + ARGUMENT,
        "int count(int)" + INDEX,
        "int foresee(int,int)" + ARGUMENT + INDEX,
        "int loses(int)" + INDEX,
        "int advise(int,int)" + ARGUMENT + INDEX,
        "double winding()",
        "long digest()",
    };
    private static final String[] RULED_OUT = {"->", "::", "synchronized", "assert", "finally", "try", "catch",
        "package ", "import ", "Object", "instanceof", "@", "protected", "interface", "var ", "native", "throw e",
        "Exact(", "System.out", "System.nano", "System.current", "Random", "hashCode", "equals", "toString", "while"};
    private static int wrong = 0;

    public static void main(String[] args) throws IOException {
        faceOf(MeanderFarm.class);
        membersOf(MeanderFarm.class);
        for (Class<?> inside : MeanderFarm.class.getDeclaredClasses()) {
            due(Modifier.isStatic(inside.getModifiers()) && !Modifier.isPublic(inside.getModifiers()),
                    inside + " is static, and not public");
            membersOf(inside);
        }
        source(Files.readString(Path.of("src/main/java/MeanderFarm.java")));
        System.out.println(wrong == 0 ? "the face is as due" : wrong + " wrong");
        if (wrong != 0) {
            System.exit(1);
        }
    }

    private static void due(boolean holds, String what) {
        if (!holds) {
            wrong++;
            System.out.println("not so: " + what);
        }
    }

    private static String told(Executable one, String head) {
        StringBuilder text = new StringBuilder(head).append('(');
        for (Class<?> type : one.getParameterTypes()) {
            text.append(text.charAt(text.length() - 1) == '(' ? "" : ",").append(type.getName());
        }
        text.append(')');
        Set<String> thrown = new TreeSet<>();
        for (Class<?> type : one.getExceptionTypes()) {
            thrown.add(type.getSimpleName());
        }
        for (String name : thrown) {
            text.append(' ').append(name);
        }
        return text.toString();
    }

    private static void faceOf(Class<?> face) {
        Set<String> shown = new TreeSet<>();
        Set<String> hidden = new HashSet<>();
        Set<String> names = new HashSet<>();
        for (Method method : face.getDeclaredMethods()) {
            if (Modifier.isPrivate(method.getModifiers())) {
                hidden.add(method.getName());
            } else {
                shown.add(told(method, method.getReturnType().getName() + " " + method.getName()));
                names.add(method.getName());
                due(Modifier.isPublic(method.getModifiers()), method + " is public");
            }
        }
        for (Constructor<?> constructor : face.getDeclaredConstructors()) {
            shown.add(told(constructor, face.getName()));
            due(Modifier.isPublic(constructor.getModifiers()), constructor + " is public");
        }
        Set<String> want = new TreeSet<>(Set.of(FACE));
        due(shown.equals(want), "the face is\n" + want + "\nbut it is\n" + shown);
        hidden.retainAll(names);
        due(hidden.isEmpty(), "private methods bear no public name: " + hidden);
        int modifiers = face.getModifiers();
        due(Modifier.isPublic(modifiers) && Modifier.isFinal(modifiers), "the class is public and final");
        due(face.getSuperclass() == Object.class && face.getInterfaces().length == 0, "it stands alone");
    }

    private static void membersOf(Class<?> one) {
        int fields = 0;
        for (Field field : one.getDeclaredFields()) {
            int modifiers = field.getModifiers();
            due(Modifier.isPrivate(modifiers), field + " is private");
            due(!Modifier.isStatic(modifiers) || Modifier.isFinal(modifiers), field + " is final if it is static");
            fields += Modifier.isStatic(modifiers) ? 0 : 1;
        }
        due(fields <= 20, one + " has at most 20 fields");
        for (Method method : one.getDeclaredMethods()) {
            due(method.getParameterCount() <= 7, method + " takes at most seven parameters");
        }
    }

    private static void source(String text) {
        String code = text.replaceAll("(?s)/\\*.*?\\*/", "").replaceAll("//[^\n]*", "").replaceAll("\"[^\"\n]*\"", "\"\"");
        for (String word : RULED_OUT) {
            due(!code.contains(word), "the source has no '" + word + "'");
        }
        due(!code.contains("\"\" +") && !code.contains("+ \"\""), "no text is joined by +");
        due(text.chars().allMatch(c -> c < 128), "all signs are plain ones");
    }
}
