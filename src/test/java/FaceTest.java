import java.io.IOException;
import java.lang.reflect.Constructor;
import java.lang.reflect.Field;
import java.lang.reflect.Method;
import java.lang.reflect.Modifier;
import java.nio.file.Files;
import java.nio.file.Path;
import java.util.ArrayList;
import java.util.Arrays;
import java.util.List;
import java.util.TreeSet;
import java.util.regex.Matcher;
import java.util.regex.Pattern;

/** The public face is that of the document, and nothing else of the class can be reached. */
public final class FaceTest {
    private static final String INDEX = "IndexOutOfBoundsException";
    private static final String ARGUMENT = "IllegalArgumentException";
    private static final String STATE = "IllegalStateException";

    private static final String[] FACE = {
        "int addWater 7 " + ARGUMENT + " " + STATE,
        "int sea 3 " + INDEX,
        "int setWind 2 " + ARGUMENT,
        "int addBarrel 4 " + ARGUMENT + " " + STATE,
        "int tie 3 " + INDEX + " " + ARGUMENT + " " + STATE,
        "int cut 2 " + INDEX + " " + STATE,
        "int load 2 " + INDEX + " " + ARGUMENT + " " + STATE,
        "int barrel 2 " + INDEX,
        "int lashing 3 " + INDEX,
        "int addCastaway 1 " + INDEX + " " + STATE,
        "int go 2 " + INDEX + " " + STATE,
        "int bail 1 " + INDEX + " " + STATE,
        "int castaway 2 " + INDEX,
        "int pass 1 " + ARGUMENT,
        "int count 1 " + INDEX,
        "int firm 2 " + INDEX,
        "int hold 2 " + INDEX,
        "int piece 2 " + INDEX,
        "int foresee 2 " + ARGUMENT + " " + INDEX,
        "int advise 1 " + ARGUMENT,
        "double spare 0",
        "long digest 0",
    };

    /** The face as it is written: what the interface says ahead of its calls, and the calls. */
    private static final String[] WRITTEN = {
        "---- the sea", "addWater", "sea", "setWind",
        "---- barrels and lashings", "addBarrel", "tie", "cut", "load", "barrel", "lashing",
        "---- castaways", "addCastaway", "go", "bail", "castaway",
        "---- hours", "pass", "count",
        "---- how firmly, and what will be", "firm", "hold", "piece", "foresee", "advise", "spare", "digest",
    };

    public static void main(String[] args) throws IOException {
        TreeSet<String> due = new TreeSet<>(Arrays.asList(FACE));
        TreeSet<String> found = new TreeSet<>();
        for (Method method : BarrelRaft.class.getDeclaredMethods()) {
            if (!Modifier.isPrivate(method.getModifiers()) && !method.isSynthetic()) {
                found.add(told(method));
            }
        }
        for (Field field : BarrelRaft.class.getDeclaredFields()) {
            if (!Modifier.isPrivate(field.getModifiers())) {
                found.add("field " + field.getName());
            }
        }
        Constructor<?>[] made = BarrelRaft.class.getDeclaredConstructors();
        boolean one = made.length == 1 && made[0].getParameterCount() == 0
                && Modifier.isPublic(made[0].getModifiers());
        int modifiers = BarrelRaft.class.getModifiers();
        boolean fine = Modifier.isPublic(modifiers) && Modifier.isFinal(modifiers);
        List<String> written = written(Path.of("src/main/java/BarrelRaft.java"));
        System.out.println("FaceTest: " + found.size() + " members");
        if (!one || !fine || !found.equals(due)) {
            System.out.println("found " + found + "\ndue is " + due);
            System.exit(1);
        }
        if (!written.equals(Arrays.asList(WRITTEN))) {
            System.out.println("written " + written + "\ndue is " + Arrays.asList(WRITTEN));
            System.exit(1);
        }
    }

    private static List<String> written(Path source) throws IOException {
        List<String> written = new ArrayList<>();
        Pattern pattern = Pattern.compile("^    (?:// (---- .*)|public (?:int|long|double) (\\w+)\\(.*)$");
        for (String line : Files.readAllLines(source)) {
            Matcher matcher = pattern.matcher(line);
            if (matcher.matches()) {
                written.add(matcher.group(1) != null ? matcher.group(1) : matcher.group(2));
            }
        }
        // The last one is the program's own, behind the face.
        written.remove("---- what the calls above share");
        return written;
    }

    private static String told(Method method) {
        StringBuilder text = new StringBuilder();
        text.append(Modifier.isPublic(method.getModifiers()) ? "" : "not public ");
        text.append(Modifier.isStatic(method.getModifiers()) ? "static " : "");
        text.append(method.getReturnType()).append(' ').append(method.getName());
        text.append(' ').append(method.getParameterCount());
        for (Class<?> type : method.getParameterTypes()) {
            text.append(type == int.class ? "" : " wrong " + type);
        }
        for (Class<?> type : method.getExceptionTypes()) {
            text.append(' ').append(type.getSimpleName());
        }
        return text.toString();
    }
}
