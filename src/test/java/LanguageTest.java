import java.io.IOException;
import java.lang.reflect.Constructor;
import java.lang.reflect.Field;
import java.lang.reflect.Method;
import java.lang.reflect.Modifier;
import java.nio.file.Files;
import java.nio.file.Path;
import java.util.Arrays;
import java.util.TreeSet;
import java.util.regex.Pattern;

/** The face of the class, and the rules of LANGUAGE.md that can be seen by words; the path of the source is args[0]. */
public final class LanguageTest {
    private static final Checks C = new Checks("LanguageTest");
    private static final String[] FACE = {"set 2", "setting 1", "come 2", "fetch 1", "refuse 1", "move 2", "pass 1",
        "call 1", "day 0", "parcel 2", "codeAt 2", "shelf 2", "sender 2", "total 1", "refusal 1", "isCode 1",
        "codeOf 3", "restsUntil 1", "nextCode 1", "feeIn 2", "goesIn 1", "chargesIn 1", "append 1", "clearText 0",
        "errorPosition 0", "execute 0", "undo 0", "save 0", "restore 0"};
    private static final String[] CONSTANTS = {"NO_SUCH", "BAD_VALUE", "NOT_POSSIBLE", "LIMIT", "BAD_TEXT", "NONE",
        "WRONG"};
    private static final String[] BANNED = {"\\bthrow\\b", "\\btry\\b", "\\bcatch\\b", "\\bsynchronized\\b",
        "\\bassert\\b", "->", "::", "\\bstatic\\s*\\{", "\\bpackage\\b", "\\bSystem\\.(?!arraycopy)", "\\bObject\\b",
        "\\bequals\\b", "\\bhashCode\\b", "\\btoString\\b", "Exact\\b", "\\bnative\\b", "\\bvolatile\\b", "\\bthread"};

    public static void main(String[] args) throws IOException {
        face();
        String source = Files.readString(Path.of(args[0]));
        String code = source.replaceAll("(?s)/\\*.*?\\*/", "").replaceAll("//[^\n]*", "");
        for (String banned : BANNED) {
            C.due("uses of " + banned, Pattern.compile(banned).matcher(code).find() ? 1 : 0, 0);
        }
        for (String line : code.split("\n")) {
            if (line.startsWith("import ")) {
                C.due(line, line.matches("import java\\.util\\.(Arrays|ArrayList|List|Iterator);") ? 1 : 0, 1);
            }
        }
        C.end();
    }

    private static void face() {
        TreeSet<String> methods = new TreeSet<>(Arrays.asList(FACE));
        TreeSet<String> names = new TreeSet<>();
        for (String method : FACE) {
            names.add(method.split(" ")[0]);
        }
        int met = 0;
        for (Method method : ParcelShelves.class.getDeclaredMethods()) {
            String name = method.getName();
            if (!Modifier.isPrivate(method.getModifiers())) {
                met++;
                C.due(name + " is of the face", methods.contains(name + " " + method.getParameterCount()) ? 1 : 0, 1);
            } else {
                C.due(name + " bears the name of a public one", names.contains(name) ? 1 : 0, 0);
            }
        }
        C.due("public methods", met, FACE.length);
        int constants = 0;
        for (Field field : ParcelShelves.class.getDeclaredFields()) {
            if (!Modifier.isPrivate(field.getModifiers())) {
                constants++;
                C.due(field.getName() + " is of the face",
                        Arrays.asList(CONSTANTS).contains(field.getName()) ? 1 : 0, 1);
            }
        }
        C.due("constants", constants, CONSTANTS.length);
        Constructor<?>[] constructors = ParcelShelves.class.getDeclaredConstructors();
        C.due("constructors", constructors.length, 1);
        C.due("parameters of the constructor", constructors[0].getParameterCount(), 0);
        C.due("final", Modifier.isFinal(ParcelShelves.class.getModifiers()) ? 1 : 0, 1);
    }
}
