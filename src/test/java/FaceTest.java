import java.lang.reflect.Field;
import java.lang.reflect.Method;
import java.lang.reflect.Modifier;
import java.nio.file.Files;
import java.nio.file.Path;
import java.util.ArrayList;
import java.util.Arrays;
import java.util.Collections;
import java.util.HashSet;
import java.util.List;
import java.util.Set;
import java.util.regex.Matcher;
import java.util.regex.Pattern;

/** The public face is the document's, no more and no less; the source keeps to rules of LANGUAGE.md. */
public final class FaceTest {
    private static final String[] FACE = {
        "int row(int,int)", "int lay(int,int,int)", "int at(int,int)", "int tear(int)",
        "int copy(int,int,int,int,int)", "int mean(int)", "int text(int,int)", "int put(int,int,int)",
        "int fault(int)", "int dome(int)", "int light(int,int)", "int mark(int,int)", "int moment()",
        "int turn(int)", "int undo(int)", "int keep(int)", "int on(int)", "int place(int,int)",
        "int gets(int,int)", "int seen(int)", "int stays(int)", "int ahead(int)", "int effort(int)",
        "int follow(int,int,int)", "int turns(int,int)", "int most(int,int,int)", "int by(int,int)",
        "int order(int)", "int kinds(int,int)", "int places(int,int)", "int speeds(int,int)",
        "int fainter(int,int)", "int cloud(int,int)", "int mid(int,int,int)", "int odds(int,int,int)",
        "int lots(int,int)", "int asked()", "long upper()", "long lower()", "int count(int)",
        "int finding()", "int findings(int)", "long digest()"
    };
    private static final String[] FORBIDDEN = {
        "throw", "try", "catch", "synchronized", "assert", "Exact", "System\\.out", "Random", "Thread",
        "hashCode", "toString", "->", "::", "Object", "@"
    };

    private static final Check check = new Check();

    public static void main(String[] args) throws Exception {
        constants();
        Set<String> names = methods();
        otherMembers(names);
        source();
        check.end();
    }

    private static void constants() throws Exception {
        String[] names = {"BAD", "FULL", "FINDING", "STATE", "SPENT", "NONE"};
        int[] values = {-1, -2, -3, -4, -6, -9};
        for (int k = 0; k < names.length; k++) {
            check.due(names[k], DomeSlit.class.getField(names[k]).getInt(null), values[k]);
        }
        check.due("public fields", DomeSlit.class.getFields().length, names.length);
        check.due("constructors", DomeSlit.class.getConstructors().length, 1);
        check.due("all constructors", DomeSlit.class.getDeclaredConstructors().length, 1);
        int modifiers = DomeSlit.class.getModifiers();
        check.holds("public and final", Modifier.isPublic(modifiers) && Modifier.isFinal(modifiers));
    }

    private static Set<String> methods() {
        List<String> face = new ArrayList<>();
        Set<String> names = new HashSet<>();
        for (Method method : DomeSlit.class.getDeclaredMethods()) {
            if (Modifier.isPublic(method.getModifiers())) {
                List<String> types = new ArrayList<>();
                for (Class<?> type : method.getParameterTypes()) {
                    types.add(type.getName());
                }
                face.add(method.getReturnType() + " " + method.getName() + "(" + String.join(",", types) + ")");
                names.add(method.getName());
            }
        }
        List<String> wanted = new ArrayList<>(Arrays.asList(FACE));
        Collections.sort(wanted);
        Collections.sort(face);
        check.holds("face is " + face + ", due is " + wanted, face.equals(wanted));
        return names;
    }

    private static void otherMembers(Set<String> names) {
        for (Method method : DomeSlit.class.getDeclaredMethods()) {
            int modifiers = method.getModifiers();
            check.holds(method + " is public or private", Modifier.isPublic(modifiers) || Modifier.isPrivate(modifiers));
            if (Modifier.isPrivate(modifiers)) {
                check.holds(method + " has a name of its own", !names.contains(method.getName()));
            }
        }
        for (Field field : DomeSlit.class.getDeclaredFields()) {
            int modifiers = field.getModifiers();
            check.holds(field + " is public or private", Modifier.isPublic(modifiers) || Modifier.isPrivate(modifiers));
            check.holds(field + ", if static, is final", !Modifier.isStatic(modifiers) || Modifier.isFinal(modifiers));
        }
        Class<?>[] inside = DomeSlit.class.getDeclaredClasses();
        check.holds("twelve classes at most", inside.length + 1 <= 12);
        for (Class<?> own : inside) {
            check.holds(own + " is static", Modifier.isStatic(own.getModifiers()));
            for (Method method : own.getDeclaredMethods()) {
                check.holds(method + " has a name of its own", !names.contains(method.getName()));
                check.holds(method + " takes seven at most", method.getParameterCount() <= 7);
            }
        }
    }

    private static void source() throws Exception {
        String text = Files.readString(Path.of("src/main/java/DomeSlit.java"));
        for (int k = 0; k < text.length(); k++) {
            if (text.charAt(k) > 127) {
                check.holds("sign " + k + " is plain", false);
            }
        }
        String code = text.replaceAll("(?s)/\\*.*?\\*/", "").replaceAll("//[^\n]*", "");
        for (String word : FORBIDDEN) {
            Matcher found = Pattern.compile(word.matches("\\w+") ? "\\b" + word : word).matcher(code);
            check.holds(word + " is not used", !found.find());
        }
        Matcher imports = Pattern.compile("import ([\\w.]+);").matcher(code);
        while (imports.find()) {
            check.holds(imports.group(1) + " may be used", imports.group(1).equals("java.util.Arrays"));
        }
        shortMethods(code);
    }

    private static void shortMethods(String code) {
        int start = -1;
        String[] lines = code.split("\n");
        String closing = "";
        for (int k = 0; k < lines.length; k++) {
            String bare = lines[k].strip();
            if (start < 0 && bare.endsWith(") {") && lines[k].matches("( {4}| {8})(public|private|static|[a-z]).*")
                    && !bare.matches("(for|if|while|switch) .*")) {
                start = k;
                closing = lines[k].substring(0, lines[k].indexOf(bare)) + "}";
            } else if (start >= 0 && lines[k].equals(closing)) {
                check.holds("the method at line " + start + " is short", k - start <= 60);
                start = -1;
            }
        }
    }
}
