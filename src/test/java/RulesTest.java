import java.io.IOException;
import java.lang.reflect.Constructor;
import java.lang.reflect.Field;
import java.lang.reflect.Method;
import java.lang.reflect.Modifier;
import java.nio.file.Files;
import java.nio.file.Path;
import java.util.ArrayList;
import java.util.Arrays;
import java.util.HashSet;
import java.util.List;
import java.util.Set;
import java.util.regex.Matcher;
import java.util.regex.Pattern;

/** The document's public face, and what LANGUAGE.md forbids, as far as it can be seen in the source. */
public final class RulesTest {
    private static final Due due = new Due();
    private static final String FACE = "feed:int(int,int,int,int,int) cave:int(int) fault:int(int) pair:int(int,int) "
            + "grown:int(int,int,int) leadings:int() year:int(int) lead:int(int) saw:int(int) chalk:int(int,int) "
            + "undo:int(int) judge:int(int,int) perform:int(int) age:int(int,int) lies:int(int,int) meets:int(int) "
            + "order:int(int) falls:int() moved:int(int,int,int) soonest:int(int) way:int(int,int) rows:long(int,int) "
            + "most:int() holding:int() felling:int() stands:int() seen:int(int,int) seenDry:int(int,int,int) "
            + "surely:int(int,int,int) chalks:int(int,int) attempt:int(int,int) forces:int(int) best:int(int) "
            + "chance:int(int,int,int) mean:int(int,int,int) fallen:int(int,int) numbers:int(int,int,int) "
            + "write:long(int,int,long) lists:int(int,int) image:int(int) restore:int(int) count:int(int)";

    public static void main(String[] args) throws IOException {
        face();
        members();
        source();
        due.end("RulesTest");
    }

    private static void face() {
        Set<String> due1 = new HashSet<>(Arrays.asList(FACE.split(" ")));
        Set<String> found = new HashSet<>();
        for (Method m : StoneMeet.class.getDeclaredMethods()) {
            List<String> types = new ArrayList<>();
            for (Class<?> type : m.getParameterTypes()) {
                types.add(type.getName());
            }
            if (!Modifier.isPrivate(m.getModifiers())) {
                found.add(m.getName() + ":" + m.getReturnType() + "(" + String.join(",", types) + ")");
                due.is(m.getName() + " is public", m.getModifiers() & ~Modifier.FINAL, Modifier.PUBLIC);
            }
        }
        due1.forEach(call -> due.is("the face has " + call, found.contains(call) ? 1 : 0, 1));
        due.is("calls of the face", found.size(), 42);
        due.is("public and final", StoneMeet.class.getModifiers(), Modifier.PUBLIC | Modifier.FINAL);
        Constructor<?>[] made = StoneMeet.class.getDeclaredConstructors();
        due.is("constructors", made.length, 1);
        due.is("public, without arguments", made[0].getModifiers() + made[0].getParameterCount(), Modifier.PUBLIC);
        for (Field f : StoneMeet.class.getDeclaredFields()) {
            boolean shown = !Modifier.isPrivate(f.getModifiers());
            due.is("field " + f.getName() + " is shown", shown ? 1 : 0, f.getName().equals("NONE") ? 1 : 0);
        }
    }

    /** Rules 1, 2, 5 and 11, of the class and of those inside it. */
    private static void members() {
        Set<String> names = new HashSet<>();
        for (String call : FACE.split(" ")) {
            names.add(call.substring(0, call.indexOf(':')));
        }
        List<Class<?>> all = new ArrayList<>(List.of(StoneMeet.class));
        all.addAll(Arrays.asList(StoneMeet.class.getDeclaredClasses()));
        due.is("some twelve classes", all.size() <= 12 ? 1 : 0, 1);
        for (Class<?> c : all) {
            due.is(c + " is static", c == StoneMeet.class || Modifier.isStatic(c.getModifiers()) ? 1 : 0, 1);
            int fields = 0;
            for (Field f : c.getDeclaredFields()) {
                boolean constant = Modifier.isStatic(f.getModifiers());
                fields += constant ? 0 : 1;
                due.is(c + " " + f.getName() + " is final", !constant || Modifier.isFinal(f.getModifiers()) ? 1 : 0, 1);
            }
            due.is(c + " has some twenty fields", fields <= 20 ? 1 : 0, 1);
            for (Method m : c.getDeclaredMethods()) {
                due.is(c + " " + m.getName() + " takes seven", m.getParameterCount() <= 7 ? 1 : 0, 1);
                boolean hidden = c != StoneMeet.class || Modifier.isPrivate(m.getModifiers());
                due.is(c + " " + m.getName() + " has a public name", hidden && names.contains(m.getName()) ? 1 : 0, 0);
            }
        }
    }

    private static void source() throws IOException {
        String text = Files.readString(Path.of("src/main/java/StoneMeet.java"));
        String code = text.replaceAll("(?s)/\\*.*?\\*/", "").replaceAll("//[^\n]*", "");
        String[] forbidden = {
            "\\bthrow\\b", "\\btry\\b", "\\bcatch\\b", "\\bfinally\\b", "\\bsynchronized\\b", "\\bassert\\b", "\\bpackage\\b",
            "->", "::", "\\bvar\\b", "\\bprotected\\b", "Exact\\b", "\\bSystem\\.(?!arraycopy)", "\\bRandom\\b", "\\bThread\\b",
            "\\.equals\\(", "\\bhashCode\\b", "\\btoString\\b", "\\bObject\\b", "\\bextends\\b", "static \\{", "\\bnative\\b",
            "\\bdouble\\b", "\\bfloat\\b", "\\bnew [A-Za-z]+\\(\\) \\{",
        };
        for (String sign : forbidden) {
            Matcher found = Pattern.compile(sign).matcher(code);
            due.is("the source has " + sign, found.find() ? 1 : 0, 0);
        }
        Matcher imports = Pattern.compile("import ([a-zA-Z.*]+);").matcher(code);
        while (imports.find()) {
            due.is("import " + imports.group(1), imports.group(1).equals("java.util.Arrays") ? 1 : 0, 1);
        }
        due.is("all signs are plain", text.chars().allMatch(c -> c == '\n' || c >= 32 && c < 127) ? 1 : 0, 1);
        lengths(code);
    }

    /** Rule 11: methods of some sixty lines. */
    private static void lengths(String code) {
        String[] lines = code.split("\n");
        int start = -1;
        String indent = "";
        for (int i = 0; i < lines.length; i++) {
            Matcher head = Pattern.compile("^( {4}| {8})[a-zA-Z].*\\) \\{$").matcher(lines[i]);
            if (head.find()) {
                start = i;
                indent = head.group(1);
            } else if (start >= 0 && lines[i].equals(indent + "}")) {
                due.is("some sixty lines:" + lines[start], i - start < 60 ? 1 : 0, 1);
                start = -1;
            }
        }
    }
}
