import java.io.IOException;
import java.lang.reflect.Constructor;
import java.lang.reflect.Field;
import java.lang.reflect.Method;
import java.lang.reflect.Modifier;
import java.nio.charset.StandardCharsets;
import java.nio.file.Files;
import java.nio.file.Path;
import java.util.ArrayList;
import java.util.Arrays;
import java.util.List;
import java.util.Set;
import java.util.TreeSet;
import java.util.regex.Matcher;
import java.util.regex.Pattern;

/** What of LANGUAGE.md, and of the face that the document tells, can be seen from outside the class. */
public final class LanguageTests {
    private static final String FACE = "copy(int,int,int,int,int):int count(int):int drain(int,boolean):int drop(int):int "
            + "film(int,int,int):int frost(int):int game(int,int,int,int,int,int,int):int image():int "
            + "item(int,int,int,long):int least(int,int,int,int):int marsh():int moss(int):int of(int,int):int parts():int "
            + "person(int):int pilots(int,int):int plant(int,int):int pull(int,int):int restore():int "
            + "route(int,int,int):int sat(int,int,int,int,int):long sheet(int,int,int):int sit(int,int,int):int "
            + "told(int,int):int tuft(int):int type(long,int):int way(int,int):int year():int";
    private static final String CONSTANTS = "BAD=-1 CAST=-12 FULL=-3 INDEX=-13 NONE=-4 NOT=-2 NULL=-11 SIZE=-14";
    private static final Set<String> LIBRARY = Set.of("Math.max", "Math.min", "Long.bitCount", "System.arraycopy");

    private static int wrong = 0;

    private static void hold(boolean good, String what) {
        if (!good) {
            wrong++;
            System.out.println("not so: " + what);
        }
    }

    public static void main(String[] args) throws IOException, IllegalAccessException {
        face();
        List<Class<?>> all = new ArrayList<>(List.of(MossPilots.class));
        all.addAll(List.of(MossPilots.class.getDeclaredClasses()));
        hold(all.size() <= 12, "at most twelve classes");
        for (Class<?> one : all) {
            members(one);
        }
        text(Files.readString(Path.of("src/main/java/MossPilots.java"), StandardCharsets.ISO_8859_1));
        System.out.println(wrong + " rules broken");
        if (wrong != 0) {
            System.exit(1);
        }
    }

    private static void face() throws IllegalAccessException {
        Set<String> methods = new TreeSet<>();
        for (Method method : MossPilots.class.getDeclaredMethods()) {
            if (Modifier.isPublic(method.getModifiers())) {
                String types = Arrays.toString(method.getParameterTypes()).replaceAll("[\\[\\] ]", "");
                methods.add(method.getName() + "(" + types + "):" + method.getReturnType());
            } else {
                hold(Modifier.isPrivate(method.getModifiers()), method + " is private");
            }
        }
        hold(String.join(" ", methods).equals(FACE), "the face: " + methods);
        Set<String> constants = new TreeSet<>();
        for (Field field : MossPilots.class.getDeclaredFields()) {
            if (Modifier.isPublic(field.getModifiers())) {
                hold(Modifier.isStatic(field.getModifiers()) && Modifier.isFinal(field.getModifiers()), field + " is constant");
                constants.add(field.getName() + "=" + field.getInt(null));
            } else {
                hold(Modifier.isPrivate(field.getModifiers()), field + " is private");
            }
        }
        hold(String.join(" ", constants).equals(CONSTANTS), "the constants: " + constants);
        hold(Modifier.isPublic(MossPilots.class.getModifiers()) && Modifier.isFinal(MossPilots.class.getModifiers()), "public, final");
        Constructor<?>[] makers = MossPilots.class.getDeclaredConstructors();
        hold(makers.length == 1 && Modifier.isPublic(makers[0].getModifiers())
                && makers[0].getParameterCount() == 0, "one public constructor");
    }

    private static void members(Class<?> one) {
        int fields = 0;
        for (Field field : one.getDeclaredFields()) {
            boolean shared = Modifier.isStatic(field.getModifiers());
            fields += shared ? 0 : 1;
            hold(!shared || Modifier.isFinal(field.getModifiers()), field + " is final");
        }
        hold(fields <= 20, one + " has at most twenty fields");
        for (Method method : one.getDeclaredMethods()) {
            hold(method.getParameterCount() <= 7, method + " takes at most seven");
            hold(one == MossPilots.class && Modifier.isPublic(method.getModifiers())
                    || !FACE.matches("(^|.* )" + method.getName() + "\\(.*"), method + " bears a name of its own");
        }
        if (one != MossPilots.class) {
            hold(Modifier.isPrivate(one.getModifiers()) && Modifier.isStatic(one.getModifiers()), one + " is private, static");
        }
    }

    private static void text(String source) {
        hold(source.chars().allMatch(sign -> sign == '\n' || sign >= 32 && sign < 127), "signs of ASCII alone");
        String code = source.replaceAll("(?s)/\\*.*?\\*/", "").replaceAll("//[^\n]*", "");
        Matcher word = Pattern.compile("\\b(import|package|try|catch|throw|throws|finally|synchronized|assert|instanceof|"
                + "protected|volatile|transient|String|Object|double|float)\\b|->|::|@").matcher(code);
        while (word.find()) {
            hold(false, "without " + word.group());
        }
        Matcher call = Pattern.compile("\\b(Math|Long|Integer|System|Arrays)\\.\\w+").matcher(code);
        while (call.find()) {
            hold(LIBRARY.contains(call.group()), call.group() + " is of the library that the class uses");
        }
        for (String line : code.split("\n")) {
            hold(!line.contains("new ") || line.contains("final "), "rows are made with the object: " + line.trim());
            hold(line.length() <= 120, "short lines: " + line.trim());
        }
        lengths(code.split("\n"));
    }

    /** Methods of the class begin four or eight blanks in, and end with a brace as far in. */
    private static void lengths(String[] lines) {
        for (int at = 0; at < lines.length; at++) {
            Matcher head = Pattern.compile("( {4}| {8})\\w[^=;]*\\(.*\\{").matcher(lines[at]);
            if (!head.matches() || lines[at].matches(" +(for|if|switch|while|do|return|else)\\b.*")) {
                continue;
            }
            int end = at;
            while (end < lines.length && !lines[end].equals(head.group(1) + "}")) {
                end++;
            }
            hold(end - at < 60, "a short method: " + lines[at].trim());
        }
    }
}
