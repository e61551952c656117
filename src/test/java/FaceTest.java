import java.io.IOException;
import java.lang.reflect.Field;
import java.lang.reflect.Method;
import java.lang.reflect.Modifier;
import java.nio.file.Files;
import java.nio.file.Path;
import java.util.Set;
import java.util.TreeSet;

/** The public face, and what of LANGUAGE.md can be seen from the class and its text. */
public final class FaceTest {
    private static final String[] FACE = {
        "int feed(int,int,int,int,int)", "int end(int)", "int expression(int)", "int list(int)", "boolean load(int,long)",
        "long register(int)", "boolean poke(int,int)", "int peek(int)", "boolean frame(int)", "boolean cfa(int,long)",
        "boolean set(int,long,boolean)", "int run(int,int)", "int find(int,long,long,int)", "int told(int)", "int parts()",
        "long part(int,int)", "int fetch(int)", "int store(int)", "int out(int)", "int compile()", "int variable(int,int)",
        "int where(int,long,int)", "int means(int,long)"};

    public static void main(String[] args) throws IOException {
        face();
        insides();
        text();
        Check.finish("FaceTest");
    }

    private static String sign(Method method) {
        StringBuilder sign = new StringBuilder(method.getReturnType() + " " + method.getName() + "(");
        for (Class<?> type : method.getParameterTypes()) {
            sign.append(sign.charAt(sign.length() - 1) == '(' ? "" : ",").append(type.getName());
        }
        return sign.append(")").toString();
    }

    private static Set<String> publicNames() {
        Set<String> names = new TreeSet<>();
        for (Method method : LocationDesk.class.getDeclaredMethods()) {
            if (Modifier.isPublic(method.getModifiers())) {
                names.add(method.getName());
            }
        }
        return names;
    }

    private static void face() {
        Set<String> want = new TreeSet<>(Set.of(FACE));
        Set<String> got = new TreeSet<>();
        for (Method method : LocationDesk.class.getDeclaredMethods()) {
            if (!Modifier.isPrivate(method.getModifiers())) {
                got.add(sign(method));
            }
        }
        Check.due("the face " + got, got.equals(want), true);
        Check.due("public and final", LocationDesk.class.getModifiers() == (Modifier.PUBLIC | Modifier.FINAL), true);
        Check.due("one constructor", LocationDesk.class.getDeclaredConstructors().length, 1);
        Check.due("it is public", LocationDesk.class.getConstructors().length, 1);
        for (Field field : LocationDesk.class.getDeclaredFields()) {
            Check.due(field.getName() + " is private, or NONE", !Modifier.isPrivate(field.getModifiers()), field.getName().equals("NONE"));
        }
    }

    private static void insides() {
        Set<String> names = publicNames();
        Class<?>[] inside = LocationDesk.class.getDeclaredClasses();
        Check.due("at most twelve classes", inside.length <= 11, true);
        for (Class<?> one : inside) {
            Check.due(one.getName() + " is static", Modifier.isStatic(one.getModifiers()), true);
            looks(one);
            for (Method method : one.getDeclaredMethods()) {
                Check.due(one.getName() + "." + method.getName() + " is no public name", names.contains(method.getName()), false);
            }
        }
        looks(LocationDesk.class);
    }

    private static void looks(Class<?> one) {
        int fields = 0;
        for (Field field : one.getDeclaredFields()) {
            boolean isStatic = Modifier.isStatic(field.getModifiers());
            fields += isStatic ? 0 : 1;
            Check.due(one.getName() + "." + field.getName() + ": static is final",
                isStatic && !Modifier.isFinal(field.getModifiers()), false);
        }
        Check.due(one.getName() + ": at most twenty fields", fields <= 20, true);
        for (Method method : one.getDeclaredMethods()) {
            Check.due(one.getName() + "." + method.getName() + ": at most seven parameters", method.getParameterCount() <= 7, true);
        }
    }

    private static void text() throws IOException {
        String text = Files.readString(Path.of("src/main/java/LocationDesk.java"));
        String[] words = {"throw", "throws", "try", "catch", "synchronized", "assert", "package", "double", "float"};
        for (String word : words) {
            String bare = text.replaceAll("(?s)/\\*.*?\\*/", "").replaceAll("//[^\n]*", "");
            Check.due("the word " + word, bare.matches("(?s).*\\b" + word + "\\b.*"), false);
        }
        Check.due("no arrow, no reference to a method", text.contains("->") || text.contains("::"), false);
        Check.due("one import", text.split("import ", -1).length, 2);
        Check.due("no Exact", text.contains("Exact"), false);
    }
}
