import java.lang.reflect.Constructor;
import java.lang.reflect.Field;
import java.lang.reflect.Member;
import java.lang.reflect.Method;
import java.lang.reflect.Modifier;
import java.util.Arrays;
import java.util.HashSet;
import java.util.NoSuchElementException;
import java.util.Set;
import java.util.TreeSet;

/** The public face is the document's, and nothing else of the class is to be seen. */
public final class FaceTest {
    private static final String[] FACE = {
        "int sign(int)", "boolean end(int)", "int meadow()", "int herds()", "int rule()",
        "int cell(int,int)!", "int herd(int,int)!", "int set(int,int)", "int sheet(int,int,int,int)",
        "int salt(int,int)", "int thistles(int,int)", "int gate(int,int)", "int drive(int,int)",
        "int hour()", "int hours(int)", "int day()", "int undo()",
        "int road()", "int squares()", "int cart(int,int)", "int joined(int)", "int owners()",
        "int least()", "int furthest(int)",
        "int where(int,int)", "int roadin(int)", "int market(int,int)", "int trodden(int)",
        "int meets()", "int round(int)",
        "int lure(int,int)", "int hedge(int,int)", "int gates(int,int,int)",
        "int ways(int,int,int)", "int bride()", "int lost(int,int,int)", "int letter(int)",
        "int snow()", "int thaw()", "int season(int,int)",
        "boolean keep(int)", "boolean again(int)", "int count(int)", "long row(int)!",
    };

    private static final Check CHECK = new Check();

    public static void main(String[] args) {
        Class<?> face = RoadsByCows.class;
        CHECK.due("public and final", Modifier.isPublic(face.getModifiers()) && Modifier.isFinal(face.getModifiers()), true);
        CHECK.due("NONE", RoadsByCows.NONE, -1);
        publicMethods(face);
        nothingElseIsSeen(face);
        namesAreNotUsedAgain(face);
        CHECK.close("FaceTest");
    }

    private static void publicMethods(Class<?> face) {
        Set<String> due = new TreeSet<>(Arrays.asList(FACE));
        Set<String> found = new TreeSet<>();
        for (Method method : face.getDeclaredMethods()) {
            if (Modifier.isPublic(method.getModifiers())) {
                found.add(told(method));
            }
        }
        for (String method : due) {
            CHECK.due("the face has " + method, found.contains(method), true);
        }
        for (String method : found) {
            CHECK.due("the document has " + method, due.contains(method), true);
        }
    }

    private static String told(Method method) {
        StringBuilder words = new StringBuilder(method.getReturnType().getName());
        words.append(' ').append(method.getName()).append('(');
        for (int i = 0; i < method.getParameterCount(); i++) {
            words.append(i == 0 ? "" : ",").append(method.getParameterTypes()[i].getName());
        }
        words.append(')');
        Class<?>[] thrown = method.getExceptionTypes();
        return words.append(thrown.length == 1 && thrown[0] == NoSuchElementException.class ? "!" : "").toString();
    }

    private static void nothingElseIsSeen(Class<?> face) {
        for (Field field : face.getDeclaredFields()) {
            CHECK.due("field " + field.getName() + " is private", isPrivate(field), !field.getName().equals("NONE"));
            boolean isStatic = Modifier.isStatic(field.getModifiers());
            CHECK.due("static field " + field.getName() + " is final", !isStatic || Modifier.isFinal(field.getModifiers()), true);
        }
        for (Method method : face.getDeclaredMethods()) {
            CHECK.due("method " + method.getName() + " is public or private",
                    isPrivate(method) || Modifier.isPublic(method.getModifiers()), true);
        }
        for (Constructor<?> constructor : face.getDeclaredConstructors()) {
            CHECK.due("one public constructor without arguments",
                    Modifier.isPublic(constructor.getModifiers()) && constructor.getParameterCount() == 0, true);
        }
        CHECK.due("classes inside", face.getDeclaredClasses().length <= 11, true);
        for (Class<?> inside : face.getDeclaredClasses()) {
            int modifiers = inside.getModifiers();
            CHECK.due(inside.getName() + " is static and not public", Modifier.isStatic(modifiers)
                    && !Modifier.isPublic(modifiers) && !Modifier.isProtected(modifiers), true);
        }
    }

    private static boolean isPrivate(Member member) {
        return Modifier.isPrivate(member.getModifiers());
    }

    private static void namesAreNotUsedAgain(Class<?> face) {
        Set<String> names = new HashSet<>();
        for (Method method : face.getDeclaredMethods()) {
            if (Modifier.isPublic(method.getModifiers())) {
                names.add(method.getName());
            }
        }
        for (Method method : face.getDeclaredMethods()) {
            CHECK.due("private " + method.getName() + " bears a public name", isPrivate(method) && names.contains(method.getName()), false);
        }
        for (Class<?> inside : face.getDeclaredClasses()) {
            for (Method method : inside.getDeclaredMethods()) {
                CHECK.due(inside.getName() + "." + method.getName() + " bears a public name", names.contains(method.getName()), false);
            }
        }
    }
}
