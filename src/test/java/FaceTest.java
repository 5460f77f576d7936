import java.lang.reflect.Field;
import java.lang.reflect.Method;
import java.lang.reflect.Modifier;
import java.util.Set;
import java.util.TreeSet;

/** The public face of the document, and nothing beside it. */
public final class FaceTest {
    private static final String[] METHODS = {
        "feed(long)", "end(int)", "laws()", "fault()", "law(int)", "rock(int,int,int)", "face(int,int,int)",
        "clear(int,int,int)", "gang(int)", "told(int,int)", "move(int,int,int)", "ask(int,int,int,int)", "let()",
        "month()", "size(int,int)", "most(int,long)", "split(int,long,int)", "work(int,int,long)", "slates(int)",
        "sheet(int,int,int)", "lay(int,int,long)", "haul(int,int,int,int)", "count(int)"};

    public static void main(String[] args) {
        Class<?> face = SlateQuarry.class;
        Due.holds("public and final", Modifier.isPublic(face.getModifiers()) && Modifier.isFinal(face.getModifiers()));
        Due.is("constructors", face.getDeclaredConstructors().length, 1);
        Due.is("public constructors", face.getConstructors().length, 1);
        methods(face);
        fields(face);
        for (Class<?> inside : face.getDeclaredClasses()) {
            Due.holds(inside + " is static", Modifier.isStatic(inside.getModifiers()));
            Due.holds(inside + " is not public", !Modifier.isPublic(inside.getModifiers()));
        }
        Due.is("BAD", SlateQuarry.BAD, -1);
        Due.is("STATE", SlateQuarry.STATE, -2);
        Due.is("FULL", SlateQuarry.FULL, -3);
        Due.is("NONE", SlateQuarry.NONE, -4);
        Due.end();
    }

    private static void methods(Class<?> face) {
        Set<String> due = new TreeSet<>(Set.of(METHODS));
        Set<String> publicNames = new TreeSet<>();
        for (String method : METHODS) {
            publicNames.add(method.substring(0, method.indexOf('(')));
        }
        for (Method method : face.getDeclaredMethods()) {
            String text = method.toString();
            String call = method.getName() + text.substring(text.indexOf('('));
            if (Modifier.isPublic(method.getModifiers())) {
                Due.holds(call + " is of the face", due.remove(call));
                Due.holds(call + " answers an int", method.getReturnType() == int.class);
            } else {
                Due.holds(call + " is private", Modifier.isPrivate(method.getModifiers()));
                Due.holds(call + " has a name of its own", !publicNames.contains(method.getName()));
            }
        }
        Due.holds("missing: " + due, due.isEmpty());
    }

    private static void fields(Class<?> face) {
        Set<String> constants = new TreeSet<>(Set.of("BAD", "STATE", "FULL", "NONE"));
        for (Field field : face.getDeclaredFields()) {
            boolean isStatic = Modifier.isStatic(field.getModifiers());
            Due.holds(field + " is no changing static", !isStatic || Modifier.isFinal(field.getModifiers()));
            if (!Modifier.isPrivate(field.getModifiers())) {
                Due.holds(field + " is a constant of the face", isStatic && constants.remove(field.getName()));
            }
        }
        Due.holds("missing: " + constants, constants.isEmpty());
    }
}
