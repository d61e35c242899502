import java.lang.reflect.Constructor;
import java.lang.reflect.Field;
import java.lang.reflect.Method;
import java.lang.reflect.Modifier;
import java.util.Arrays;
import java.util.Set;
import java.util.TreeSet;

/** The face is that of the document, and nothing more can be seen (rule 1). */
final class FaceTest {
    private static final String[] FACE = {
        "int feed(int,int,int,int,int)", "boolean end(int)", "int town()", "int fault()", "int person(int,int)",
        "int umbrella(int,int)", "int sorrow(int,int)", "int place(int,int)", "int now(int)", "int go(int,int)",
        "int take(int,int)", "int leave(int,int)", "int funeral(int)", "int days(int)", "int undo()",
        "int next(int)", "int sorry(int)", "int weeps(int)", "int meant()", "int surely()", "int ask()",
        "int far()", "int toldOf(int,int)", "int toldAt(int)", "int cover()", "int covering()", "int hiding()",
        "int hidden(int)", "int turns(int,int,int)", "int turn()", "int tag(int)", "int byteAt(int)",
        "int drawn(int,int)", "int odds(int,int,int)", "int book(int)", "int told(int)", "int sentence()",
        "int said(int)", "boolean image(int)", "boolean restore(int)", "int count(int)"};

    public static void main(String[] args) {
        Class<?> face = FuneralUmbrellas.class;
        Set<String> due = new TreeSet<>(Arrays.asList(FACE));
        Set<String> seen = new TreeSet<>();
        for (Method m : face.getDeclaredMethods()) {
            if (Modifier.isPublic(m.getModifiers())) {
                seen.add(written(m));
            } else {
                Check.due(m + " is private", Modifier.isPrivate(m.getModifiers()), true);
            }
        }
        Check.due("the public methods " + seen, seen.equals(due), true);
        for (Field f : face.getDeclaredFields()) {
            boolean isNone = f.getName().equals("NONE");
            Check.due(f + " is public", Modifier.isPublic(f.getModifiers()), isNone);
            Check.due(f + " is private", Modifier.isPrivate(f.getModifiers()), !isNone);
        }
        Constructor<?>[] made = face.getDeclaredConstructors();
        Check.due("constructors", made.length, 1);
        Check.due("the class is final", Modifier.isFinal(face.getModifiers()), true);
        Check.due("NONE", FuneralUmbrellas.NONE, -1);
        namesInside(face);
        Check.finish("FaceTest");
    }

    private static void namesInside(Class<?> face) {
        Set<String> names = new TreeSet<>();
        for (Method m : face.getDeclaredMethods()) {
            if (Modifier.isPublic(m.getModifiers())) {
                names.add(m.getName());
            }
        }
        for (Method m : face.getDeclaredMethods()) {
            boolean isPublic = Modifier.isPublic(m.getModifiers());
            Check.due(m + " bears a public one's name", !isPublic && names.contains(m.getName()), false);
        }
        for (Class<?> inside : face.getDeclaredClasses()) {
            Check.due(inside + " is static", Modifier.isStatic(inside.getModifiers()), true);
            for (Method m : inside.getDeclaredMethods()) {
                Check.due(m + " bears a public one's name", names.contains(m.getName()), false);
            }
        }
    }

    private static String written(Method m) {
        StringBuilder text = new StringBuilder(m.getReturnType().getName()).append(' ').append(m.getName()).append('(');
        Class<?>[] types = m.getParameterTypes();
        for (int i = 0; i < types.length; i++) {
            text.append(i == 0 ? "" : ",").append(types[i].getName());
        }
        return text.append(')').toString();
    }
}
