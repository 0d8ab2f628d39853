import java.lang.reflect.Constructor;
import java.lang.reflect.Field;
import java.lang.reflect.Method;
import java.lang.reflect.Modifier;
import java.util.TreeMap;

/** The class has the document's members and shows no other. */
public final class FaceTest {
    private static final String FACE = "letter 1 town 0 loft 2 dove 2 open 2 hawk 1 carry 2 clip 2 go 1 dusk 0 way 2"
        + " purse 2 letting 1 stays 3 cheapest 4 near 2 whose 2 run 2 bestOpen 2 homing 1 spare 1 row 1 paid 1"
        + " judge 0 seeds 3 image 0 on 0 count 1";

    public static void main(String[] args) {
        Due due = new Due();
        due.about("the face");
        Class<?> c = CoinsAreDoves.class;
        due.isTrue(Modifier.isPublic(c.getModifiers()) && Modifier.isFinal(c.getModifiers()), "it is public and final");
        due.isTrue(c.getSuperclass() == Object.class && c.getInterfaces().length == 0, "it is under no other");
        Constructor<?>[] makers = c.getDeclaredConstructors();
        due.isTrue(makers.length == 1 && makers[0].getParameterCount() == 0, "it has one constructor, without arguments");
        due.isTrue(Modifier.isPublic(makers[0].getModifiers()), "its constructor is public");
        TreeMap<String, Integer> face = new TreeMap<>();
        String[] words = FACE.split(" ");
        for (int i = 0; i < words.length; i += 2) {
            face.put(words[i], Integer.parseInt(words[i + 1]));
        }
        int shown = 0;
        for (Method m : c.getDeclaredMethods()) {
            boolean isFace = face.containsKey(m.getName());
            if (Modifier.isPrivate(m.getModifiers())) {
                due.isTrue(!isFace, m.getName() + " is private and bears the name of a public one");
                continue;
            }
            shown++;
            due.isTrue(isFace && Modifier.isPublic(m.getModifiers()), m.getName() + " is not of the face");
            due.isTrue(!Modifier.isStatic(m.getModifiers()), m.getName() + " is static");
            due.is(face.getOrDefault(m.getName(), -1), m.getParameterCount(), "the arguments of " + m.getName());
            due.isTrue(m.getReturnType() == int.class, m.getName() + " does not answer an int");
            for (Class<?> type : m.getParameterTypes()) {
                due.isTrue(type == int.class, m.getName() + " takes another type than int");
            }
        }
        due.is(face.size(), shown, "how many methods are shown");
        for (Field f : c.getDeclaredFields()) {
            int is = f.getModifiers();
            due.isTrue(Modifier.isPrivate(is), f.getName() + " is not private");
            due.isTrue(!Modifier.isStatic(is) || Modifier.isFinal(is), f.getName() + " is static and not final");
        }
        for (Class<?> inside : c.getDeclaredClasses()) {
            int is = inside.getModifiers();
            due.isTrue(Modifier.isStatic(is), inside.getName() + " is not static");
            due.isTrue(!Modifier.isPublic(is) && !Modifier.isProtected(is), inside.getName() + " is shown");
            due.isTrue(inside.getDeclaredFields().length <= 20, inside.getName() + " has too many fields");
        }
        due.isTrue(c.getDeclaredClasses().length <= 11, "more than twelve classes");
        due.end();
    }
}
