import java.lang.reflect.Constructor;
import java.lang.reflect.Field;
import java.lang.reflect.Method;
import java.lang.reflect.Modifier;
import java.util.Set;
import java.util.TreeSet;

/** The public face: just the members that the document has, and nothing beside them. */
public final class FaceTest {
    private static final Due due = new Due("FaceTest");

    /** Each method with the number of its arguments; all take ints, but for the first of feed. */
    private static final String METHODS = "town1 count1 feed2 text0 force1 may1 map4 drop0 price2 told2 slips3 look2 "
        + "worlds1 world1 sure1 none0 judge1 street4 way2 safe1 soon1 step2 trip3 goer1 harm2 put2 trick3 enough1 "
        + "many0 next1 looks0 from1 tree0 drawnFrom1 over3 join0 years2 buy2 worth1 drawn2 image0 back0 sheet3 cell3 "
        + "copy5 mapsBy4 taken2";

    private static void constants() {
        due.is("NONE", EveryMapWrong.NONE, -1);
        due.is("BAD", EveryMapWrong.BAD, -2);
        due.is("STATE", EveryMapWrong.STATE, -3);
        due.is("FULL", EveryMapWrong.FULL, -4);
        due.is("NO", EveryMapWrong.NO, -4611686018427387904L);
        for (Field field : EveryMapWrong.class.getDeclaredFields()) {
            if (!Modifier.isPrivate(field.getModifiers())) {
                due.isTrue(field + " is a constant of the face", Set.of("NONE", "BAD", "STATE", "FULL", "NO")
                    .contains(field.getName()) && Modifier.isFinal(field.getModifiers()));
            }
        }
    }

    private static void methods() {
        Set<String> seen = new TreeSet<>();
        Set<String> hidden = new TreeSet<>();
        for (Method method : EveryMapWrong.class.getDeclaredMethods()) {
            if (Modifier.isPrivate(method.getModifiers())) {
                hidden.add(method.getName());
                continue;
            }
            seen.add(method.getName() + method.getParameterCount());
            due.isTrue(method + " is public and answers an int",
                Modifier.isPublic(method.getModifiers()) && method.getReturnType() == int.class);
            for (int i = 0; i < method.getParameterCount(); i++) {
                Class<?> due1 = method.getName().equals("feed") && i == 0 ? long.class : int.class;
                due.isTrue(method + " takes the types that are told", method.getParameterTypes()[i] == due1);
            }
        }
        due.isTrue("the methods of the face, and no other: " + seen, seen.equals(new TreeSet<>(Set.of(METHODS.split(" ")))));
        for (String name : hidden) {
            due.isTrue("no private method is named as a public one: " + name, !(" " + METHODS).matches(".* " + name + "\\d.*"));
        }
    }

    private static void theClass() {
        due.isTrue("the class is public and final", Modifier.isPublic(EveryMapWrong.class.getModifiers())
            && Modifier.isFinal(EveryMapWrong.class.getModifiers()));
        Constructor<?>[] all = EveryMapWrong.class.getDeclaredConstructors();
        due.isTrue("one public constructor without arguments", all.length == 1 && all[0].getParameterCount() == 0
            && Modifier.isPublic(all[0].getModifiers()));
        for (Class<?> inside : EveryMapWrong.class.getDeclaredClasses()) {
            due.isTrue(inside + " is static and not public", Modifier.isStatic(inside.getModifiers())
                && !Modifier.isPublic(inside.getModifiers()) && !Modifier.isProtected(inside.getModifiers()));
        }
    }

    public static void main(String[] args) {
        constants();
        methods();
        theClass();
        due.end();
    }
}
