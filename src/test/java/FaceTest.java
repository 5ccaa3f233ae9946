import java.lang.reflect.Constructor;
import java.lang.reflect.Executable;
import java.lang.reflect.Field;
import java.lang.reflect.Method;
import java.lang.reflect.Modifier;
import java.util.Set;
import java.util.TreeSet;

/** The class has the document's face, member for member, and no other. */
public final class FaceTest {
    private static final String INDEX = "IndexOutOfBoundsException";
    private static final String ARGUMENT = "IllegalArgumentException";
    private static final String STATE = "IllegalStateException";

    private static final String[] FACE = {
        "int setQuay(int) " + ARGUMENT,
        "int setCranes(int) " + ARGUMENT,
        "int addVessel(int,int,int,int) " + ARGUMENT + " " + STATE,
        "int setVessel(int,int,int) " + INDEX + " " + ARGUMENT,
        "int addContainer(int,int,boolean,int,int) " + INDEX + " " + ARGUMENT + " " + STATE,
        "int setWish(int,int) " + INDEX + " " + ARGUMENT,
        "int setRoom(int,int) " + INDEX + " " + ARGUMENT,
        "int addStack(int) " + ARGUMENT + " " + STATE,
        "int vessels()",
        "int containers()",
        "int stacks()",
        "int work(int,int) " + INDEX,
        "int ranges(int) " + INDEX,
        "int firstBay(int,int) " + INDEX,
        "int load(int) " + INDEX,
        "int beginOf(int,int) " + INDEX,
        "int endOf(int,int) " + INDEX,
        "int handling(int) " + INDEX,
        "int waits(int) " + INDEX,
        "int plan() " + STATE,
        "boolean isPlanned()",
        "int orderAt(int) " + STATE + " " + INDEX,
        "int startOf(int) " + STATE + " " + INDEX,
        "int placeOf(int) " + STATE + " " + INDEX,
        "int vesselAt(int,int) " + STATE + " " + INDEX,
        "int cranesAt(int) " + STATE,
        "int delayByNumbers() " + STATE,
        "int delayIf(int,int) " + INDEX + " " + ARGUMENT,
        "int movedAt(int) " + STATE + " " + INDEX,
        "int giveSlots() " + STATE,
        "int slotOf(int) " + STATE + " " + INDEX,
        "int inSlot(int) " + STATE + " " + INDEX,
        "int costIf(int,int) " + STATE + " " + INDEX + " " + ARGUMENT,
        "int events()",
        "int timeOf(int) " + INDEX,
        "int kindOf(int) " + INDEX,
        "int containerOf(int) " + INDEX,
        "int work(int) " + ARGUMENT + " " + STATE,
        "int stateOf(int) " + INDEX,
        "int stackOf(int) " + INDEX,
        "int heightOf(int) " + INDEX,
        "int containerAt(int,int) " + INDEX,
        "int reshuffles()",
        "int blocking()",
        "int wouldTake(int) " + INDEX,
        "int tidy(int) " + ARGUMENT,
        "int inTheEnd(int) " + ARGUMENT + " " + STATE,
        "double meanWait()",
        "long digest()",
    };

    public static void main(String[] args) {
        Check check = new Check("FaceTest");
        check.holds("public final", Modifier.isPublic(Stevedore.class.getModifiers())
                && Modifier.isFinal(Stevedore.class.getModifiers()));
        checkMethods(check);
        checkConstructors(check);
        checkFields(check);
        checkClassesInside(check);
        check.end();
    }

    private static void checkMethods(Check check) {
        Set<String> due = new TreeSet<>(Set.of(FACE));
        Set<String> got = new TreeSet<>();
        Set<String> publicNames = new TreeSet<>();
        Set<String> privateNames = new TreeSet<>();
        for (Method method : Stevedore.class.getDeclaredMethods()) {
            if (Modifier.isPublic(method.getModifiers())) {
                got.add(told(method));
                publicNames.add(method.getName());
            } else {
                check.holds("private: " + method, Modifier.isPrivate(method.getModifiers()));
                privateNames.add(method.getName());
            }
        }
        check.same("public methods", due.toString(), got.toString());
        for (Class<?> inside : Stevedore.class.getDeclaredClasses()) {
            for (Method method : inside.getDeclaredMethods()) {
                privateNames.add(method.getName());
            }
        }
        privateNames.retainAll(publicNames);
        check.same("private methods with the name of a public one", "[]", privateNames.toString());
    }

    private static String told(Method method) {
        StringBuilder text = new StringBuilder();
        text.append(method.getReturnType().getSimpleName()).append(' ').append(method.getName()).append('(');
        String gap = "";
        for (Class<?> type : method.getParameterTypes()) {
            text.append(gap).append(type.getSimpleName());
            gap = ",";
        }
        return text.append(')').append(toldThrows(method)).toString();
    }

    private static String toldThrows(Executable method) {
        StringBuilder text = new StringBuilder();
        for (Class<?> type : method.getExceptionTypes()) {
            text.append(' ').append(type.getSimpleName());
        }
        return text.toString();
    }

    private static void checkConstructors(Check check) {
        Constructor<?>[] all = Stevedore.class.getDeclaredConstructors();
        check.same("constructors", 1, all.length);
        check.holds("the public constructor without parameters",
                Modifier.isPublic(all[0].getModifiers()) && all[0].getParameterCount() == 0);
    }

    private static void checkFields(Check check) {
        for (Field field : Stevedore.class.getDeclaredFields()) {
            check.holds("private: " + field, Modifier.isPrivate(field.getModifiers()));
            check.holds("final, if static: " + field,
                    !Modifier.isStatic(field.getModifiers()) || Modifier.isFinal(field.getModifiers()));
        }
    }

    private static void checkClassesInside(Check check) {
        Class<?>[] all = Stevedore.class.getDeclaredClasses();
        check.holds("at most 12 classes", all.length + 1 <= 12);
        for (Class<?> inside : all) {
            int modifiers = inside.getModifiers();
            check.holds("static and not public: " + inside, Modifier.isStatic(modifiers)
                    && !Modifier.isPublic(modifiers) && !Modifier.isProtected(modifiers));
            int fields = 0;
            for (Field field : inside.getDeclaredFields()) {
                fields += Modifier.isStatic(field.getModifiers()) ? 0 : 1;
            }
            check.holds("at most 20 fields: " + inside, fields <= 20);
        }
    }
}
