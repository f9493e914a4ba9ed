import java.lang.reflect.Constructor;
import java.lang.reflect.Field;
import java.lang.reflect.Method;
import java.lang.reflect.Modifier;
import java.util.Set;
import java.util.TreeSet;

/** The class has the public face of the document, and no other member that is not private. */
public final class FaceTest {
    private static final String STATE = " IllegalStateException";
    private static final String ARGUMENT = " IllegalArgumentException";
    private static final String INDEX = " IndexOutOfBoundsException";

    private static final String[] FACE = {
        "int addLeg(int,int,int)" + ARGUMENT + STATE,
        "int takeBack()" + STATE,
        "int setOrigin(int,int)" + ARGUMENT,
        "int keep()" + STATE,
        "int giveUp(int)" + INDEX,
        "int type(char)" + STATE,
        "int clearText()",
        "int textError()",
        "int impossibleOrder()" + STATE,
        "int carryOut()" + STATE,
        "int undo()" + STATE,
        "int takeSnapshot()",
        "int restoreSnapshot()" + STATE,
        "int legs()",
        "int traverseLength()",
        "int errorEast()",
        "int errorNorth()",
        "boolean isClose()",
        "int adjustedEast(int)" + INDEX,
        "int adjustedNorth(int)" + INDEX,
        "int fields()",
        "int cornersOf(int)" + INDEX,
        "int cornerEast(int,int)" + INDEX,
        "int cornerNorth(int,int)" + INDEX,
        "int leftTurns(int)" + INDEX,
        "boolean turnsOneWay(int)" + INDEX,
        "int sidesEastOf(int,int,int)" + INDEX + ARGUMENT,
        "int sharedSides(int,int)" + INDEX,
        "long twiceAreaByCorners(int)" + INDEX,
        "long twiceAreaByStrips(int)" + INDEX,
        "int acresOf(int)" + INDEX,
        "int roodsOf(int)" + INDEX,
        "int perchesOf(int)" + INDEX,
        "int largestField()",
        "long twiceAreaOfAll()",
        "int sheetsFor(int,int)" + INDEX + ARGUMENT,
        "int scaleFor(int)" + INDEX,
        "int recordedStates()",
    };

    public static void main(String[] args) {
        Check.holds("the class is public and final",
            Modifier.isPublic(AcreOffice.class.getModifiers()) && Modifier.isFinal(AcreOffice.class.getModifiers()));
        methods();
        constructors();
        constants();
        classesInside();
        Check.finish("FaceTest");
    }

    private static String headOf(Method method) {
        StringBuilder head = new StringBuilder();
        head.append(method.getReturnType()).append(' ').append(method.getName()).append('(');
        for (Class<?> type : method.getParameterTypes()) {
            head.append(head.charAt(head.length() - 1) == '(' ? "" : ",").append(type);
        }
        head.append(')');
        for (Class<?> type : method.getExceptionTypes()) {
            head.append(' ').append(type.getSimpleName());
        }
        return head.toString();
    }

    private static void methods() {
        Set<String> found = new TreeSet<>();
        Set<String> publicNames = new TreeSet<>();
        for (Method method : AcreOffice.class.getDeclaredMethods()) {
            if (!Modifier.isPrivate(method.getModifiers())) {
                found.add(Modifier.toString(method.getModifiers()) + " " + headOf(method));
                publicNames.add(method.getName());
            }
        }
        Set<String> due = new TreeSet<>();
        for (String head : FACE) {
            due.add("public " + head);
        }
        Check.same("the methods", found, due);
        for (Class<?> type : AcreOffice.class.getDeclaredClasses()) {
            for (Method method : type.getDeclaredMethods()) {
                Check.fails("inside, a public name: " + method, publicNames.contains(method.getName()));
            }
        }
        for (Method method : AcreOffice.class.getDeclaredMethods()) {
            boolean shadows = Modifier.isPrivate(method.getModifiers()) && publicNames.contains(method.getName());
            Check.fails("private, a public name: " + method, shadows);
        }
    }

    private static void constructors() {
        Constructor<?>[] made = AcreOffice.class.getDeclaredConstructors();
        Check.number("one constructor", made.length, 1);
        Check.holds("it is public", Modifier.isPublic(made[0].getModifiers()));
        Check.number("it takes nothing", made[0].getParameterCount(), 0);
    }

    private static void constants() {
        for (Field field : AcreOffice.class.getDeclaredFields()) {
            int flags = field.getModifiers();
            if (field.getName().equals("NONE")) {
                Check.same("NONE", Modifier.toString(flags) + " " + field.getType(), "public static final int");
            } else {
                Check.holds("private: " + field.getName(), Modifier.isPrivate(flags));
                Check.holds("static ones are final: " + field.getName(),
                    !Modifier.isStatic(flags) || Modifier.isFinal(flags));
            }
        }
    }

    private static void classesInside() {
        Class<?>[] inside = AcreOffice.class.getDeclaredClasses();
        Check.holds("at most 12 classes", inside.length <= 12);
        for (Class<?> type : inside) {
            int flags = type.getModifiers();
            Check.fails("not public: " + type, Modifier.isPublic(flags) || Modifier.isProtected(flags));
            Check.holds("static: " + type, Modifier.isStatic(flags));
        }
    }
}
