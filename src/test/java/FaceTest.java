import java.lang.reflect.Constructor;
import java.lang.reflect.Field;
import java.lang.reflect.Method;
import java.lang.reflect.Modifier;
import java.util.HashSet;
import java.util.Set;
import java.util.TreeSet;

/** The public face, and promise 1: a new object. */
public final class FaceTest {
    private static final String INDEX = " IndexOutOfBoundsException";
    private static final String ILLEGAL = " IllegalArgumentException";
    private static final String UNSUPPORTED = " UnsupportedOperationException";
    private static final String NO_ELEMENT = " NoSuchElementException";

    private static final Set<String> FACE = Set.of(
            "int feed int int int int int",
            "boolean end int",
            "int stone int int int int int" + INDEX + ILLEGAL + UNSUPPORTED,
            "boolean strike int" + INDEX,
            "boolean habit int int" + ILLEGAL,
            "int agree int int int" + INDEX + NO_ELEMENT,
            "int edict" + ILLEGAL + UNSUPPORTED,
            "int fault",
            "boolean undo",
            "int town int" + ILLEGAL + UNSUPPORTED,
            "void goods int int int int int int" + INDEX + ILLEGAL,
            "void spoil int int" + INDEX + ILLEGAL,
            "void carry int" + ILLEGAL,
            "int weeks int" + ILLEGAL,
            "int days int" + ILLEGAL,
            "int force int int" + INDEX,
            "int cap int int boolean int" + INDEX,
            "int judge int int int boolean int" + INDEX + ILLEGAL,
            "int look int int int" + INDEX + NO_ELEMENT,
            "int buys int int int" + INDEX + ILLEGAL,
            "int count int");

    public static void main(String[] args) {
        methods();
        otherMembers();
        newObject();
        objectsByThemselves();
        lastCall();
        Check.end();
    }

    private static void methods() {
        Set<String> found = new HashSet<>();
        Set<String> publicNames = new HashSet<>();
        for (Method method : PriceEdict.class.getDeclaredMethods()) {
            if (!Modifier.isPrivate(method.getModifiers())) {
                Check.due(method + " is public", Modifier.isPublic(method.getModifiers()), true);
                Check.due(method + " is static", Modifier.isStatic(method.getModifiers()), false);
                found.add(signature(method));
                publicNames.add(method.getName());
            }
        }
        Check.due("the face is " + new TreeSet<>(found), found.equals(FACE), true);
        for (Method method : PriceEdict.class.getDeclaredMethods()) {
            if (Modifier.isPrivate(method.getModifiers())) {
                Check.due(method + " bears a public name", publicNames.contains(method.getName()), false);
            }
        }
    }

    private static String signature(Method method) {
        StringBuilder text = new StringBuilder(method.getReturnType().getSimpleName());
        text.append(' ').append(method.getName());
        for (Class<?> type : method.getParameterTypes()) {
            text.append(' ').append(type.getSimpleName());
        }
        for (Class<?> type : method.getExceptionTypes()) {
            text.append(' ').append(type.getSimpleName());
        }
        return text.toString();
    }

    private static void otherMembers() {
        Check.due("modifiers", PriceEdict.class.getModifiers(), Modifier.PUBLIC | Modifier.FINAL);
        Check.due("NONE", PriceEdict.NONE, -1);
        for (Field field : PriceEdict.class.getDeclaredFields()) {
            boolean isNone = field.getName().equals("NONE");
            Check.due(field + " is private", Modifier.isPrivate(field.getModifiers()), !isNone);
        }
        Constructor<?>[] constructors = PriceEdict.class.getDeclaredConstructors();
        Check.due("constructors", constructors.length, 1);
        Check.due("its parameters", constructors[0].getParameterCount(), 0);
        Check.due("it is public", Modifier.isPublic(constructors[0].getModifiers()), true);
        for (Class<?> inside : PriceEdict.class.getDeclaredClasses()) {
            Check.due(inside + " is static", Modifier.isStatic(inside.getModifiers()), true);
            Check.due(inside + " is public", Modifier.isPublic(inside.getModifiers()), false);
        }
    }

    private static void newObject() {
        Check.sentence("No STONES, no EDICT, no TOWNS; TODAY is 0.");
        PriceEdict x = new PriceEdict();
        for (int what = 0; what <= 8; what++) {
            Check.due("new: count(" + what + ")", x.count(what), 0);
        }
        Check.due("new: fault()", x.fault(), PriceEdict.NONE);
        Check.due("new: undo()", x.undo(), false);
        Check.due("new: end(1)", x.end(1), false);
        Check.due("new: end(0)", x.end(0), true);
        Check.due("new: agree(0, 0, 0)", x.agree(0, 0, 0), 10000);
        Check.dueIndex("new: strike(0)", () -> x.strike(0));
        Check.dueIndex("new: force(0, 0)", () -> x.force(0, 0));
    }

    private static void objectsByThemselves() {
        Check.sentence("No STONES, no EDICT, no TOWNS; TODAY is 0.");
        PriceEdict early = new PriceEdict();
        Whole.answers(Whole.full());
        Check.due("made behind a full one", Whole.answers(new PriceEdict()), Whole.answers(early));
        PriceEdict busy = Whole.busy();
        Whole.answers(new PriceEdict());
        Check.due("a busy one beside others", Whole.answers(busy), Whole.answers(Whole.busy()));
    }

    private static void lastCall() {
        Check.sentence("An object is used for at most 512 calls after it has been made");
        PriceEdict x = new PriceEdict();
        for (int call = 1; call <= 501; call++) {
            x.days(call % 11);
        }
        int today = x.count(0);
        x.town(20);
        x.goods(0, 5, 1, 9, 5, 1);
        x.stone(3, 1, 2, 3, 4);
        Check.tape(x, "cap 5 7");
        x.edict();
        x.weeks(2);
        Check.due("call 511", x.look(0, 5, 1), 5);
        Check.due("call 512", x.count(0), today + 14);
    }
}
