import java.lang.reflect.InvocationTargetException;
import java.lang.reflect.Method;
import java.util.ArrayList;
import java.util.Arrays;
import java.util.List;

/**
 * Two objects that are told the same, but for the calls that are to be refused: those go to the first one alone.
 * So each later answer that differs shows that a refused call changed something. Calls are told by name, booleans
 * as 0 and 1, and no more than the document's 512 go to an object.
 */
final class World {
    static final Class<?> INDEX = IndexOutOfBoundsException.class;
    static final Class<?> ARGUMENT = IllegalArgumentException.class;
    static final Class<?> STATE = IllegalStateException.class;
    static final int ODD = Integer.MIN_VALUE + 99;
    private static final int MOST_CALLS = 512;
    private static final int LEFT_FOR_THE_END = 30;

    private final FosterHouse told = new FosterHouse();
    private final FosterHouse spared = new FosterHouse();
    private final List<String> complaints = new ArrayList<>();
    private int calls;
    private int checks;
    private int today;
    private int stays;
    private boolean wasRefused;

    int calls() {
        return calls;
    }

    int checks() {
        return checks;
    }

    int today() {
        return today;
    }

    List<String> complaints() {
        return complaints;
    }

    private void complain(String what) {
        if (complaints.size() < 10) complaints.add(what + " (day " + today + ", call " + calls + ")");
    }

    private static Method methodOf(String call, int arguments) {
        for (Method m : FosterHouse.class.getDeclaredMethods()) {
            if (m.getName().equals(call) && m.getParameterCount() == arguments) return m;
        }
        throw new IllegalArgumentException(call + " of " + arguments);
    }

    private static Object answer(FosterHouse x, String call, int... arguments) {
        Method m = methodOf(call, arguments.length);
        Object[] given = new Object[arguments.length];
        for (int i = 0; i < given.length; i++) {
            given[i] = m.getParameterTypes()[i] == boolean.class ? (Object) (arguments[i] == 1) : (Object) arguments[i];
        }
        try {
            Object got = m.invoke(x, given);
            return got == null ? (Object) 0 : got instanceof Boolean ? (Object) ((Boolean) got ? 1 : 0) : got;
        } catch (InvocationTargetException e) {
            return e.getCause().getClass();
        } catch (IllegalAccessException e) {
            return e.getClass();
        }
    }

    private static String text(String call, int... arguments) {
        return call + Arrays.toString(arguments).replace('[', '(').replace(']', ')');
    }

    /** Asked of both objects; an answer may be that the call is refused. */
    private Object look(String call, int... arguments) {
        calls++;
        if (calls > MOST_CALLS) complain("the test itself makes more than 512 calls");
        Object one = answer(told, call, arguments);
        Object two = answer(spared, call, arguments);
        checks++;
        if (!one.equals(two)) complain(text(call, arguments) + " answered " + one + ", without the refused calls " + two);
        return one;
    }

    /** What a call answers, which is not to be refused. */
    int ask(String call, int... arguments) {
        Object got = look(call, arguments);
        if (!(got instanceof Integer)) {
            complain(text(call, arguments) + " threw " + got);
            return ODD;
        }
        int answer = (Integer) got;
        if (call.equals("pass")) today = answer;
        if (call.equals("place")) stays++;
        if (call.equals("placeAll")) stays += Math.max(0, Math.min(5, answer));
        return answer;
    }

    void is(int due, String call, int... arguments) {
        int got = ask(call, arguments);
        checks++;
        if (got != due) complain(text(call, arguments) + " answered " + got + ", due is " + due);
    }

    /** The first object alone is told, and is to throw just this. */
    void refused(Class<?> due, String call, int... arguments) {
        calls++;
        if (calls > MOST_CALLS) complain("the test itself makes more than 512 calls");
        wasRefused = true;
        Object got = answer(told, call, arguments);
        checks++;
        if (got != due) complain(text(call, arguments) + " answered " + got + ", due is " + due);
    }

    /** Beside both ends of what the argument at this place may be, and at the ends of int, the call is refused. */
    void outside(int least, int most, int at, String call, int... arguments) {
        for (int value : new int[] {least - 1, most + 1, Integer.MIN_VALUE, Integer.MAX_VALUE}) {
            refused(ARGUMENT, call, with(value, at, arguments));
        }
    }

    /** As outside, and both ends themselves are taken, the least one first. */
    void range(int least, int most, int at, String call, int... arguments) {
        outside(least, most, at, call, arguments);
        ask(call, with(least, at, arguments));
        ask(call, with(most, at, arguments));
    }

    private static int[] with(int value, int at, int[] arguments) {
        int[] changed = arguments.clone();
        changed[at] = value;
        return changed;
    }

    /** Numbers of which there is none, so many being there. */
    static int[] noneOf(int count) {
        return new int[] {-1, count, Integer.MIN_VALUE, Integer.MAX_VALUE};
    }

    /** A home approved for all and trained for all, as long as can be told. */
    int open(int place, int tongue, int beds) {
        int home = ask("home", place, tongue, beds);
        ask("approve", home, 0, 17, 20000);
        ask("train", home, 15, 20000);
        return home;
    }

    /** A child under CARE from today on, as long as can be told. */
    int kid(int days, int needs, int family, int place, int tongue) {
        int kid = ask("child", days, needs, family, place, tongue);
        ask("order", kid, FosterHouse.CARE, today, 7000);
        return kid;
    }

    /** A plain child of 3000 days, of that family. */
    int kid(int family) {
        return kid(3000, 0, family, 0, 0);
    }

    void pass(int days) {
        for (int left = days; left > 0; left -= 400) ask("pass", Math.min(left, 400));
    }

    /** Moves a child to and fro until there are so many stays, first to this home. */
    void fillStays(int upTo, int kid, int home, int other) {
        int moves = upTo - stays;
        for (int move = 0; move < moves; move++) ask("place", kid, move % 2 == 0 ? home : other);
    }

    /** If something was refused, all that can be asked in the calls that are left is to be as if it had not been told. */
    void lookForChanges() {
        if (!wasRefused) return;
        for (int worker = 0; worker < 5; worker++) lookOn("load", worker);
        for (int child = 0; child < 16; child++) lookAtChild(child);
        for (int home = 0; home < 10; home++) lookOn("owed", home);
        for (int stay = stays; stay >= 0; stay--) {
            lookOn("wasAllowed", stay);
            for (int what = 0; what < 5; what++) lookOn("stay", stay, what);
        }
        goOn();
    }

    private void lookAtChild(int child) {
        if (!(lookOn("risk", child) instanceof Integer)) return;
        lookOn("seeBy", child);
        lookOn("best", child);
        lookOn("counts", child, today);
        lookOn("counts", child, today + 1);
        lookOn("file", child, 0);
        for (int what = 0; what < 7; what++) lookOn("childIs", child, what);
        for (int home = 0; home < 10; home++) {
            if (!(lookOn("worth", child, home) instanceof Integer)) break;
            lookOn("why", child, home);
        }
    }

    private Object lookOn(String call, int... arguments) {
        return calls < MOST_CALLS - LEFT_FOR_THE_END ? look(call, arguments) : "no call is left";
    }

    /** Calls that tell something more show what asking does not. */
    private void goOn() {
        if (calls > MOST_CALLS - LEFT_FOR_THE_END) return;
        for (int child = 0; child < 3; child++) {
            look("visits", child, 1);
            look("handOver", child, 0);
        }
        for (int home = 0; home < 3; home++) look("blacken", home, 0);
        look("see", 0);
        look("report", 0, 9, 1);
        look("order", 0, FosterHouse.CARE, today, 100);
        look("place", 0, 0);
        look("child", 0, 0, 0, 0, 0);
        look("home", 0, 0, 1);
        look("pass", 1);
        for (int what = 0; what < 6; what++) look("childIs", 0, what);
        look("owed", 0);
        look("placeAll", 0);
    }
}
