import java.lang.reflect.InvocationTargetException;
import java.lang.reflect.Method;
import java.lang.reflect.Modifier;
import java.util.ArrayList;
import java.util.Comparator;
import java.util.List;
import java.util.Set;
import java.util.function.Supplier;

/** A call that only asks answers the same when it is asked again, and changes nothing that a house tells of itself. */
public final class AskedCalls extends Answers {
    private static final Set<String> ASKING = Set.of("face", "fits", "plating", "ofPiece", "sheet", "holes", "way", "due",
            "ofCover", "franking", "ofIssue", "weight", "likely", "standing", "trust", "ofSale", "alone", "near", "value",
            "frame", "isSound", "digest");
    /** Each is asked twice, beside those calls that a house and its Witness need, of 512. */
    private static final int CALLS = 28;

    public static void main(String[] args) {
        List<Method> asking = new ArrayList<>();
        for (Method method : PerfgaugeHouse.class.getDeclaredMethods()) {
            if (Modifier.isPublic(method.getModifiers()) && ASKING.contains(method.getName())) asking.add(method);
        }
        asking.sort(Comparator.comparing(Method::getName));
        compare("all that ask are there", ASKING.size(), asking.size());
        List<Supplier<PerfgaugeHouse>> houses = List.of(PerfgaugeHouse::new, Houses::some, Houses::full);
        for (Supplier<PerfgaugeHouse> house : houses) {
            String untouched = Witness.of(house.get());
            for (Method method : asking) {
                PerfgaugeHouse x = house.get();
                for (int turn = 0; turn < CALLS; turn++) askTwice(x, method, turn);
                compare(method.getName() + " changes nothing", true, untouched.equals(Witness.of(x)));
            }
        }
        end();
    }

    private static void askTwice(PerfgaugeHouse x, Method method, int turn) {
        Object[] given = new Object[method.getParameterCount()];
        int left = turn;
        for (int i = 0; i < given.length; i++) {
            boolean isFlag = method.getParameterTypes()[i] == boolean.class;
            given[i] = isFlag ? (Object) (left % 2 == 0) : (Object) (left % 5 + turn / 14);
            left = isFlag ? left / 2 : left / 5 + turn % 3;
        }
        Object first = answer(x, method, given);
        compare(method.getName() + " of turn " + turn + " asked again", first, answer(x, method, given));
    }

    private static Object answer(PerfgaugeHouse x, Method method, Object[] given) {
        try {
            return method.invoke(x, given);
        } catch (InvocationTargetException e) {
            return "throws " + e.getCause().getClass().getSimpleName();
        } catch (IllegalAccessException e) {
            throw new IllegalStateException(e);
        }
    }
}
