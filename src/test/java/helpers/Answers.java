/** What a test of answers needs: to ask a call, to hold its answer against what is due, and to end. */
public class Answers {
    public interface Call {
        Object answer();
    }

    protected static final String INDEX = "throws.IndexOutOfBoundsException";
    protected static final String ARGUMENT = "throws.IllegalArgumentException";
    protected static final String STATE = "throws.IllegalStateException";

    private static String sentence = "";
    private static int asked = 0;
    private static int wrong = 0;

    /** The sentence of the document of which the next answers are. */
    protected static void about(String itsWords) {
        sentence = itsWords;
    }

    /** Whether a call answers what is due (an exception by its name). */
    protected static void due(Object due, Call call) {
        compare(sentence, due, answerOf(call));
    }

    protected static void due(int promise, Object due, Call call) {
        compare("promise " + promise, due, answerOf(call));
    }

    /** An exception that the machine throws in the class is never due, whatever its name. */
    protected static Object answerOf(Call call) {
        try {
            return call.answer();
        } catch (RuntimeException e) {
            boolean isOwn = e.getStackTrace()[0].getClassName().startsWith("PerfgaugeHouse");
            return (isOwn ? "throws." : "the machine throws ") + e.getClass().getSimpleName();
        }
    }

    protected static void compare(String what, Object due, Object got) {
        asked++;
        if (!got.equals(due)) {
            wrong++;
            System.out.println(what + ", " + place() + ": answered " + got + ", due is " + due);
        }
    }

    private static String place() {
        for (StackTraceElement at : new Throwable().getStackTrace()) {
            if (!at.getClassName().equals("Answers")) return at.getFileName() + " line " + at.getLineNumber();
        }
        return "";
    }

    protected static void end() {
        System.out.println(wrong == 0 ? asked + " answers are as due" : wrong + " of " + asked + " are not as due");
        System.exit(wrong == 0 ? 0 : 1);
    }

    protected static PerfgaugeHouse house(int wide, int high) {
        PerfgaugeHouse x = new PerfgaugeHouse();
        x.plate(wide, high);
        return x;
    }
}
