import java.lang.reflect.InvocationTargetException;
import java.lang.reflect.Method;
import java.util.ArrayList;
import java.util.HashMap;
import java.util.List;
import java.util.Map;

/**
 * Scripts of calls on new objects, with the answers due. A script is words between blanks:
 * name(a,b)=want is a call and the answer due; !name(a,b)=want is one that must be refused so,
 * with nothing changed but how many of that refusal there were; L:TEXT tells the letters of TEXT;
 * B:TEXT tells them and makes them the bay.
 */
final class Script {
    private static final int MOST_CALLS = 512;
    private static final int FAR = 1000000000;
    private static final Map<String, Method> FACE = new HashMap<>();

    static int answers = 0;
    static int wrong = 0;

    private Script() {
    }

    static void check(String label, String script) {
        String[] words = script.trim().split(" +");
        Embayed x = new Embayed();
        int calls = 0;
        for (int i = 0; i < words.length; i++) {
            String word = words[i];
            if (word.startsWith("!")) checkNothingChanges(label, script, words, i);
            calls += callsIn(word);
            long got = say(x, word);
            if (word.startsWith("L:")) continue;
            answers++;
            if (got != due(word)) fail(label, word + " answered " + got + ", due is " + due(word) + " in: " + script);
        }
        if (calls > MOST_CALLS) fail(label, calls + " calls of one object in: " + script);
    }

    static void fail(String label, String what) {
        wrong++;
        System.out.println(label + ": " + what);
    }

    /** Ends the run as a test ends: with 1 if an answer was not as due. */
    static void end(String name) {
        System.out.println(name + ": " + answers + " answers, " + (wrong == 0 ? "all as due" : wrong + " not as due"));
        if (wrong != 0) System.exit(1);
    }

    private static void checkNothingChanges(String label, String script, String[] words, int at) {
        Embayed refused = before(words, at);
        Embayed untouched = before(words, at);
        say(refused, words[at]);
        List<String> seen = looks(refused);
        List<String> due = looks(untouched);
        long want = due(words[at]);
        int number = (int) (want < 0 ? -want : want - FAR);
        for (int i = 0; i < due.size(); i++) {
            String look = due.get(i);
            if (look.startsWith("count(" + (10 + number) + ")=")) {
                look = "count(" + (10 + number) + ")=" + (valueOf(look) + 1);
            }
            if (i >= seen.size() || !look.equals(seen.get(i))) {
                fail(label, "the refused " + words[at] + " leaves " + (i < seen.size() ? seen.get(i) : "nothing") + " where " + look + " is due in: " + script);
                return;
            }
        }
    }

    private static Embayed before(String[] words, int at) {
        Embayed x = new Embayed();
        for (int i = 0; i < at; i++) say(x, words[i]);
        return x;
    }

    /** All that can be seen of an object, which is used up by it. */
    private static List<String> looks(Embayed x) {
        List<String> looks = new ArrayList<>();
        for (int what : new int[] {11, 12, 13, 14, 15, 16, 0, 1, 2, 3, 4, 5, 6}) look(x, looks, "count(" + what + ")");
        int cells = x.count(0) * x.count(1);
        for (int cell = 0; cell < cells; cell++) look(x, looks, "cell(" + cell + ")");
        lookAtShip(x, looks);
        look(x, looks, "judge()");
        look(x, looks, "bay()");
        for (int ten = 0; ten < 40 && x.count(6) == 1; ten++) {
            look(x, looks, "now(10)");
            look(x, looks, "now(11)");
            look(x, looks, "run(1)");
        }
        for (int what = 0; what < 7; what++) look(x, looks, "set(" + what + ",1)");
        look(x, looks, "on()");
        lookAtShip(x, looks);
        for (int what = 0; what < 7; what++) look(x, looks, "set(" + what + ",2)");
        return looks;
    }

    private static void lookAtShip(Embayed x, List<String> looks) {
        for (int what = 0; what < 14 && x.count(6) == 1; what++) look(x, looks, "now(" + what + ")");
    }

    private static void look(Embayed x, List<String> looks, String call) {
        looks.add(call + "=" + say(x, call));
    }

    private static int callsIn(String word) {
        if (word.startsWith("L:")) return word.length() - 2;
        return word.startsWith("B:") ? word.length() - 1 : 1;
    }

    private static long due(String word) {
        return word.startsWith("B:") ? word.substring(2).replace("/", "").length() : valueOf(word);
    }

    private static long valueOf(String word) {
        return Long.parseLong(word.substring(word.indexOf('=') + 1));
    }

    private static long say(Embayed x, String word) {
        if (word.startsWith("L:") || word.startsWith("B:")) {
            for (int i = 2; i < word.length(); i++) x.letter(word.charAt(i));
            return word.startsWith("B:") ? x.bay() : 0;
        }
        int open = word.indexOf('(');
        String name = word.substring(word.startsWith("!") ? 1 : 0, open);
        String between = word.substring(open + 1, word.indexOf(')'));
        String[] told = between.isEmpty() ? new String[0] : between.split(",");
        Object[] values = new Object[told.length];
        for (int i = 0; i < told.length; i++) values[i] = Integer.parseInt(told[i]);
        try {
            return (Integer) method(name, told.length).invoke(x, values);
        } catch (IllegalAccessException | InvocationTargetException e) {
            throw new IllegalStateException(word, e);
        }
    }

    private static Method method(String name, int parameters) {
        Method known = FACE.get(name + parameters);
        if (known != null) return known;
        for (Method m : Embayed.class.getMethods()) {
            if (m.getName().equals(name) && m.getParameterCount() == parameters) {
                FACE.put(name + parameters, m);
                return m;
            }
        }
        throw new IllegalStateException("no method " + name + " with " + parameters);
    }
}
