import java.lang.reflect.Method;
import java.util.ArrayList;
import java.util.HashMap;
import java.util.List;
import java.util.Map;

/**
 * A game and the calls that made it, so that twins of it can be made: one gets a call that must
 * change nothing, the other does not, and then both are asked for everything. A call is written as
 * its name and its arguments, "addDoor 0 1 30"; min and max stand for the least and greatest int.
 */
final class Run {
    /** What later calls answer is free. */
    private static final int MOST_CALLS = 512;
    private static final int LAST_TIME = 100000;
    private static final Map<String, Method> METHODS = methods();

    private final Check check;
    private final EscapeRooms game = new EscapeRooms();
    private final List<String> history = new ArrayList<>();

    Run(Check check, String... calls) {
        this.check = check;
        make(calls);
    }

    private static Map<String, Method> methods() {
        Map<String, Method> methods = new HashMap<>();
        for (Method method : EscapeRooms.class.getMethods()) {
            if (method.getDeclaringClass() == EscapeRooms.class) methods.put(method.getName(), method);
        }
        return methods;
    }

    /** A new game that gets the calls that this one got so far. */
    Run twin() {
        Run twin = new Run(check);
        for (String call : history) {
            twin.ask(call);
        }
        return twin;
    }

    /** The calls so far, for a message. */
    @Override
    public String toString() {
        return " after " + history;
    }

    /** Makes calls whose answers matter only in that they are no errors. */
    Run make(String... calls) {
        for (String call : calls) {
            int answer = ask(call);
            if (isError(answer)) check.isTrue(call + " answered the error " + answer, false);
        }
        return this;
    }

    Run make(int times, String call) {
        for (int i = 0; i < times; i++) {
            make(call);
        }
        return this;
    }

    private static boolean isError(int answer) {
        return answer <= EscapeRooms.UNKNOWN && answer >= EscapeRooms.TOO_LATE;
    }

    /** Lets a group wait until a time. */
    Run waits(int group, int time) {
        int rest = time - ask("group " + group + " 2");
        for (; rest > 0; rest -= 1000) {
            ask("idle " + group + " " + Math.min(rest, 1000));
        }
        check.due("group " + group + " waited", ask("group " + group + " 2"), time);
        return this;
    }

    Run waitsToTheEnd(int group) {
        return waits(group, LAST_TIME);
    }

    /** A call that changes the game. */
    Run answers(String call, int due) {
        check.due(call, ask(call), due);
        return this;
    }

    /** A call that tells something and changes nothing, which goes for NONE, too. */
    Run tells(String call, int due) {
        Run asked = twin();
        check.due(call, asked.ask(call), due);
        check.isTrue(call + " changes nothing that is told", asked.told().equals(twin().told()));
        asked = twin();
        asked.ask(call);
        check.isTrue(call + " changes nothing that shows later", asked.later().equals(twin().later()));
        return this;
    }

    /** A call that answers an error and changes nothing. */
    Run refuses(String call, int error) {
        check.isTrue(error + " is an error", isError(error));
        return tells(call, error);
    }

    /** An argument, written as ?, is refused beside its least and its greatest value, and not refused there. */
    Run limits(String call, int least, int greatest, int error) {
        refuses(call.replace("?", Integer.toString(least - 1)), error);
        refuses(call.replace("?", Integer.toString(greatest + 1)), error);
        refuses(call.replace("?", "min"), error);
        refuses(call.replace("?", "max"), error);
        for (int value : new int[] {least, greatest}) {
            String allowed = call.replace("?", Integer.toString(value));
            check.isTrue(allowed + " does not answer " + error, twin().ask(allowed) != error);
        }
        return this;
    }

    private static int number(String word) {
        switch (word) {
            case "min": return Integer.MIN_VALUE;
            case "max": return Integer.MAX_VALUE;
            default: return Integer.parseInt(word);
        }
    }

    int ask(String call) {
        history.add(call);
        if (history.size() > MOST_CALLS) {
            check.isTrue("the test itself asks one object " + history.size() + " times", false);
        }
        String[] words = call.split(" ");
        Object[] arguments = new Object[words.length - 1];
        for (int i = 0; i < arguments.length; i++) {
            arguments[i] = number(words[i + 1]);
        }
        try {
            return (Integer) METHODS.get(words[0]).invoke(game, arguments);
        } catch (ReflectiveOperationException e) {
            throw new IllegalStateException(call, e);
        }
    }

    /** All answers of the calls that tell, but for most rooms' ways. */
    private List<Integer> told() {
        List<Integer> answers = new ArrayList<>();
        askAll(answers, "count", 1, 11);
        askAll(answers, "color", 6, 2);
        askAll(answers, "door", ask("count 1"), 6);
        askAll(answers, "key", ask("count 2"), 5);
        int groups = ask("count 3");
        askAll(answers, "group", groups, 6);
        askAll(answers, "plan", groups, 2);
        askAll(answers, "planned", groups, 2);
        askAll(answers, "way", groups, 2);
        for (int group = 0; group < groups; group++) answers.add(ask("reach " + group));
        return answers;
    }

    private void askAll(List<Integer> answers, String name, int numbers, int whats) {
        for (int number = 0; number < numbers; number++) {
            String call = name.equals("count") ? name : name + " " + number;
            for (int what = 0; what < whats; what++) answers.add(ask(call + " " + what));
        }
    }

    /** What no call tells at once: from when keys lie, what hints cost, and what there is room for. */
    private List<Integer> later() {
        List<Integer> answers = new ArrayList<>();
        int groups = ask("count 3");
        int keys = ask("count 2");
        for (int group = 0; group < groups; group++) {
            for (int key = 0; key < keys; key++) answers.add(ask("take " + group + " " + key));
            answers.add(ask("group " + group + " 2"));
        }
        for (int group = 0; group < groups; group++) {
            for (int i = 0; i < 2; i++) answers.add(ask("hint " + group));
            answers.add(ask("group " + group + " 2"));
        }
        answers.add(ask("setHints 1 0"));
        addUntilFull(answers, "addRoom");
        addUntilFull(answers, "addLock 0 1 1 0 1");
        addUntilFull(answers, "addDoor 0 1 1");
        addUntilFull(answers, "addKey 0 0");
        addUntilFull(answers, "addGroup 1 0");
        return answers;
    }

    private void addUntilFull(List<Integer> answers, String call) {
        int answer = 0;
        for (int i = 0; answer >= 0 && i < 20; i++) {
            answer = ask(call);
            answers.add(answer);
        }
    }
}
