import java.lang.reflect.InvocationTargetException;
import java.lang.reflect.Method;
import java.util.Arrays;

/** One scene, to which calls are made as they are written, such as "add(0, 1, 5, 5)". */
final class Run {
    private final String title;
    private final TapestryScene scene = new TapestryScene();

    Run(String title) {
        this.title = title;
    }

    /** Makes calls, divided by "; ", whose answers do not matter here, but which must not throw. */
    Run after(String calls) {
        for (String call : calls.split("; ")) {
            String answer = told(call);
            Check.compare(title + ": " + call + " throws", answer.endsWith("Exception") ? answer : "nothing", "nothing");
        }
        return this;
    }

    Run due(String call, Object want) {
        Check.compare(title + ": " + call, told(call), String.valueOf(want));
        return this;
    }

    Run noSuch(String call) {
        return fails(call, "IndexOutOfBoundsException");
    }

    Run badArgument(String call) {
        return fails(call, "IllegalArgumentException");
    }

    Run badState(String call) {
        return fails(call, "IllegalStateException");
    }

    /** What the call answers, or the plain name of what it throws. */
    String told(String call) {
        return String.valueOf(answer(call));
    }

    /** Makes a call that may throw, but nothing that its method does not name. */
    void declared(Method method, Object[] arguments) {
        String answer = String.valueOf(answer(method, arguments));
        boolean isNamed = !answer.endsWith("Exception") && !answer.endsWith("Error");
        for (Class<?> exception : method.getExceptionTypes()) {
            isNamed |= exception.getSimpleName().equals(answer);
        }
        String call = title + ": " + method.getName() + Arrays.toString(arguments);
        Check.compare(call, isNamed ? "as named" : answer, "as named");
    }

    private Run fails(String call, String exception) {
        long before = scene.digest();
        due(call, exception);
        Check.compare(title + ": what is, after " + call, "" + scene.digest(), "" + before);
        return this;
    }

    private Object answer(String call) {
        int open = call.indexOf('(');
        String inside = call.substring(open + 1, call.length() - 1);
        String[] words = inside.isEmpty() ? new String[0] : inside.split(", ");
        Method method = method(call.substring(0, open), words.length);
        Object[] arguments = new Object[words.length];
        for (int i = 0; i < words.length; i++) {
            boolean isTruth = method.getParameterTypes()[i] == boolean.class;
            arguments[i] = isTruth ? (Object) truth(words[i]) : (Object) Integer.valueOf(words[i]);
        }
        return answer(method, arguments);
    }

    private Object answer(Method method, Object[] arguments) {
        try {
            return method.invoke(scene, arguments);
        } catch (InvocationTargetException e) {
            return e.getCause().getClass().getSimpleName();
        } catch (IllegalAccessException e) {
            throw new IllegalStateException(method.getName(), e);
        }
    }

    private static Boolean truth(String word) {
        if (!word.equals("true") && !word.equals("false")) {
            throw new IllegalArgumentException(word + " is neither true nor false");
        }
        return Boolean.valueOf(word);
    }

    private static Method method(String name, int arguments) {
        for (Method method : TapestryScene.class.getMethods()) {
            if (method.getName().equals(name) && method.getParameterCount() == arguments) {
                return method;
            }
        }
        throw new IllegalArgumentException("no method " + name + " of " + arguments + " arguments");
    }
}
