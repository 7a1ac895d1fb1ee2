import java.lang.reflect.Constructor;
import java.lang.reflect.Field;
import java.lang.reflect.Method;
import java.lang.reflect.Modifier;
import java.util.Set;
import java.util.TreeSet;

/** The class has the document's face and nothing else that others can see. */
public final class FaceTest {
    private static final String FACE = """
        int addObject() IllegalStateException
        int addRange(int,int,int) IndexOutOfBoundsException,IllegalArgumentException,IllegalStateException
        int removeRange(int) IndexOutOfBoundsException,IllegalStateException
        int addMember(int,int) IndexOutOfBoundsException,IllegalArgumentException,UnsupportedOperationException,IllegalStateException
        int removeMember(int,int) IndexOutOfBoundsException,NoSuchElementException
        int values(int) IndexOutOfBoundsException
        boolean hasValue(int,int) IndexOutOfBoundsException,IllegalArgumentException
        int users(int) IndexOutOfBoundsException
        int addRule(int,char,int,int,int,int) IndexOutOfBoundsException,IllegalArgumentException,IllegalStateException
        int removeRule(int) NoSuchElementException
        int setLastDay(int,int) NoSuchElementException,IllegalArgumentException
        int rules()
        int ruleAt(int) IndexOutOfBoundsException
        boolean isInForce(int) NoSuchElementException
        int expiring(int,int) IllegalArgumentException
        char packet(int,int,int) IllegalArgumentException
        int decider(int,int,int) IllegalArgumentException
        int hits(int) NoSuchElementException
        int busyDays(int) NoSuchElementException
        int idleDays(int) NoSuchElementException
        int pass(int) IllegalArgumentException
        int day()
        int matched(int) NoSuchElementException
        int decided(int) NoSuchElementException
        int decidedBySamples(int) NoSuchElementException
        boolean isShadowed(int) NoSuchElementException
        int mainShadow(int) NoSuchElementException
        int accepted()
        int changedByMove(int,int) NoSuchElementException,IndexOutOfBoundsException
        int move(int,int) NoSuchElementException,IndexOutOfBoundsException,UnsupportedOperationException
        int sortByHits()
        int changedByRange(int,int,int) IndexOutOfBoundsException,IllegalArgumentException
        float shadowedShare() ArithmeticException
        double meanHits() ArithmeticException
        """;

    private FaceTest() {
    }

    public static void main(String[] args) {
        Set<String> wanted = new TreeSet<>();
        for (String line : FACE.split("\n")) {
            wanted.add(line.strip());
        }
        Set<String> found = new TreeSet<>();
        Set<String> hidden = new TreeSet<>();
        for (Method method : FilterRules.class.getDeclaredMethods()) {
            if (Modifier.isPrivate(method.getModifiers())) {
                hidden.add(method.getName());
            } else {
                found.add(signatureOf(method));
            }
        }
        Due.same(wanted.toString(), "the public methods", found.toString());
        for (String line : wanted) {
            String name = line.substring(line.indexOf(' ') + 1, line.indexOf('('));
            Due.answers(false, "a private method " + name, () -> hidden.contains(name));
        }
        int modifiers = FilterRules.class.getModifiers();
        Due.answers(true, "public and final",
            () -> Modifier.isPublic(modifiers) && Modifier.isFinal(modifiers));
        Constructor<?>[] constructors = FilterRules.class.getDeclaredConstructors();
        Due.answers("[public FilterRules()]", "the constructors",
            () -> java.util.Arrays.toString(constructors));
        for (Field field : FilterRules.class.getDeclaredFields()) {
            int of = field.getModifiers();
            Due.answers(true, field.getName() + " is private", () -> Modifier.isPrivate(of));
            Due.answers(true, field.getName() + " is no static variable",
                () -> !Modifier.isStatic(of) || Modifier.isFinal(of));
        }
        Due.end();
    }

    private static String signatureOf(Method method) {
        StringBuilder parameters = new StringBuilder();
        for (Class<?> type : method.getParameterTypes()) {
            parameters.append(parameters.isEmpty() ? "" : ",").append(type.getSimpleName());
        }
        StringBuilder thrown = new StringBuilder();
        for (Class<?> type : method.getExceptionTypes()) {
            thrown.append(thrown.isEmpty() ? " " : ",").append(type.getSimpleName());
        }
        return method.getReturnType().getSimpleName() + " " + method.getName() + "("
            + parameters + ")" + thrown;
    }
}
