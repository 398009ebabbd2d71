import java.lang.reflect.Method;
import java.util.TreeSet;

/** Each promise and each term has tests of its sentences, and each such test quotes the sentence that it holds. */
final class BoundsTest {
    private static final Class<?>[] TESTS = {TermBoundsTest.class, CarBoundsTest.class, SecondBoundsTest.class,
        FutureBoundsTest.class, TextBoundsTest.class, SheetBoundsTest.class, ImageBoundsTest.class};

    public static void main(String[] args) {
        TreeSet<String> named = new TreeSet<>();
        for (Class<?> tests : TESTS) {
            for (Method method : tests.getDeclaredMethods()) {
                boolean says = method.isAnnotationPresent(Bounds.Says.class);
                boolean isNamed = method.getName().matches("(promise|term)[0-9]+[A-Z]\\w*");
                Due.holds(method + " is named after a promise or a term, or quotes one, but not both", says == isNamed);
                named.add(method.getName().replaceAll("^([a-z]+[0-9]+).*", "$1"));
            }
        }
        for (int promise = 1; promise <= 45; promise++) {
            Due.holds("promise " + promise + " has no test", named.contains("promise" + promise));
        }
        for (int term = 0; term <= 5; term++) {
            Due.holds("term " + term + " has no test", named.contains("term" + term));
        }
        Due.end();
    }
}
