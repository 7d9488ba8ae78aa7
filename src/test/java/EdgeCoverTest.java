import java.lang.reflect.Method;

/** Each promise has tests of its boundary cases: their names begin with promise and its number. */
public final class EdgeCoverTest {
    private static final int PROMISES = 29;
    private static final Class<?>[] TESTS = {
        TextEdgeTest.class, DistanceEdgeTest.class, StationEdgeTest.class, EventEdgeTest.class,
        DescriptionEdgeTest.class, WouldBeEdgeTest.class, ChangeEdgeTest.class, UndoEdgeTest.class,
    };

    public static void main(String[] args) {
        Due due = new Due();
        int[] counts = new int[PROMISES + 1];
        for (Class<?> tests : TESTS) {
            for (Method method : tests.getDeclaredMethods()) {
                if (method.getName().matches("promise[0-9]{2}.+")) {
                    counts[Integer.parseInt(method.getName().substring(7, 9))]++;
                }
            }
        }
        for (int promise = 1; promise <= PROMISES; promise++) {
            due.same("promise " + promise + " has tests", true, counts[promise] > 0);
        }
        due.finish();
    }
}
