/** Many walks; all that is seen of the object after each call must be what the model shows. */
public final class WalkTest {
    private static final int WALKS = 400;
    private static final int CALLS = 400;

    public static void main(String[] args) {
        Check.part("walks against the model");
        int[] reached = new int[19];
        for (int i = 1; i <= WALKS; i++) {
            Walk walk = new Walk(i * 7919L, reached);
            boolean agrees = walk.agrees(CALLS);
            if (!agrees) {
                System.out.println(walk.story());
            }
            Check.is(agrees, true);
            if (!agrees) {
                break;
            }
        }
        for (int reason = 1; reason <= 18; reason++) {
            Check.part("reason " + reason + " is met in a walk");
            Check.is(reached[reason] != 0, true);
        }
        Check.end();
    }
}
