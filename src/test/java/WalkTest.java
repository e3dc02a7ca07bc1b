/** Many walks; what an object answers, and what is seen of it at last, must be what the model shows. */
public final class WalkTest {
    private static final int WALKS = 6000;
    // Each method with the reasons for which the document lets it be refused; read with those that walks often meet.
    private static final int[][] REASONS = {
        {Walk.COAT, 1}, {Walk.ACT, 1}, {Walk.WEAR, 2}, {Walk.SEAMSTRESS, 1}, {Walk.SEW, 3, 4, 6, 5, 7},
        {Walk.SPANGLE, 3, 4, 8, 9, 5, 7}, {Walk.LET_OUT, 3, 4, 10, 5, 7}, {Walk.PATCH, 4, 11, 12, 5}, {Walk.TRUNK, 1},
        {Walk.PACK, 3, 16, 1}, {Walk.UNPACK, 18, 16}, {Walk.LOAD, 16}, {Walk.UNLOAD, 17}, {Walk.GO_ON, 13, 3, 14, 15},
        {Walk.READ, 2, 3, 4, 6, 13, 14, 15, 16, 17}};

    public static void main(String[] args) {
        Check.part("walks against the model");
        int[] reached = new int[19];
        for (int i = 1; i <= WALKS; i++) {
            Walk walk = new Walk(i * 7919L, reached);
            boolean agrees = walk.agrees();
            if (!agrees) {
                System.out.println(walk.story());
            }
            Check.is(agrees, true);
            if (!agrees) {
                break;
            }
        }
        for (int[] row : REASONS) {
            for (int i = 1; i < row.length; i++) {
                Check.part("method " + row[0] + " of the walks is refused for reason " + row[i]);
                Check.is((reached[row[i]] >> row[0] & 1) != 0, true);
            }
        }
        Check.end();
    }
}
