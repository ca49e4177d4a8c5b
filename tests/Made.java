/** Tables made for a test, and what the document says of their rods. */
final class Made {
    static final int NONE = -6, UNKNOWN = -1, OUTSIDE = -2, STATE = -3, FULL = -4, NO = -5;
    static final long LOST = -1000000000000000000L;
    static final int[] MEN = {1, 2, 3, 5, 5, 3, 2, 1};
    static final int[] APART = {0, 16, 12, 8, 8, 12, 16, 0};
    static final int[] LAST_SLIDE = {40, 24, 16, 8, 8, 16, 24, 40};
    static final int[] FIRST_SLIDE = {20, 12, 8, 4, 4, 8, 12, 20};
    static final int[][] RODS_OF = {{0, 1, 3, 5}, {7, 6, 4, 2}};

    /** Rods are slid: a rod and its slide by turns. */
    static FourRods slid(int... rodsAndSlides) {
        FourRods x = new FourRods();
        for (int i = 0; i + 1 < rodsAndSlides.length; i += 2) x.slide(rodsAndSlides[i], rodsAndSlides[i + 1]);
        return x;
    }

    /** The ball is with a man whose rod is held, and rods are slid likewise. */
    static FourRods played(int rod, int man, int... rodsAndSlides) {
        FourRods x = slid(rodsAndSlides);
        x.hold(rod, true);
        x.ball(rod, man);
        return x;
    }

    static FourRods said(String text) {
        FourRods x = new FourRods();
        Due.write(x, text);
        return x;
    }

    /** Whom the evening on the pad leaves the ball with: 10 times the rod and the man. */
    static int receiver(FourRods x) {
        int rod = x.then(0);
        return rod < 0 ? rod : 10 * rod + x.then(1);
    }

    static int behind(FourRods x, String text) {
        Due.write(x, text);
        return receiver(x);
    }
}
