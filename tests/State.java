/** All that an object answers, as one text, so that two objects can be compared. */
final class State {
    private static final String[] PAD_ENDS = {"", "(", "1", "a"};

    /** Of asking calls alone: the object is as it was. */
    static String of(FourRods x) {
        StringBuilder text = new StringBuilder();
        for (int what = 0; what < 28; what++) add(text, "told", x.told(what));
        add(text, "fault", x.fault());
        for (int what = 0; what < 2; what++) add(text, "judge", x.judge(what));
        for (int what = 0; what < 7; what++) add(text, "then", x.then(what));
        for (int rod = 0; rod < 8; rod++) {
            add(text, "slide", x.behind(rod, 0));
            add(text, "held", x.behind(rod, 1));
        }
        add(text, "in", x.goesIn());
        for (int what = 0; what < 2; what++) add(text, "stand", x.stand(what));
        int rows = x.fits(-1);
        add(text, "rows", rows);
        for (int i = 0; i < rows; i++) add(text, "row", x.fits(i));
        for (int what = 0; what < 2; what++) add(text, "ask", x.ask(what));
        for (int what = 0; what < 3; what++) add(text, "year", x.year(77, 99, what));
        return text.toString();
    }

    /** And what is kept in images, and what the pad says: the object is another one then. */
    static String ofAll(FourRods x) {
        StringBuilder text = new StringBuilder(of(x));
        for (String end : PAD_ENDS) {
            for (char sign : end.toCharArray()) add(text, "say", x.say(sign));
            add(text, "fault", x.fault());
            add(text, "judge", x.judge(0));
        }
        add(text, "wipe", x.wipe());
        for (int n = 0; n < 2; n++) {
            add(text, "restore", x.restore(n));
            text.append(of(x));
        }
        return text.toString();
    }

    private static void add(StringBuilder text, String call, int answer) {
        text.append(call).append('=').append(answer).append(' ');
    }
}
