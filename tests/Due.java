/** Counts and prints the answers that are not as due. */
final class Due {
    private int wrong = 0;
    private int asked = 0;
    private String subject = "";

    /** What is asked from here on is told as being about this. */
    void about(String what) {
        subject = what.isEmpty() ? "" : "[" + what + "] ";
    }

    void is(String call, long got, long want) {
        asked++;
        if (got == want) return;
        wrong++;
        if (wrong <= 20) System.out.println(subject + call + " answered " + got + ", due is " + want);
    }

    void holds(String what, boolean does) {
        is(what, does ? 1 : 0, 1);
    }

    void same(String what, String got, String want) {
        asked++;
        if (got.equals(want)) return;
        wrong++;
        if (wrong <= 20) System.out.println(subject + what + " was " + got + ", due is " + want);
    }

    /** Wipes the pad and says a text. */
    static void write(FourRods table, String text) {
        table.wipe();
        for (char sign : text.toCharArray()) table.say(sign);
    }

    void judged(FourRods table, String text, int act, int why) {
        write(table, text);
        is(text + ": fault()", table.fault(), FourRods.NONE);
        is(text + ": judge(0)", table.judge(0), act);
        is(text + ": judge(1)", table.judge(1), why);
    }

    void fine(FourRods table, String text) {
        judged(table, text, FourRods.NONE, FourRods.NONE);
    }

    void finish() {
        System.out.println(asked + " answers asked, " + wrong + " not as due");
        if (wrong != 0) System.exit(1);
    }
}
