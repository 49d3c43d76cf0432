/** Counts and prints the answers that are not those that are due. */
final class Due {
    private static int wrong = 0;
    private static int asked = 0;
    private static String subject = "";

    private Due() {
    }

    /** What the answers from here on are about; it is printed before those that are wrong. */
    static void about(String what) {
        subject = what;
    }

    static void due(String call, int got, int want) {
        asked++;
        if (got != want) {
            wrong++;
            System.out.println(subject + call + " answered " + got + ", due is " + want);
        }
    }

    static void end() {
        System.out.println(wrong == 0 ? asked + " answers are as due" : wrong + " of " + asked + " answers are not as due");
        if (wrong != 0) {
            System.exit(1);
        }
    }
}
