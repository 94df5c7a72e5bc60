/** Counts the answers that are not as due. */
final class Check {
    private int asked;
    private int wrong;
    private String about = "";

    /** What the checks from here on are about; it stands before each answer that is not as due. */
    void about(String words) {
        about = words.isEmpty() ? "" : "[" + words + "] ";
    }

    void due(String call, long got, long want) {
        asked++;
        if (got != want) {
            wrong++;
            System.out.println(about + call + " answered " + got + ", due is " + want);
        }
    }

    void isTrue(String what, boolean holds) {
        due(what, holds ? 1 : 0, 1);
    }

    /** Ends the program with exit code 1 if an answer was wrong. */
    void finish() {
        System.out.println(wrong == 0 ? asked + " answers are as due" : wrong + " of " + asked + " answers are not as due");
        if (wrong != 0) {
            System.exit(1);
        }
    }
}
