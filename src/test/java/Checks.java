/** Counts answers that are not as due; shared by the tests of the project. */
final class Checks {
    private int wrong = 0;
    private int looked = 0;

    void due(String what, long got, long want) {
        looked++;
        if (got != want) {
            wrong++;
            if (wrong <= 30) {
                System.out.println(what + " answered " + got + ", due is " + want);
            }
        }
    }

    boolean isWrong() {
        return wrong > 0;
    }

    void end() {
        System.out.println(looked + " answers, " + wrong + " not as due");
        if (wrong > 0 || looked == 0) {
            System.exit(1);
        }
    }
}
