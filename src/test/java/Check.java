/** Counts and prints the answers that are not as due; every test class ends with finish(). */
final class Check {
    private static int wrong;
    private static String part = "";

    private Check() {
    }

    static void part(String name) {
        part = name;
    }

    static int wrong() {
        return wrong;
    }

    static void due(String call, long got, long want) {
        if (got != want) {
            wrong++;
            if (wrong <= 40) {
                System.out.println(part + ": " + call + " answered " + got + ", due is " + want);
            }
        }
    }

    static void holds(String what, boolean does) {
        due(what, does ? 1 : 0, 1);
    }

    static void finish() {
        System.out.println(wrong == 0 ? "all answers are as due" : wrong + " answers are not as due");
        if (wrong != 0) {
            System.exit(1);
        }
    }
}
