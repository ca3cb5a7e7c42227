/** What the tests share: answers compared with those that are due, and pieces typed in. */
final class Check {
    private int wrong;

    void due(String call, long got, long want) {
        if (got != want) {
            wrong++;
            System.out.println(call + " answered " + got + ", due is " + want);
        }
    }

    void holds(String what, boolean so) {
        if (!so) {
            wrong++;
            System.out.println(what + " does not hold");
        }
    }

    static void type(TriangleRest rest, String text) {
        for (int i = 0; i < text.length(); i++) {
            rest.type(text.charAt(i));
        }
    }

    static TriangleRest reading(String text) {
        TriangleRest rest = new TriangleRest();
        type(rest, text);
        rest.piece();
        return rest;
    }

    void end() {
        System.out.println(wrong == 0 ? "all answers are as due" : wrong + " answers are not as due");
        if (wrong != 0) {
            System.exit(1);
        }
    }
}
