/** What the tests share: counting wrong answers, and making a desk from a text. */
final class Check {
    static final String DESK = "d1 31 1;c0,1,2,3,4,5;c0,1,2,6,7,8;t6 9;p6 9;p0 3;";
    private static int wrong = 0;

    private Check() {
    }

    static void due(String call, long got, long want) {
        if (got != want) {
            wrong++;
            System.out.println(call + " answered " + got + ", due is " + want);
        }
    }

    static void finish(String name) {
        System.out.println(name + ": " + (wrong == 0 ? "all answers are as due" : wrong + " answers are not as due"));
        if (wrong != 0) {
            System.exit(1);
        }
    }

    static void feed(CubeDays x, String text) {
        for (int i = 0; i < text.length(); i++) {
            due("feed " + i + " of " + text, x.feed(text.charAt(i)), i + 1);
        }
    }

    /** A new object with this desk, which must have no fault. */
    static CubeDays on(String text) {
        CubeDays x = new CubeDays();
        feed(x, text);
        int cubes = x.desk();
        if (cubes < 0) {
            due("desk() of " + text, cubes, 0);
        }
        return x;
    }
}
