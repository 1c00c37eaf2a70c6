/** Counts the answers that are not as due; it is no test itself. */
final class Check {
    private int wrong = 0;
    private int asked = 0;

    void due(String call, long got, long want) {
        asked++;
        if (got != want) {
            wrong++;
            if (wrong <= 40) {
                System.out.println(call + " answered " + got + ", due is " + want);
            }
        }
    }

    void holds(String what, boolean so) {
        due(what, so ? 1 : 0, 1);
    }

    /** Prints how it went, and ends the run with 1 if an answer was wrong. */
    void end() {
        System.out.println(asked + " answers, " + wrong + " of them not as due");
        if (wrong != 0 || asked == 0) {
            System.exit(1);
        }
    }

    static int typeAll(DayCubes x, String text) {
        int answer = x.count(5);
        for (int i = 0; i < text.length(); i++) {
            answer = x.type(text.charAt(i));
        }
        return answer;
    }

    static int tell(DayCubes x, String text) {
        x.clear();
        typeAll(x, text);
        return x.desk();
    }

    /** What desk() answers for a text on a new object. */
    static int deskOf(String text) {
        return tell(new DayCubes(), text);
    }

    /** A new object that a text was told to. */
    static DayCubes told(String text) {
        DayCubes x = new DayCubes();
        tell(x, text);
        return x;
    }
}
