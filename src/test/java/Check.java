/** What the project's own tests share: counts what is not as due, and makes towns from texts. */
final class Check {
    private int wrong = 0;
    private int looked = 0;
    private String part = "";

    /** Names the promise that the next lines are about. */
    void promise(int number) {
        part = "promise " + number;
    }

    void due(String call, long got, long want) {
        looked++;
        if (got != want) {
            wrong++;
            System.out.println(part + ": " + call + " answered " + got + ", due is " + want);
        }
    }

    void holds(String what, boolean so) {
        due(what, so ? 1 : 0, 1);
    }

    /** Ends the test's program: exit code 1 if an answer was not as due. */
    void end() {
        System.out.println(looked + " looked at, " + wrong + " not as due");
        if (wrong != 0 || looked == 0) {
            System.exit(1);
        }
    }

    /** Lays a text into a sheet of a lane. */
    static void write(BogTown x, int sheet, int lane, String text) {
        x.sheet(sheet, lane, text.length());
        for (int i = 0; i < text.length(); i++) {
            x.put(sheet, i, text.charAt(i));
        }
    }

    /** What town answers to a text, on an object that may have one already. */
    static int read(BogTown x, String text) {
        write(x, 0, 0, text);
        return x.town(0, 0, 0, text.length());
    }

    /** A new object with a town by a text. */
    static BogTown town(String text) {
        BogTown x = new BogTown();
        if (read(x, text) < 0) {
            throw new IllegalStateException("no town: " + text);
        }
        return x;
    }
}
