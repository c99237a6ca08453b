/** The edges of promises 22 to 27 and of what the document says of KINDS and ASKS, sentence by sentence. */
final class AskedEdgesTest {
    private static final Due due = new Due();
    private static final int BAD = SeaGates.BAD, NONE = SeaGates.NONE, FULL = SeaGates.FULL;
    private static final int MIN = Integer.MIN_VALUE, MAX = Integer.MAX_VALUE;
    private static final int GATE = 0, HANDED = 1, TWIN = 2, SLOW = 3;
    private static final int COST = 0, MARK = 1;

    public static void main(String[] args) {
        kinds();
        asKinds();
        asRefusals();
        askRefusals();
        bodies();
        cutByTwo();
        failedOnes();
        greatestAsks();
        trace();
        traceStays();
        count();
        statusAtFirst();
        statusOfEach();
        statusStays();
        due.end();
    }

    private static Sentence of(String words) {
        return new Sentence(due, words);
    }

    private static void kinds() {
        int[][] cases = { // minutes, by hand, KIND
            {1, 0, GATE}, {199, 0, GATE}, {200, 0, SLOW}, {201, 0, SLOW}, {500, 0, SLOW}, {1, 1, TWIN}, {1, 2, HANDED}, {1, 2000, HANDED},
            {2, 1, TWIN}, {199, 199, TWIN}, {199, 200, HANDED}, {200, 1, TWIN}, {200, 199, TWIN}, {200, 200, TWIN}, {200, 201, HANDED},
            {500, 499, TWIN}, {500, 500, TWIN}, {500, 501, HANDED}, {500, 2000, HANDED}, {500, 1, TWIN},
        };
        for (int[] c : cases) {
            of("It is told as the first that fits of TWIN, HANDED, SLOW, GATE").with("gate", c[0], c[1]).is(c[2], "kind", 0)
                .with("fail", 0).is(c[2], "kind", 0).with("mend", 0).is(c[2], "kind", 0).is(0, "status");
        }
        of("The KIND of a GATE, as it is told. BAD.").is(BAD, "kind", 0).with("gate", 1, 1).is(BAD, "kind", 1).is(BAD, "kind", -1)
            .is(BAD, "kind", MIN).is(BAD, "kind", MAX).is(TWIN, "kind", 0);
    }

    private static void asKinds() {
        int[][] gates = {{199, 0}, {100, 101}, {100, 100}, {200, 0}};
        String[] is = {"0", "01", "012", "03"};
        for (int told = GATE; told <= SLOW; told++) {
            for (int kind = GATE; kind <= SLOW; kind++) {
                boolean too = is[told].indexOf((char) ('0' + kind)) >= 0;
                of("A GATE is taken as one of a KIND (0 .. 3): its minutes. BAD; KIND: it is not that, too.")
                    .with("drop", 0).is(1, "status").with("gate", gates[told][0], gates[told][1])
                    .is(too ? gates[told][0] : Due.KIND, "as", 0, kind).is(too ? 0 : 3, "status").is(told, "kind", 0)
                    .with("fail", 0).is(too ? gates[told][0] : Due.KIND, "as", 0, kind);
            }
        }
    }

    private static void asRefusals() {
        of("A GATE is taken as one of a KIND (0 .. 3): its minutes. BAD;").is(BAD, "as", 0, 0).is(0, "status").with("gate", 9, 0)
            .is(BAD, "as", 0, -1).is(BAD, "as", 0, 4).is(BAD, "as", 0, MIN).is(BAD, "as", 0, MAX).is(BAD, "as", -1, 0).is(BAD, "as", 1, 0)
            .is(BAD, "as", MIN, 0).is(BAD, "as", MAX, 0).is(BAD, "as", 1, 1).is(BAD, "as", 1, 4).is(0, "status")
            .is(Due.KIND, "as", 0, 1).is(3, "status").is(BAD, "as", 0, 4).is(BAD, "as", 1, 0).is(3, "status").is(9, "as", 0, 0).is(0, "status");
    }

    private static void askRefusals() {
        of("An ASK (0, 1) of a GATE. BAD.").is(BAD, "ask", 0, 0).is(BAD, "ask", 0, 1).with("gate", 9, 0)
            .is(BAD, "ask", 0, -1).is(BAD, "ask", 0, 2).is(BAD, "ask", 0, MIN).is(BAD, "ask", 0, MAX).is(BAD, "ask", -1, 0).is(BAD, "ask", 1, 0)
            .is(BAD, "ask", MIN, 1).is(BAD, "ask", MAX, 1).is(BAD, "ask", 1, 2).is(9, "ask", 0, 0).is(0, "ask", 0, 1);
    }

    private static void asked(Sentence s, int gate, int what, int want, int... bodies) {
        s.is(want, "ask", gate, what);
        for (int i = 0; i <= 16; i++) {
            s.is(i < bodies.length ? bodies[i] : NONE, "trace", i);
        }
    }

    private static void bodies() {
        String words = "Of an ask the BODY told for the KIND begins, else that of the nearest KIND that it is, too, else the one that is lent; "
            + "COST within another one is asked of the same GATE anew.";
        asked(of(words).with("gate", 199, 0), 0, COST, 199, 10);
        asked(of(words).with("gate", 199, 0), 0, MARK, 0, 20);
        asked(of(words).with("gate", 100, 101), 0, COST, 201, 11, 10);
        asked(of(words).with("gate", 100, 101), 0, MARK, 201, 21, 20, 11, 10);
        asked(of(words).with("gate", 100, 100), 0, COST, 100, 12, 11, 10);
        asked(of(words).with("gate", 100, 100), 0, MARK, 100, 21, 20, 12, 11, 10);
        asked(of(words).with("gate", 200, 0), 0, COST, 1200, 13, 10);
        asked(of(words).with("gate", 200, 0), 0, MARK, -1200, 22, 20, 13, 10);
    }

    private static void cutByTwo() {
        asked(of("what 11 gives, by 2, cut").with("gate", 2, 1), 0, COST, 1, 12, 11, 10);
        asked(of("what 11 gives, by 2, cut").with("gate", 1, 1), 0, COST, 1, 12, 11, 10);
        asked(of("what 11 gives, by 2, cut").with("gate", 500, 499), 0, COST, 499, 12, 11, 10);
    }

    private static void failedOnes() {
        String words = "1 if it is FAILED, else 0";
        asked(of(words).with("gate", 199, 0).with("fail", 0), 0, MARK, 1, 20);
        asked(of(words).with("gate", 100, 101).with("fail", 0), 0, MARK, 202, 21, 20, 11, 10);
        asked(of(words).with("gate", 100, 100).with("fail", 0), 0, MARK, 101, 21, 20, 12, 11, 10);
        asked(of(words).with("gate", 200, 0).with("fail", 0), 0, MARK, -1199, 22, 20, 13, 10);
        asked(of(words).with("gate", 200, 0).with("fail", 0), 0, COST, 1200, 13, 10);
        asked(of(words).with("gate", 199, 0).with("fail", 0).with("mend", 0), 0, MARK, 0, 20);
    }

    private static void greatestAsks() {
        of("what 10 gives, and by hand").with("gate", 500, 2000).is(2500, "ask", 0, COST).with("fail", 0).is(2501, "ask", 0, MARK);
        of("what 10 gives, and 1000").with("gate", 500, 0).is(1500, "ask", 0, COST).is(-1500, "ask", 0, MARK);
        of("minutes to shut").with("gate", 1, 0).is(1, "ask", 0, COST);
    }

    private static void trace() {
        of("Number i of THE TRACE; NONE.").is(NONE, "trace", 0).is(NONE, "trace", -1).is(NONE, "trace", 15).is(NONE, "trace", 16)
            .is(NONE, "trace", MIN).is(NONE, "trace", MAX).is(0, "status");
        of("Number i of THE TRACE; NONE.").with("gate", 1, 1).with("ask", 0, MARK).is(21, "trace", 0).is(10, "trace", 4)
            .is(NONE, "trace", 5).is(NONE, "trace", -1).is(NONE, "trace", 15).is(NONE, "trace", 16).is(NONE, "trace", MIN).is(NONE, "trace", MAX);
    }

    private static void traceStays() {
        String words = "THE TRACE is empty ahead of it (where that is refused it stays).";
        Sentence s = of(words).with("gate", 1, 1).with("gate", 1, 0).with("ask", 0, MARK);
        int[][] refused = {{-1, 0}, {2, 0}, {0, -1}, {0, 2}, {1, 2}, {MAX, MAX}};
        for (int[] c : refused) {
            s.is(BAD, "ask", c[0], c[1]).is(21, "trace", 0).is(20, "trace", 1).is(12, "trace", 2).is(11, "trace", 3).is(10, "trace", 4);
        }
        // The next ask, shorter, leaves nothing of the one ahead of it.
        asked(s, 1, COST, 1, 10);
        asked(s, 0, COST, 1, 12, 11, 10);
        asked(s, 0, COST, 1, 12, 11, 10);
        // No other call than ask() changes it.
        s.with("gate", 1, 0).with("fail", 0).with("kind", 0).with("as", 0, 1).with("as", 1, 3).with("time", 1, 1).with("sheet", 0, 0, 1);
        s.is(12, "trace", 0).is(10, "trace", 2).is(NONE, "trace", 3);
    }

    private static void count() {
        of("How many: 0 SHEETS, 1 WORLDS, 2 all weights, 3 GATES, 4 FAILED ones, 5 SHIPS. BAD.")
            .is(BAD, "count", -1).is(BAD, "count", 6).is(BAD, "count", MIN).is(BAD, "count", MAX).is(0, "status")
            .with("sheet", 0, 0, 8).with("sheet", 1, 0, 0).with("sheet", 2, 0, 0).with("sheet", 3, 0, 0).with("sheet", 4, 0, 0)
            .with("world", 20, 0, 0).with("gate", 1, 0).with("gate", 1, 0).with("gate", 1, 0).with("gate", 1, 0)
            .with("fail", 0).with("fail", 3).with("ship", 0, 1).with("ship", 0, 1).with("ship", 0, 1)
            .is(5, "count", 0).is(1, "count", 1).is(20, "count", 2).is(4, "count", 3).is(2, "count", 4).is(3, "count", 5);
    }

    private static void statusAtFirst() {
        of("0: it had none, or there was none").is(0, "status").is(BAD, "drop", 8).is(0, "status").is(BAD, "as", 0, 0).is(0, "status")
            .with("best").with("gate", 1, 0).with("ask", 0, 0).is(0, "status").is(Due.NULL, "drop", 0).is(1, "status").is(1, "status");
    }

    /** Each call with a SHEET, and as(): where it is fine, status() is 0 behind a FINDING; where it finds, the number. */
    private static void statusOfEach() {
        String words = "Of the latest call with a SHEET, or as(), that was not BAD, STATE, FULL: the number of its FINDING; 0: it had none";
        Object[][] fine = {
            {"sheet", new int[] {5, 0, 0}}, {"set", new int[] {0, 0, 1}}, {"copy", new int[] {0, 0, 0, 1, 2}}, {"copy", new int[] {0, 0, 1, 0, 0}},
            {"drop", new int[] {1}}, {"world", new int[] {1, 0, 0}}, {"closings", new int[] {0, 0, 8, 0, 0, 0}},
            {"tooMany", new int[] {0, 0, 8, 0, 0, 0}}, {"tooMany", new int[] {0, 0, 8, 0, 0, 8}}, {"as", new int[] {0, 0}},
        };
        for (Object[] c : fine) {
            ready(words).is(Due.KIND, "as", 0, 1).is(3, "status").with((String) c[0], (int[]) c[1]).is(0, "status");
        }
        Object[][] found = {
            {"sheet", new int[] {5, 0, -1}, 4}, {"set", new int[] {5, 0, 1}, 1}, {"set", new int[] {0, 8, 1}, 2}, {"copy", new int[] {0, 0, 5, 0, 0}, 1},
            {"copy", new int[] {0, 0, 2, 0, 0}, 5}, {"copy", new int[] {0, 0, 1, 0, 9}, 2}, {"drop", new int[] {5}, 1}, {"world", new int[] {1, 5, 0}, 1},
            {"world", new int[] {1, 0, 1}, 2}, {"closings", new int[] {5, 0, 1, 0, 0, 0}, 1}, {"closings", new int[] {0, 8, 1, 0, 0, 0}, 2},
            {"tooMany", new int[] {5, 0, 1, 0, 0, 0}, 1}, {"tooMany", new int[] {0, 8, 1, 0, 0, 0}, 2}, {"as", new int[] {0, 1}, 3},
        };
        for (Object[] c : found) {
            int number = (Integer) c[2];
            ready(words).is(9, "as", 0, 0).is(0, "status").is(-1000010 - number, (String) c[0], (int[]) c[1]).is(number, "status");
        }
    }

    /** SHEETS 0 and 1 of one LANE, 2 of another; a GATE of 9 minutes. */
    private static Sentence ready(String words) {
        return of(words).with("sheet", 0, 1, 8).with("sheet", 1, 1, 8).with("sheet", 2, 0, 8).with("gate", 9, 0);
    }

    /** BAD and FULL ones, and calls without a SHEET, leave status() as it is. */
    private static void statusStays() {
        String words = "Of the latest call with a SHEET, or as(), that was not BAD, STATE, FULL";
        Object[][] calls = {
            {"sheet", new int[] {8, 0, -1}}, {"sheet", new int[] {0, 0, 61}}, {"set", new int[] {8, 0, 0}}, {"copy", new int[] {0, 0, 8, 0, 0}},
            {"drop", new int[] {-1}}, {"world", new int[] {0, 0, 0}}, {"world", new int[] {1, 0, 0}}, {"closings", new int[] {0, 0, 0, 0, 0, 0}},
            {"tooMany", new int[] {0, 0, 1, 0, 0, -1}}, {"as", new int[] {0, 4}}, {"as", new int[] {6, 0}},
            {"river", new int[] {0, 0}}, {"river", new int[] {8, 0}}, {"rule", new int[] {2, 0}}, {"rule", new int[] {8, 0}}, {"best", new int[] {}},
            {"hour", new int[] {0, 0, 0}}, {"hour", new int[] {8, 0, 0}}, {"shutAt", new int[] {0}}, {"shutAt", new int[] {9}},
            {"alarm", new int[] {}}, {"groups", new int[] {0}}, {"groups", new int[] {8}}, {"gate", new int[] {0, 0}}, {"gate", new int[] {1, 0}},
            {"fail", new int[] {0}}, {"fail", new int[] {6}}, {"mend", new int[] {0}}, {"mend", new int[] {6}}, {"time", new int[] {1, 0}},
            {"time", new int[] {1, 1}}, {"time", new int[] {0, 0}}, {"ship", new int[] {0, 1}}, {"ship", new int[] {-1, 1}},
            {"waits", new int[] {0, 0, 0}}, {"waits", new int[] {20, 0, 0}}, {"kind", new int[] {0}}, {"kind", new int[] {6}},
            {"ask", new int[] {0, 0}}, {"ask", new int[] {0, 2}}, {"trace", new int[] {0}}, {"trace", new int[] {-1}}, {"count", new int[] {0}},
            {"count", new int[] {6}}, {"status", new int[] {}},
        };
        for (Object[] c : calls) {
            Sentence s = ready(words);
            for (int world = 0; world < 8; world++) {
                s.is(world, "world", 1, 0, 0);
            }
            s.is(FULL, "world", 1, 0, 0).is(0, "status");
            s.with((String) c[0], (int[]) c[1]).is(0, "status").is(Due.KIND, "as", 0, 1).with((String) c[0], (int[]) c[1]).is(3, "status");
        }
    }
}
