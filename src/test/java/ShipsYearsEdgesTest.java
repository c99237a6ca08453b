/** The edges of promises 18 to 21 and of what the document says of SHIPS and YEARS, sentence by sentence. */
final class ShipsYearsEdgesTest {
    private static final Due due = new Due();
    private static final int BAD = SeaGates.BAD, NONE = SeaGates.NONE, FULL = SeaGates.FULL;
    private static final int MIN = Integer.MIN_VALUE, MAX = Integer.MAX_VALUE;

    public static void main(String[] args) {
        shipNumbers();
        shipRefusals();
        waitRefusals();
        asTheyCome();
        whileItIsShut();
        greatestWaits();
        years();
        rises();
        howManyPeaks();
        peakPlaces();
        yearRefusals();
        cutRise();
        above();
        noWrap();
        tooManyYears();
        tooManyThanM();
        due.end();
    }

    private static Sentence of(String words) {
        return new Sentence(due, words);
    }

    private static void shipNumbers() {
        of("A SHIP comes at a minute (0 to 100000), takes so many (1 to 500): its number.")
            .is(BAD, "ship", -1, 1).is(BAD, "ship", 100001, 1).is(BAD, "ship", MIN, 1).is(BAD, "ship", MAX, 1)
            .is(BAD, "ship", 0, 0).is(BAD, "ship", 0, 501).is(BAD, "ship", 0, -1).is(BAD, "ship", 0, MIN).is(BAD, "ship", 0, MAX)
            .is(0, "count", 5)
            .is(0, "ship", 0, 1).is(1, "ship", 100000, 1).is(2, "ship", 0, 500).is(3, "ship", 100000, 500).is(4, "count", 5)
            .is(0, "waits", 0, 0, 0).is(1, "waits", 2, 0, 0).is(0, "waits", 1, 0, 0).is(1, "waits", 3, 0, 0);
    }

    private static void shipRefusals() {
        Sentence s = of("BAD; FULL: 20.");
        for (int ship = 0; ship < 20; ship++) {
            s.is(BAD, "waits", ship, 0, 0).is(ship, "ship", 10, 2).is(ship + 1, "count", 5).is(2 * ship, "waits", ship, 0, 0);
        }
        s.is(FULL, "ship", 10, 2).is(FULL, "ship", 0, 1).is(BAD, "ship", -1, 2).is(BAD, "ship", 100001, 2).is(BAD, "ship", 10, 0);
        s.is(BAD, "ship", 10, 501).is(20, "count", 5).is(BAD, "waits", 20, 0, 0).is(38, "waits", 19, 0, 0);
    }

    private static void waitRefusals() {
        of("(this one not among them; 0 to 100000, the second not less). BAD.").with("ship", 50, 1)
            .is(BAD, "waits", -1, 0, 0).is(BAD, "waits", 1, 0, 0).is(BAD, "waits", MIN, 0, 0).is(BAD, "waits", MAX, 0, 0)
            .is(BAD, "waits", 0, -1, 0).is(BAD, "waits", 0, -1, -1).is(BAD, "waits", 0, MIN, 0).is(BAD, "waits", 0, MIN, MIN)
            .is(BAD, "waits", 0, 0, 100001).is(BAD, "waits", 0, 100001, 100001).is(BAD, "waits", 0, 0, MAX).is(BAD, "waits", 0, MAX, MAX)
            .is(BAD, "waits", 0, 1, 0).is(BAD, "waits", 0, 100000, 99999).is(BAD, "waits", 0, 0, -1).is(BAD, "waits", 0, 100001, 0)
            .is(0, "waits", 0, 0, 0).is(0, "waits", 0, 100000, 100000).is(99950, "waits", 0, 0, 100000).is(0, "waits", 0, 99999, 100000);
        of("(this one not among them; 0 to 100000, the second not less). BAD.").is(BAD, "waits", 0, 0, 0).is(0, "status");
    }

    private static void asTheyCome() {
        // Told 0, 1, 2: they come in the order 2, 0, 1.
        of("one at a time, as they come (of several the one told first)").with("ship", 20, 5).with("ship", 22, 5).with("ship", 19, 3)
            .is(2, "waits", 0, 0, 0).is(5, "waits", 1, 0, 0).is(0, "waits", 2, 0, 0);
        of("one at a time, as they come (of several the one told first)").with("ship", 20, 5).with("ship", 20, 7).with("ship", 20, 1)
            .is(0, "waits", 0, 0, 0).is(5, "waits", 1, 0, 0).is(12, "waits", 2, 0, 0)
            .with("ship", 19, 1).is(0, "waits", 0, 0, 0).is(0, "waits", 3, 0, 0).with("ship", 20, 1).is(13, "waits", 4, 0, 0);
        // One ends as the next comes, and a minute later.
        of("one at a time, as they come (of several the one told first)").with("ship", 10, 10).with("ship", 20, 10).with("ship", 29, 1)
            .is(0, "waits", 1, 0, 0).is(1, "waits", 2, 0, 0);
        // A later one does not pass ahead, though it would be done before the first may begin.
        of("one at a time, as they come (of several the one told first)").with("ship", 10, 5).with("ship", 4, 1).with("ship", 5, 1)
            .is(15, "waits", 2, 5, 20).is(0, "waits", 1, 5, 20).is(11, "waits", 0, 5, 20);
    }

    private static void whileItIsShut() {
        String words = "none begins to pass while it is shut, from one minute to another (one that has begun ends)";
        of(words).with("ship", 10, 4)
            .is(0, "waits", 0, 11, 20).is(10, "waits", 0, 10, 20).is(1, "waits", 0, 10, 11).is(0, "waits", 0, 10, 10)
            .is(0, "waits", 0, 9, 10).is(1, "waits", 0, 9, 11).is(0, "waits", 0, 11, 11).is(0, "waits", 0, 0, 10).is(1, "waits", 0, 0, 11);
        // The second begins as the first ends, 14, unless it is shut in just that minute.
        of(words).with("ship", 10, 4).with("ship", 11, 1)
            .is(3, "waits", 1, 0, 0).is(3, "waits", 1, 12, 14).is(4, "waits", 1, 12, 15).is(4, "waits", 1, 14, 15).is(3, "waits", 1, 15, 16)
            .is(0, "waits", 0, 11, 100).is(89, "waits", 1, 11, 100).is(90, "waits", 0, 10, 100).is(93, "waits", 1, 10, 100);
        of("minutes from coming till it begins to pass").with("ship", 0, 500).is(0, "waits", 0, 0, 0).is(1, "waits", 0, 0, 1)
            .is(100000, "waits", 0, 0, 100000);
    }

    private static void greatestWaits() {
        Sentence s = of("WAIT of a SHIP: minutes from coming till it begins to pass.");
        for (int ship = 0; ship < 20; ship++) {
            s.with("ship", 0, 500);
        }
        s.is(100000 + 19 * 500, "waits", 19, 0, 100000).is(19 * 500, "waits", 19, 0, 0);
        // The last minute is not shut, as the second of the two is not among them.
        of("WAIT of a SHIP, if it is shut from one minute to another (this one not among them").with("ship", 100000, 500)
            .is(0, "waits", 0, 0, 100000).is(0, "waits", 0, 100000, 100000);
    }

    private static void years() {
        of("CLOSINGS of a year (0 to 300)").lay(0, 1, 10)
            .is(BAD, "closings", 0, 0, 1, 10, 0, -1).is(BAD, "closings", 0, 0, 1, 10, 0, 301).is(BAD, "closings", 0, 0, 1, 10, 0, MIN)
            .is(BAD, "closings", 0, 0, 1, 10, 0, MAX)
            .is(1, "closings", 0, 0, 1, 10, 9, 0).is(0, "closings", 0, 0, 1, 10, 10, 0)
            .is(1, "closings", 0, 0, 1, 10, 309, 300).is(0, "closings", 0, 0, 1, 10, 310, 300);
    }

    private static void rises() {
        of("a RISE (0 to 100), above a level").lay(0, 1, 10)
            .is(BAD, "closings", 0, 0, 1, -1, 0, 0).is(BAD, "closings", 0, 0, 1, 101, 0, 0).is(BAD, "closings", 0, 0, 1, MIN, 0, 0)
            .is(BAD, "closings", 0, 0, 1, MAX, 0, 0)
            .is(BAD, "tooMany", 0, 0, 1, -1, 0, 0).is(BAD, "tooMany", 0, 0, 1, 101, 0, 0).is(BAD, "tooMany", 0, 0, 1, MIN, 0, 0)
            .is(BAD, "tooMany", 0, 0, 1, MAX, 0, 0)
            .is(0, "closings", 0, 0, 1, 0, 10, 300).is(NONE, "tooMany", 0, 0, 1, 0, 10, 0)
            .is(1, "closings", 0, 0, 1, 100, 3009, 300).is(0, "closings", 0, 0, 1, 100, 3010, 300)
            .is(300, "tooMany", 0, 0, 1, 100, 3009, 0).is(NONE, "tooMany", 0, 0, 1, 100, 3010, 0);
    }

    private static void howManyPeaks() {
        of("PEAKS being n ITEMS (1 to 60) of a SHEET from i on").with("sheet", 0, 1, 60).with("set", 0, 59, 1)
            .is(BAD, "closings", 0, 0, 0, 0, 0, 0).is(BAD, "closings", 0, 0, 61, 0, 0, 0).is(BAD, "closings", 0, 0, -1, 0, 0, 0)
            .is(BAD, "closings", 0, 0, MIN, 0, 0, 0).is(BAD, "closings", 0, 0, MAX, 0, 0, 0)
            .is(BAD, "tooMany", 0, 0, 0, 0, 0, 0).is(BAD, "tooMany", 0, 0, 61, 0, 0, 0).is(BAD, "tooMany", 0, 0, -1, 0, 0, 0)
            .is(BAD, "tooMany", 0, 0, MIN, 0, 0, 0).is(BAD, "tooMany", 0, 0, MAX, 0, 0, 0)
            .is(1, "closings", 0, 0, 60, 0, 0, 0).is(60, "closings", 0, 0, 60, 0, -1, 0).is(1, "closings", 0, 59, 1, 0, 0, 0)
            .is(0, "closings", 0, 0, 59, 0, 0, 0).is(0, "tooMany", 0, 0, 60, 0, 0, 0).is(0, "tooMany", 0, 0, 60, 0, -1, 59)
            .is(NONE, "tooMany", 0, 0, 60, 0, -1, 60).is(NONE, "tooMany", 0, 0, 59, 0, 0, 0);
    }

    private static void peakPlaces() {
        int[][] beyond = {{-1, 1}, {3, 1}, {4, 1}, {0, 4}, {1, 3}, {2, 2}, {0, 60}, {MIN, 1}, {MAX, 1}, {MAX, 60}, {MIN, 60}, {-1, 4}, {-1, 2}};
        for (int[] c : beyond) {
            of("2 PLACE (no such place of a SHEET)").lay(0, 1, 1, 2, 3)
                .is(Due.PLACE, "closings", 0, c[0], c[1], 0, 0, 0).is(2, "status").with("set", 0, 0, 1).is(0, "status")
                .is(Due.PLACE, "tooMany", 0, c[0], c[1], 0, 0, 0).is(2, "status").is(BAD, "closings", 0, 0, 0, 0, 0, 0).is(2, "status");
        }
        of("2 PLACE (no such place of a SHEET)").with("sheet", 0, 0, 0)
            .is(Due.PLACE, "closings", 0, 0, 1, 0, 0, 0).is(Due.PLACE, "tooMany", 0, 0, 1, 0, 0, 0);
        of("PEAKS being n ITEMS (1 to 60) of a SHEET from i on").lay(0, 1, 1, 2, 3).is(1, "closings", 0, 0, 1, 0, 0, 0)
            .is(3, "closings", 0, 0, 3, 0, 0, 0).is(1, "closings", 0, 2, 1, 0, 2, 0).is(2, "closings", 0, 1, 2, 0, 1, 0)
            .is(0, "tooMany", 0, 2, 1, 0, 2, 0).is(0, "tooMany", 0, 1, 2, 0, 1, 1).is(0, "status");
    }

    private static void yearRefusals() {
        of("BAD: SHEET, n, year, RISE; NULL; PLACE.")
            .is(BAD, "closings", 8, 0, 1, 0, 0, 0).is(BAD, "closings", 0, -1, 0, 0, 0, 0).is(BAD, "closings", 0, -1, 1, 0, 0, 301)
            .is(BAD, "closings", 0, -1, 1, 101, 0, 0).is(0, "status").is(Due.NULL, "closings", 0, -1, 1, 0, 0, 0).is(1, "status")
            .with("sheet", 0, 0, 1).is(BAD, "closings", 0, -1, 0, 0, 0, 0).is(BAD, "closings", 0, 1, 1, 0, 0, -1).is(0, "status")
            .is(Due.PLACE, "closings", 0, 1, 1, 0, 0, 0).is(2, "status").is(0, "closings", 0, 0, 1, 0, 0, 0).is(0, "status");
        of("BAD: SHEET, n, RISE, m; NULL; PLACE.")
            .is(BAD, "tooMany", 8, 0, 1, 0, 0, 0).is(BAD, "tooMany", 0, -1, 0, 0, 0, 0).is(BAD, "tooMany", 0, -1, 1, 101, 0, 0)
            .is(BAD, "tooMany", 0, -1, 1, 0, 0, -1).is(0, "status").is(Due.NULL, "tooMany", 0, -1, 1, 0, 0, 0).is(1, "status")
            .with("sheet", 0, 0, 1).is(BAD, "tooMany", 0, 1, 1, 0, 0, -1).is(BAD, "tooMany", 0, -1, 61, 0, 0, 0).is(0, "status")
            .is(Due.PLACE, "tooMany", 0, 1, 1, 0, 0, 0).is(2, "status").is(NONE, "tooMany", 0, 0, 1, 0, 0, 0).is(0, "status");
    }

    private static void cutRise() {
        // RISE 9: 0, 0.9, 1.8, 2.7 .. 9.0: cut after it is times y, not ahead of it.
        of("all are higher by y times a RISE by 10, cut").lay(0, 1, 0)
            .is(0, "closings", 0, 0, 1, 9, 0, 1).is(1, "closings", 0, 0, 1, 9, 0, 2).is(0, "closings", 0, 0, 1, 9, 1, 2)
            .is(1, "closings", 0, 0, 1, 9, 8, 10).is(0, "closings", 0, 0, 1, 9, 9, 10).is(1, "closings", 0, 0, 1, 9, 269, 300)
            .is(0, "closings", 0, 0, 1, 9, 270, 300).is(0, "closings", 0, 0, 1, 1, 0, 9).is(1, "closings", 0, 0, 1, 1, 0, 10)
            .is(10, "tooMany", 0, 0, 1, 1, 0, 0).is(20, "tooMany", 0, 0, 1, 1, 1, 0).is(2, "tooMany", 0, 0, 1, 9, 0, 0)
            .is(300, "tooMany", 0, 0, 1, 1, 29, 0).is(NONE, "tooMany", 0, 0, 1, 1, 30, 0);
        // A PEAK below 0 is higher by the same: the cut is of the rise alone.
        of("all are higher by y times a RISE by 10, cut").lay(0, 1, -3)
            .is(0, "closings", 0, 0, 1, 9, -3, 1).is(1, "closings", 0, 0, 1, 9, -3, 2).is(0, "closings", 0, 0, 1, 9, -2, 2);
    }

    private static void above() {
        of("how many are above a level then").lay(0, 1, 5, 6, 7, 6, -5)
            .is(0, "closings", 0, 0, 5, 0, 7, 0).is(1, "closings", 0, 0, 5, 0, 6, 0).is(3, "closings", 0, 0, 5, 0, 5, 0)
            .is(4, "closings", 0, 0, 5, 0, -5, 0).is(5, "closings", 0, 0, 5, 0, -6, 0).is(5, "closings", 0, 0, 5, 0, MIN, 0)
            .is(0, "closings", 0, 0, 5, 100, MAX, 300);
    }

    private static void noWrap() {
        of("all are higher by y times a RISE by 10, cut").lay(0, 2, MAX, MIN)
            .is(0, "closings", 0, 0, 1, 100, MAX, 0).is(1, "closings", 0, 0, 1, 100, MAX, 1).is(1, "closings", 0, 0, 1, 100, MAX, 300)
            .is(1, "tooMany", 0, 0, 1, 100, MAX, 0).is(0, "closings", 0, 1, 1, 100, MIN, 0).is(1, "closings", 0, 1, 1, 100, MIN, 1)
            .is(1, "closings", 0, 0, 2, 100, MIN + 3000, 300).is(2, "closings", 0, 0, 2, 100, MIN + 2999, 300)
            .is(1, "tooMany", 0, 1, 1, 100, MIN, 0).is(300, "tooMany", 0, 1, 1, 100, MIN + 2999, 0).is(NONE, "tooMany", 0, 1, 1, 100, MIN + 3000, 0);
    }

    private static void tooManyYears() {
        Sentence s = of("The first year (0 to 300) with more than m CLOSINGS").lay(0, 1, 0);
        for (int year = 0; year <= 300; year++) {
            s.is(year, "tooMany", 0, 0, 1, 10, year - 1, 0);
        }
        s.is(NONE, "tooMany", 0, 0, 1, 10, 300, 0).is(0, "status").is(NONE, "tooMany", 0, 0, 1, 100, MAX, 0).is(0, "tooMany", 0, 0, 1, 0, MIN, 0);
    }

    private static void tooManyThanM() {
        of("(m 0 or more); NONE: there is none").lay(0, 1, 1, 2, 3)
            .is(BAD, "tooMany", 0, 0, 3, 10, 3, -1).is(BAD, "tooMany", 0, 0, 3, 10, 3, MIN)
            .is(1, "tooMany", 0, 0, 3, 10, 3, 0).is(2, "tooMany", 0, 0, 3, 10, 3, 1).is(3, "tooMany", 0, 0, 3, 10, 3, 2)
            .is(NONE, "tooMany", 0, 0, 3, 10, 3, 3).is(NONE, "tooMany", 0, 0, 3, 10, 3, MAX).is(0, "status")
            .is(0, "tooMany", 0, 0, 3, 0, 0, 2).is(NONE, "tooMany", 0, 0, 3, 0, 0, 3).is(NONE, "tooMany", 0, 0, 3, 0, 3, 0);
    }
}
