/** Runs for each sentence under the document's heading 'Terms', and for the number of calls that it promises. */
final class TermsRuns {
    private static final int NONE = -1;
    private static final int LAST = 1000000;

    private final Check check;
    private final Quotes quotes;

    TermsRuns(Check check, Quotes quotes) {
        this.check = check;
        this.quotes = quotes;
    }

    void all() {
        calls();
        minutes();
        now();
        things();
        spans();
        fromAMinuteOn();
        tellings();
        refusals();
        cardReasons();
        placeReason();
        rightReason();
        doorReasons();
        letIn();
        together();
        joining();
        uses();
        exceptions();
        none();
    }

    private Run run(String sentence) {
        quotes.quote("Terms", sentence);
        return new Run(check, "Terms: " + sentence);
    }

    private Run inHouse(String sentence) {
        return run(sentence).told(Houses.HOUSE);
    }

    private Run inOpenHouse(String sentence) {
        return inHouse(sentence).told(Houses.OPEN);
    }

    private void calls() {
        String sentence = "An object is used for at most 512 calls after it has been made;";
        quotes.quote("What it is", sentence);
        new Run(check, sentence)
                .told("room(0)", "room(1)", "door(0, 1)", "person(0)", "person(1)", "card(0, LAST)", "card(1, LAST)")
                .told("right(0, 0, 0, 1439, 0)", "right(0, 1, 0, 1439, 0)", "right(1, 0, 0, 1439, 0)", "right(1, 1, 0, 1439, 0)")
                .times(499, i -> "both(0, 1, 0, " + (1 - i % 2) + ", " + i + ")", i -> 0)
                .is("fewest()", 15)
                .is("uses()", 998)
                .hadCalls(512);
        new Run(check, sentence)
                .told("room(0)", "room(1)", "person(0)", "person(1)", "card(0, LAST)", "card(1, LAST)")
                .told("right(0, 1, 0, 1439, 0)", "right(1, 1, 0, 1439, 0)")
                .times(14, i -> "door(0, 1)", i -> i)
                .times(14, i -> "off(" + i + ", true)", i -> 0)
                .times(350, i -> "both(0, 1, " + i / 25 + ", 1, " + i + ")", i -> 0)
                .told("lost(0, 0)", "end(1, 0)")
                .times(14, i -> "off(" + i + ", false)", i -> 50)
                .is("against()", 700)
                .times(50, i -> "found(" + 2 * i + ", 3)", i -> 3)
                .times(49, i -> "found(" + (2 * i + 1) + ", 3)", i -> 5)
                .is("where(0)", 1)
                .is("found(99, 2)", 49)
                .is("now()", 349)
                .is("uses()", 700)
                .told("inside(0)", "inside(1)", "muster(0, 0)", "muster(1, 0)", "muster(1, 1)")
                .is("fewest()", 3)
                .hadCalls(512);
    }

    private void minutes() {
        inOpenHouse("MINUTES are 0 .. 1000000;")
                .argument("card(0, -1)", "card(0, 1000001)", "card(0, MIN)", "card(0, MAX)")
                .argument("right(0, 0, 0, 1, -1)", "right(0, 0, 0, 1, 1000001)", "right(0, 0, 0, 1, MIN)", "right(0, 0, 0, 1, MAX)")
                .argument("end(0, -1)", "end(0, 1000001)", "end(0, MIN)", "end(0, MAX)")
                .argument("lost(0, -1)", "lost(0, 1000001)", "lost(0, MIN)", "lost(0, MAX)")
                .argument("state(0, true, -1)", "state(0, true, 1000001)", "state(0, true, MIN)", "state(0, true, MAX)")
                .argument("asks(0, 0, 1, -1)", "asks(0, 0, 1, 1000001)", "asks(0, 0, 1, MIN)", "asks(0, 0, 1, MAX)")
                .argument("both(0, 1, 0, 1, -1)", "both(0, 1, 0, 1, 1000001)", "both(0, 1, 0, 1, MIN)", "both(0, 1, 0, 1, MAX)")
                .is("card(0, 0)", 3).is("card(0, LAST)", 4)
                .is("right(0, 0, 0, 1, 0)", 3).is("right(0, 0, 0, 1, LAST)", 4)
                .is("end(3, 0)", NONE).is("end(3, LAST)", 0).is("end(3, 7)", LAST)
                .is("lost(3, 0)", NONE).is("lost(3, LAST)", 0).is("lost(3, 7)", LAST)
                .is("state(0, true, 0)", 0).is("state(0, false, LAST)", LAST);
        inOpenHouse("MINUTES are 0 .. 1000000;")
                .is("asks(0, 0, 1, 0)", 0).is("both(1, 0, 2, 2, 0)", 4).is("asks(0, 0, 0, LAST)", 0).is("both(0, 1, 0, 1, LAST)", 0);
    }

    private void now() {
        inOpenHouse("NOW is the greatest one that was told, at first 0.")
                .is("now()", 0)
                .is("state(0, false, 5)", 5).is("now()", 5)
                .is("asks(0, 0, 1, 6)", 0).is("now()", 6)
                .is("asks(0, 0, 1, 8)", 4).is("now()", 8)
                .is("both(1, 2, 0, 1, 9)", 5).is("now()", 9)
                .is("both(0, 1, 0, 1, 9)", 4).is("now()", 9)
                .told("off(0, true)").is("asks(1, 0, 1, 12)", 0).is("now()", 12)
                .told("off(0, false)").is("now()", 12)
                .argument("state(0, true, 11)", "asks(0, 0, 0, 11)", "both(0, 1, 0, 0, 11)", "asks(0, 0, 0, 0)")
                .is("state(0, true, 12)", 12).is("now()", 12)
                .is("state(1, true, LAST)", LAST).is("now()", LAST)
                .argument("state(0, false, 999999)", "asks(0, 0, 0, 999999)", "both(0, 1, 0, 0, 999999)", "state(0, false, 0)");
    }

    private void things() {
        run("ROOMS 0 .. 19 are each in a ZONE 0 .. 9.")
                .argument("room(-1)", "room(10)", "room(MIN)", "room(MAX)")
                .times(20, i -> "room(" + i / 2 + ")", i -> i)
                .state("room(0)")
                .told("person(0)", "card(0, LAST)", "right(0, 9, 0, 1439, 0)", "right(0, 0, 0, 1439, 0)")
                .argument("door(0, 20)", "door(-1, 0)")
                .told("door(0, 19)")
                .is("asks(0, 0, 19, 5)", 0).is("inside(9)", 1).is("inside(0)", 0)
                .is("asks(0, 0, 0, 5)", 0).is("inside(0)", 1).is("inside(9)", 0);
        run("A DOOR 0 .. 29 joins two rooms.")
                .told("room(0)", "room(0)", "room(0)", "person(0)", "card(0, LAST)", "right(0, 0, 0, 1439, 0)")
                .times(30, i -> "door(" + (1 + i % 2) + ", 0)", i -> i)
                .state("door(0, 1)")
                .argument("two(-1, true)", "two(30, true)", "off(30, true)", "state(30, true, 0)")
                .is("asks(0, 29, 2, 5)", 0).is("asks(0, 29, 0, 5)", 0).is("asks(0, 0, 1, 5)", 0).is("asks(0, 0, 0, 5)", 0)
                .is("airlock(29, 0, true)", false).is("state(29, true, 5)", 5).is("asks(0, 0, 1, 5)", 6)
                .is("state(29, false, 5)", 0).is("state(0, true, 5)", 5).is("asks(0, 29, 2, 5)", 6);
        run("PERSONS 0 .. 39 are each in a GROUP 0 .. 9, and in a ROOM (0 at first).")
                .state("person(0)", "person(9)")
                .told("room(3)", "room(4)")
                .argument("person(-1)", "person(10)", "person(MIN)", "person(MAX)")
                .times(40, i -> "person(" + i / 4 + ")", i -> i)
                .state("person(0)", "person(9)")
                .argument("where(-1)", "where(40)", "card(-1, 0)", "card(40, 0)")
                .times(40, i -> "where(" + i + ")", i -> 0)
                .told("door(0, 1)", "card(0, LAST)", "card(39, LAST)", "right(9, 4, 0, 1439, 0)")
                .is("asks(1, 0, 1, 5)", 0).is("asks(0, 0, 1, 5)", 5).is("where(39)", 1).is("where(0)", 0);
        inOpenHouse("CARDS 0 .. 59 are of persons, each good up to a minute.")
                .times(57, i -> "card(" + i % 3 + ", " + (i + 10) + ")", i -> i + 3)
                .state("card(0, 0)")
                .argument("lost(-1, 0)", "lost(60, 0)", "asks(60, 0, 1, 0)", "both(0, 60, 0, 1, 0)")
                .is("asks(57, 0, 1, 64)", 0).is("where(0)", 1).is("asks(58, 0, 1, 65)", 0).is("where(1)", 1)
                .is("asks(57, 0, 0, 65)", 2).is("asks(58, 0, 0, 65)", 0).is("asks(59, 0, 1, 66)", 5).is("asks(59, 0, 1, 67)", 2);
        inHouse("RIGHTS 0 .. 15:")
                .times(15, i -> "right(9, 9, 0, 1, 0)", i -> i)
                .is("asks(0, 0, 1, 5)", 5)
                .is("right(0, 1, 0, 1439, 0)", 15)
                .state("right(0, 0, 0, 1, 0)")
                .argument("end(-1, 0)", "end(16, 0)")
                .is("asks(0, 0, 1, 5)", 0).is("fewest()", 32768)
                .is("end(15, 0)", NONE).is("asks(1, 0, 1, 5)", 5).is("end(15, 0)", 0).is("end(0, 0)", NONE);
    }

    private void spans() {
        String sentence = "a group, a zone, a span of the day (from .. to, below 1440; from a to with the lesser number it goes over"
                + " midnight), from a minute on;";
        inHouse(sentence)
                .argument("right(-1, 0, 0, 1, 0)", "right(10, 0, 0, 1, 0)", "right(0, -1, 0, 1, 0)", "right(0, 10, 0, 1, 0)")
                .argument("right(0, 0, -1, 1, 0)", "right(0, 0, 1440, 1, 0)", "right(0, 0, 0, -1, 0)", "right(0, 0, 0, 1440, 0)")
                .is("right(9, 9, 1439, 0, 0)", 0).is("right(0, 0, 0, 1439, LAST)", 1).is("right(0, 0, 0, 0, 0)", 2)
                .is("right(0, 0, 1439, 1439, 0)", 3);
        span("(from <= it < to;", 60, 200, new int[] {60, 61, 199}, new int[] {59, 200, 0, 1439});
        span("(from <= it < to;", 0, 1439, new int[] {0, 1438}, new int[] {1439});
        span("(from <= it < to;", 1438, 1439, new int[] {1438}, new int[] {1437, 1439, 0});
        span("over midnight: from <= it or it < to;", 1400, 60, new int[] {1400, 1439, 0, 59}, new int[] {60, 1399});
        span("over midnight: from <= it or it < to;", 1439, 0, new int[] {1439}, new int[] {0, 1, 1438});
        span("over midnight: from <= it or it < to;", 1, 0, new int[] {1, 1439}, new int[] {0});
        span("over midnight: from <= it or it < to;", 700, 699, new int[] {700, 698, 0, 1439}, new int[] {699});
        span("never, if both are alike).", 100, 100, new int[0], new int[] {99, 100, 101, 0, 1439});
        span("never, if both are alike).", 0, 0, new int[0], new int[] {0, 1, 1439});
        span("never, if both are alike).", 1439, 1439, new int[0], new int[] {1438, 1439, 0});
    }

    /** Times of the day that are in the span and that are not, each on the first day, on a later one and on the last. */
    private void span(String sentence, int from, int to, int[] within, int[] without) {
        for (int time : within) {
            timeIs(sentence, from, to, time, 0);
        }
        for (int time : without) {
            timeIs(sentence, from, to, time, 5);
        }
    }

    private void timeIs(String sentence, int from, int to, int time, int due) {
        int lastDay = (LAST - time) / 1440 * 1440;
        for (int day : new int[] {0, 1440, lastDay}) {
            inHouse(sentence).told("right(0, 1, " + from + ", " + to + ", 0)").is("asks(0, 0, 1, " + (day + time) + ")", due);
        }
    }

    private void fromAMinuteOn() {
        inOpenHouse("a right may be ENDED from a minute on.")
                .is("end(1, 60)", NONE)
                .is("asks(0, 0, 1, 59)", 0).is("asks(1, 0, 1, 60)", 5).is("asks(1, 0, 1, 61)", 5).is("asks(1, 0, 1, LAST)", 5);
        inOpenHouse("A card may be LOST from a minute on.")
                .is("lost(1, 60)", NONE)
                .is("asks(1, 0, 1, 59)", 0).is("asks(1, 0, 0, 60)", 3).is("asks(1, 0, 0, 61)", 3).is("asks(1, 0, 0, LAST)", 3);
    }

    private void tellings() {
        inOpenHouse("TELLINGS (cards, rights, ends, lost ones) are numbered as they come.")
                .told("right(1, 2, 0, 1439, 0)", "card(0, LAST)", "lost(3, 0)", "end(0, 0)", "off(0, true)", "off(1, true)")
                .told("card(0, LAST)", "right(1, 1, 0, 1439, 0)", "lost(3, 50)", "end(0, 50)", "lost(0, 0)", "end(1, 0)")
                .is("asks(4, 0, 1, 5)", 1).is("asks(2, 0, 1, 5)", 5).is("asks(3, 0, 1, 5)", 3).is("asks(0, 0, 0, 5)", 5)
                .is("asks(0, 0, 1, 5)", 0).is("asks(2, 1, 2, 5)", 0);
        inOpenHouse("TELLINGS (cards, rights, ends, lost ones) are numbered as they come.")
                .told("off(0, true)", "two(0, true)")
                .is("asks(0, 0, 1, 5)", 7)
                .told("two(0, false)", "airlock(0, 1, true)", "state(1, true, 5)")
                .is("asks(0, 0, 1, 5)", 6);
        String off = "A door that is OFF knows just those that came before it went off; others know all.";
        inOpenHouse(off)
                .told("off(0, true)", "card(0, LAST)", "off(2, true)", "lost(1, 0)", "off(1, true)")
                .is("asks(3, 0, 1, 5)", 1).is("asks(3, 2, 2, 5)", 0).is("asks(1, 0, 1, 5)", 0).is("asks(1, 2, 2, 5)", 0)
                .is("asks(1, 1, 2, 5)", 3).is("off(2, false)", 2).is("asks(1, 2, 0, 5)", 3);
        run(off)
                .told("room(0)", "room(1)", "door(0, 1)", "off(0, true)", "person(0)", "card(0, LAST)", "right(0, 1, 0, 1439, 0)")
                .is("asks(0, 0, 1, 5)", 1).is("off(0, false)", 0).is("asks(0, 0, 1, 5)", 0);
        inHouse(off)
                .told("off(0, true)", "right(0, 1, 0, 1439, 0)")
                .is("asks(0, 0, 1, 5)", 5).is("off(0, false)", 0).is("asks(0, 0, 1, 5)", 0);
        inOpenHouse(off)
                .told("off(0, true)", "end(1, 0)", "right(1, 1, 0, 1439, 0)", "door(0, 1)")
                .is("asks(0, 3, 1, 5)", 5).is("asks(2, 3, 1, 5)", 0).is("asks(0, 0, 1, 5)", 0).is("asks(2, 0, 1, 5)", 5)
                .is("off(0, true)", 0).is("asks(2, 0, 1, 5)", 5)
                .is("off(0, false)", 1).is("off(0, true)", 0).is("asks(2, 0, 1, 5)", 0).is("asks(1, 0, 1, 5)", 5);
    }

    private void refusals() {
        String first = "A card is REFUSED at a door for a room (one of both of the door's) at a minute by the first of these that is so:";
        inHouse(first)
                .told("airlock(0, 1, true)", "state(1, true, 5)", "two(0, true)", "off(0, true)", "card(0, 4)", "lost(3, 0)")
                .refuses(1, "asks(3, 0, 1, 5)")
                .told("off(0, false)")
                .refuses(2, "asks(3, 0, 0, 5)")
                .told("lost(0, 5)")
                .refuses(3, "asks(0, 0, 0, 5)")
                .refuses(4, "asks(1, 0, 0, 5)")
                .refuses(5, "asks(1, 0, 1, 5)")
                .told("right(0, 1, 0, 10, 0)")
                .refuses(6, "asks(1, 0, 1, 5)")
                .told("state(1, false, 5)")
                .refuses(7, "asks(1, 0, 1, 5)")
                .told("two(0, false)")
                .is("asks(1, 0, 1, 5)", 0);
        inOpenHouse(first)
                .argument("asks(0, 0, 2, 0)", "asks(0, 1, 0, 0)", "asks(0, 2, 1, 0)", "both(0, 1, 0, 2, 0)", "both(0, 1, 2, 1, 0)")
                .argument("asks(0, 0, 3, 0)", "asks(0, 0, -1, 0)", "asks(0, 0, MIN, 0)", "asks(0, 0, MAX, 0)")
                .is("asks(0, 0, 1, 0)", 0).is("asks(0, 0, 0, 0)", 0);
    }

    private void cardReasons() {
        inOpenHouse("1: the card is not known there.")
                .told("off(0, true)", "card(0, LAST)", "state(2, false, 5)")
                .refuses(1, "asks(3, 0, 1, 5)").refuses(1, "both(1, 3, 0, 1, 5)").refuses(1, "both(3, 1, 0, 1, 5)")
                .is("asks(3, 2, 2, 5)", 0).is("off(0, false)", 0).is("asks(1, 0, 1, 5)", 0);
        inOpenHouse("2: it was good up to a lesser minute.")
                .told("card(0, 50)", "card(1, 0)")
                .is("asks(4, 0, 1, 0)", 0).is("asks(4, 0, 0, 1)", 2)
                .is("asks(3, 0, 1, 50)", 0).is("asks(3, 0, 0, 51)", 2).refuses(2, "asks(3, 0, 0, 51)")
                .is("asks(0, 0, 0, 51)", 0).is("card(0, 999999)", 5).is("asks(5, 0, 1, 999999)", 0).is("asks(5, 0, 0, LAST)", 2)
                .is("asks(0, 0, 0, LAST)", 0);
        inOpenHouse("3: it is known to be lost at this minute.")
                .told("card(0, LAST)", "lost(0, 50)", "lost(1, 0)", "state(2, false, 49)")
                .refuses(3, "asks(1, 0, 1, 49)")
                .is("asks(0, 0, 1, 49)", 0).is("state(2, false, 50)", 50).refuses(3, "asks(0, 0, 0, 50)").is("asks(3, 0, 0, 50)", 0)
                .is("lost(0, LAST)", 50).is("asks(0, 0, 1, 999999)", 0).is("asks(0, 0, 0, LAST)", 3);
    }

    private void placeReason() {
        inOpenHouse("4: (not at a door that is off) the person is not in the other room.")
                .told("state(0, false, 5)")
                .refuses(4, "asks(0, 0, 0, 5)").refuses(4, "asks(0, 1, 2, 5)").refuses(4, "asks(0, 1, 1, 5)")
                .is("asks(0, 0, 1, 5)", 0)
                .refuses(4, "asks(0, 0, 1, 5)").refuses(4, "asks(0, 2, 2, 5)").refuses(4, "asks(0, 1, 1, 5)")
                .refuses(4, "both(1, 0, 0, 1, 5)").refuses(4, "both(0, 1, 0, 1, 5)")
                .told("off(0, true)", "off(1, true)")
                .is("asks(0, 0, 1, 5)", 0).is("asks(0, 0, 1, 5)", 0).is("asks(1, 1, 2, 5)", 0).is("both(0, 1, 1, 1, 5)", 0)
                .is("off(0, false)", 2).refuses(4, "asks(0, 0, 1, 5)");
    }

    private void rightReason() {
        String known = "5: no right is known that is of the person's group and the room's zone, from a minute not greater than this one"
                + " on, not known to be ended at it, with minute modulo 1440 in its span";
        inHouse(known)
                .told("state(2, false, 5)")
                .refuses(5, "asks(0, 0, 1, 5)")
                .told("right(1, 1, 0, 1439, 0)").refuses(5, "asks(0, 0, 1, 5)")
                .told("right(0, 0, 0, 1439, 0)").refuses(5, "asks(0, 0, 1, 5)")
                .told("right(0, 1, 0, 1439, 6)").refuses(5, "asks(0, 0, 1, 5)")
                .told("right(0, 1, 0, 1439, 0)", "end(3, 5)").refuses(5, "asks(0, 0, 1, 5)")
                .told("right(0, 1, 6, 5, 0)").refuses(5, "asks(0, 0, 1, 5)")
                .told("right(0, 1, 5, 6, 5)", "end(5, 6)").is("asks(0, 0, 1, 5)", 0)
                .is("asks(1, 0, 1, 6)", 0).is("asks(0, 0, 0, 6)", 0);
        inHouse(known)
                .told("right(0, 1, 0, 1439, 100)")
                .is("asks(0, 0, 1, 99)", 5).is("asks(0, 0, 1, 100)", 0).is("asks(1, 0, 1, 101)", 0);
        inHouse(known)
                .told("right(0, 1, 0, 1439, LAST)")
                .is("asks(0, 0, 1, 999999)", 5).is("asks(0, 0, 1, LAST)", 0);
        inHouse(known)
                .told("right(0, 1, 0, 1439, 50)", "end(0, 50)")
                .is("asks(0, 0, 1, 49)", 5).is("asks(0, 0, 1, 50)", 5).is("asks(0, 0, 1, 51)", 5);
        inHouse(known)
                .told("right(0, 1, 0, 1439, 0)", "end(0, 0)", "right(0, 1, 0, 1439, 0)")
                .is("asks(0, 0, 1, 0)", 0).is("end(1, 0)", NONE).is("asks(1, 0, 1, 0)", 5)
                .is("end(0, 1)", 0).is("asks(1, 0, 1, 0)", 0);
    }

    private void doorReasons() {
        inOpenHouse("6: another door of an AIRLOCK with it is OPEN.")
                .told("airlock(0, 1, true)", "state(0, true, 5)")
                .is("asks(0, 0, 1, 5)", 0)
                .refuses(6, "asks(0, 1, 2, 5)")
                .told("state(2, true, 5)").is("asks(1, 0, 1, 5)", 0)
                .told("state(0, false, 5)").is("asks(0, 1, 2, 5)", 0)
                .told("airlock(2, 1, true)").refuses(6, "asks(1, 1, 2, 5)").refuses(6, "asks(0, 1, 1, 5)")
                .told("airlock(1, 2, false)").is("asks(1, 1, 2, 5)", 0)
                .told("state(1, true, 5)", "off(1, true)", "right(1, 1, 0, 1439, 0)").refuses(6, "asks(2, 0, 1, 5)");
        inOpenHouse("7: the door wants TWO.")
                .told("two(0, true)", "state(0, true, 5)")
                .refuses(7, "asks(0, 0, 1, 5)").is("asks(0, 2, 2, 5)", 0).is("asks(0, 2, 0, 5)", 0)
                .is("both(0, 1, 0, 1, 5)", 0).refuses(7, "asks(0, 0, 0, 5)")
                .told("off(0, true)").refuses(7, "asks(0, 0, 0, 5)")
                .told("two(0, false)").is("asks(0, 0, 0, 5)", 0);
    }

    private void letIn() {
        inOpenHouse("If it is not refused it is let in: the person is in the room then;")
                .is("asks(0, 0, 1, 5)", 0).is("where(0)", 1).is("where(1)", 0)
                .is("asks(0, 1, 2, 5)", 0).is("where(0)", 2)
                .is("asks(0, 2, 0, 5)", 0).is("where(0)", 0).is("asks(0, 2, 2, 5)", 0).is("where(0)", 2);
        inOpenHouse("at a door that is off this is a ROW of it instead (the person's room stays as it is).")
                .told("off(0, true)")
                .is("asks(0, 0, 1, 5)", 0).is("where(0)", 0).is("both(1, 0, 0, 1, 5)", 0).is("where(0)", 0).is("where(1)", 0)
                .is("asks(0, 2, 2, 5)", 0).is("where(0)", 2)
                .refuses(5, "asks(2, 0, 1, 5)")
                .is("off(0, false)", 3).is("where(0)", 1).is("where(1)", 1);
    }

    private void together() {
        inOpenHouse("TWO cards ask together: each is asked by itself (7 does not count), the first one first;")
                .told("card(1, 4)", "two(0, true)", "state(2, false, 5)")
                .refuses(5, "both(2, 3, 0, 1, 5)").refuses(2, "both(3, 2, 0, 1, 5)")
                .is("both(0, 1, 0, 1, 5)", 0).is("where(0)", 1).is("where(1)", 1);
        inOpenHouse("if one is refused both are, by its number;")
                .told("card(0, LAST)", "lost(3, 0)", "airlock(0, 1, true)", "state(2, false, 5)")
                .refuses(5, "both(0, 2, 0, 1, 5)").refuses(5, "both(2, 0, 0, 1, 5)")
                .refuses(3, "both(1, 3, 0, 1, 5)").refuses(3, "both(3, 1, 0, 1, 5)")
                .is("asks(0, 0, 1, 5)", 0).refuses(4, "both(0, 1, 0, 1, 5)").refuses(4, "both(1, 0, 0, 1, 5)")
                .told("asks(0, 0, 0, 5)", "state(1, true, 5)").refuses(6, "both(0, 1, 0, 1, 5)");
        inOpenHouse("8: both are of one person.")
                .told("card(0, LAST)", "card(0, 4)", "card(2, LAST)", "state(2, false, 5)")
                .refuses(8, "both(0, 3, 0, 1, 5)").refuses(8, "both(3, 0, 0, 1, 5)")
                .refuses(2, "both(0, 4, 0, 1, 5)").refuses(2, "both(4, 0, 0, 1, 5)").refuses(5, "both(2, 5, 0, 1, 5)")
                .told("off(0, true)").refuses(8, "both(0, 3, 0, 1, 5)").is("off(0, false)", 0)
                .is("both(3, 1, 0, 1, 5)", 0);
    }

    private void joining() {
        inOpenHouse("A door that JOINS again is not off any more:")
                .told("off(0, true)", "card(0, LAST)", "right(1, 1, 0, 1439, 0)", "lost(0, 0)")
                .is("asks(3, 0, 1, 5)", 1).is("asks(2, 0, 1, 5)", 5).is("asks(1, 0, 1, 5)", 0).is("asks(1, 0, 1, 5)", 0)
                .is("off(0, false)", 2)
                .is("asks(1, 0, 1, 5)", 4).is("asks(0, 0, 1, 5)", 3).is("asks(3, 0, 1, 5)", 0).is("where(0)", 1)
                .is("asks(2, 0, 1, 5)", 0).is("off(0, false)", 0);
        inOpenHouse("its rows are gone through in their order: persons are in the rooms;")
                .told("off(0, true)", "off(1, true)")
                .told("asks(0, 0, 1, 5)", "asks(0, 0, 0, 5)", "asks(1, 0, 0, 5)", "asks(1, 0, 1, 5)", "asks(0, 1, 2, 5)")
                .is("off(0, false)", 4).is("where(0)", 0).is("where(1)", 1)
                .is("off(1, false)", 1).is("where(0)", 2)
                .told("off(0, true)", "asks(0, 0, 1, 6)", "lost(0, 0)")
                .is("off(0, false)", 1).is("against()", 1).is("where(0)", 1);
        String against = "a row is AGAINST if, by what is known now, the card would be refused at its minute by 1, 2, 3 or 5.";
        inOpenHouse(against)
                .told("off(0, true)", "asks(0, 0, 1, 10)", "asks(1, 0, 1, 11)", "asks(0, 0, 0, 12)", "asks(1, 0, 0, 13)")
                .told("lost(0, 12)", "end(0, 13)", "end(1, 12)")
                .is("off(0, false)", 4).is("against()", 2)
                .is("found(0, 2)", 12).is("found(0, 3)", 3).is("found(1, 2)", 13).is("found(1, 3)", 5);
        inOpenHouse(against)
                .told("off(0, true)", "asks(0, 0, 1, 10)", "lost(0, 11)", "end(1, 11)", "two(0, true)", "airlock(0, 1, true)")
                .told("state(1, true, 10)", "asks(0, 2, 2, 10)")
                .is("off(0, false)", 1).is("against()", 0);
        inOpenHouse(against)
                .told("off(0, true)", "asks(0, 0, 1, 10)", "lost(0, 0)", "lost(0, 11)", "end(1, 0)", "right(0, 1, 10, 11, 10)")
                .is("off(0, false)", 1).is("against()", 0);
        inOpenHouse(against)
                .told("off(0, true)", "asks(0, 0, 1, 10)", "lost(0, 0)", "end(1, 0)")
                .is("off(0, false)", 1).is("against()", 1).is("found(0, 3)", 3);
        inHouse(against)
                .told("card(0, 10)", "right(0, 1, 0, 11, 0)", "off(0, true)", "asks(3, 0, 1, 10)", "state(2, false, LAST)")
                .is("off(0, false)", 1).is("against()", 0);
    }

    private void uses() {
        inOpenHouse("USES are all that were let in, wherever: group, zone, minute modulo 1440.")
                .is("asks(2, 0, 1, 5)", 5).is("uses()", 0)
                .is("asks(0, 0, 1, 5)", 0).is("uses()", 1)
                .is("asks(1, 0, 1, 5)", 0).is("uses()", 1)
                .is("asks(0, 0, 0, 5)", 0).is("uses()", 2)
                .told("off(2, true)").is("asks(0, 2, 2, 5)", 0).is("uses()", 3)
                .is("off(2, false)", 1).is("uses()", 3)
                .is("asks(0, 2, 0, 1445)", 0).is("uses()", 3)
                .is("asks(0, 0, 1, 1446)", 0).is("uses()", 4);
    }

    private void exceptions() {
        String argument = "In all calls illegal argument: a number is out of its bounds, there is no such thing, a minute is less than"
                + " NOW (where a call tells one).";
        run(argument)
                .argument("door(0, 1)", "card(0, 0)", "end(0, 0)", "lost(0, 0)", "two(0, true)", "airlock(0, 1, true)")
                .argument("state(0, true, 0)", "off(0, true)", "off(0, false)", "asks(0, 0, 0, 0)", "both(0, 1, 0, 0, 0)")
                .argument("where(0)", "found(0, 0)");
        inOpenHouse(argument)
                .told("state(2, false, 5)")
                .argument("state(0, true, 4)", "state(0, false, 0)", "asks(0, 0, 1, 4)", "both(0, 1, 0, 1, 4)")
                .is("state(0, true, 5)", 5).is("asks(0, 0, 1, 5)", 0).is("both(0, 1, 0, 0, 5)", 4)
                .is("card(0, 4)", 3).is("right(0, 0, 0, 1, 4)", 3).is("end(0, 4)", NONE).is("lost(0, 4)", NONE);
        String order = "Illegal state: as told there. Of several exceptions the one named first is thrown;";
        run(order).argument("person(10)", "person(-1)").state("person(0)");
        run(order).times(20, i -> "room(0)", i -> i).argument("room(10)", "room(-1)").state("room(9)");
        run(order).told("room(0)", "room(0)").times(30, i -> "door(0, 1)", i -> i)
                .argument("door(0, 0)", "door(0, 2)", "door(-1, 0)").state("door(1, 0)");
        run(order).told("room(0)").times(40, i -> "person(0)", i -> i).argument("person(10)", "person(-1)").state("person(9)");
        run(order).told("room(0)", "person(0)").times(60, i -> "card(0, 0)", i -> i)
                .argument("card(1, 0)", "card(0, -1)", "card(0, 1000001)").state("card(0, LAST)");
        run(order).times(16, i -> "right(0, 0, 0, 1, 0)", i -> i)
                .argument("right(10, 0, 0, 1, 0)", "right(0, 10, 0, 1, 0)", "right(0, 0, 1440, 1, 0)", "right(0, 0, 0, 1440, 0)")
                .argument("right(0, 0, 0, 1, 1000001)").state("right(0, 0, 0, 1, 0)");
        inOpenHouse(order).told("off(0, true)").times(50, i -> "asks(0, 0, 1, 5)", i -> 0)
                .argument("asks(3, 0, 1, 5)", "asks(0, 0, 2, 5)", "asks(0, 0, 1, 4)", "asks(0, 0, 1, 1000001)")
                .argument("both(0, 0, 0, 1, 5)", "both(0, 3, 0, 1, 5)", "both(0, 1, 0, 2, 5)", "both(0, 1, 0, 1, 4)")
                .state("asks(0, 0, 1, 5)", "both(0, 1, 0, 1, 5)");
        inOpenHouse("a call that throws changes nothing.")
                .told("airlock(0, 1, true)", "two(2, true)", "state(1, true, 3)", "lost(1, 70)", "end(2, 80)", "off(2, true)")
                .told("both(0, 1, 2, 2, 4)", "both(0, 1, 2, 2, 5)")
                .argument("room(10)", "door(1, 1)", "person(10)", "card(3, 9)", "card(0, -1)", "right(0, 0, 0, 1440, 9)")
                .argument("end(3, 9)", "end(0, -1)", "lost(3, 9)", "lost(0, -1)", "two(3, true)", "airlock(0, 0, true)")
                .argument("airlock(0, 3, true)", "state(3, false, 9)", "state(1, false, 4)", "off(3, false)", "asks(0, 2, 1, 9)")
                .argument("asks(3, 0, 1, 9)", "both(0, 0, 0, 1, 9)", "both(0, 3, 0, 1, 9)", "where(3)", "inside(10)", "muster(0, -1)")
                .argument("found(0, 0)");
    }

    private void none() {
        check.is("NONE", CardRights.NONE, -1);
        inHouse("The constants: `NONE = -1`: There is none.")
                .told("right(0, 0, 0, 1, 0)")
                .is("end(0, 0)", NONE).is("lost(0, 0)", NONE).is("muster(9, 0)", NONE).is("muster(0, 3)", NONE);
    }
}
