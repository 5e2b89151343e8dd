/** Runs for each sentence under the document's headings 'Promise 1' to 'Promise 22'. */
final class PromiseRuns {
    private static final int NONE = -1;
    private static final int LAST = 1000000;

    private final Check check;
    private final Quotes quotes;

    PromiseRuns(Check check, Quotes quotes) {
        this.check = check;
        this.quotes = quotes;
    }

    void all() {
        aNewObject();
        room();
        door();
        person();
        card();
        right();
        end();
        lost();
        two();
        airlock();
        state();
        off();
        asks();
        asksAtFullDoors();
        both();
        bothAtFullDoors();
        where();
        inside();
        muster();
        against();
        found();
        uses();
        fewest();
        now();
    }

    private Run run(int promise, String sentence) {
        quotes.quote("Promise " + promise, sentence);
        return new Run(check, "Promise " + promise + ": " + sentence);
    }

    private Run inHouse(int promise, String sentence) {
        return run(promise, sentence).told(Houses.HOUSE);
    }

    private Run inOpenHouse(int promise, String sentence) {
        return inHouse(promise, sentence).told(Houses.OPEN);
    }

    private void aNewObject() {
        run(1, "Nothing but a day.")
                .is("now()", 0).is("uses()", 0).is("fewest()", 0).is("against()", 0)
                .times(10, zone -> "inside(" + zone + ")", zone -> 0)
                .times(10, zone -> "muster(" + zone + ", 0)", zone -> NONE)
                .argument("where(0)", "found(0, 0)", "door(0, 1)", "card(0, 0)", "end(0, 0)", "lost(0, 0)", "two(0, false)")
                .argument("airlock(0, 1, false)", "state(0, false, 0)", "off(0, false)", "asks(0, 0, 0, 0)", "both(0, 1, 0, 0, 0)")
                .state("person(0)")
                .is("right(0, 0, 0, 1, 0)", 0).is("room(0)", 0).is("person(0)", 0).is("card(0, 0)", 0);
    }

    private void room() {
        run(2, "A room: its number.").is("room(0)", 0).is("room(9)", 1).is("room(0)", 2).is("door(2, 1)", 0);
        run(2, "Illegal argument;").argument("room(-1)", "room(10)", "room(MIN)", "room(MAX)").is("room(9)", 0).is("room(0)", 1);
        run(2, "illegal state: there are 20.").times(20, i -> "room(" + i % 10 + ")", i -> i)
                .state("room(0)", "room(9)").is("door(19, 0)", 0);
    }

    private void door() {
        run(3, "A door between two rooms: its number.").told("room(0)", "room(1)")
                .is("door(0, 1)", 0).is("door(1, 0)", 1).is("door(0, 1)", 2);
        run(3, "Illegal argument: also if both are one;")
                .argument("door(0, 0)", "door(0, 1)")
                .told("room(0)").argument("door(0, 0)", "door(0, 1)", "door(1, 0)")
                .told("room(1)").argument("door(0, 0)", "door(1, 1)", "door(0, 2)", "door(2, 0)", "door(-1, 0)", "door(0, -1)")
                .argument("door(MIN, 0)", "door(0, MIN)", "door(MAX, 0)", "door(0, MAX)", "door(-1, -1)", "door(2, 2)")
                .is("door(1, 0)", 0);
        run(3, "illegal state: there are 30.").told("room(0)", "room(1)")
                .times(30, i -> "door(" + i % 2 + ", " + (1 - i % 2) + ")", i -> i)
                .state("door(0, 1)", "door(1, 0)").is("off(29, true)", 0);
    }

    private void person() {
        run(4, "A person: its number.").told("room(5)").is("person(0)", 0).is("person(9)", 1).is("person(0)", 2).is("where(2)", 0);
        run(4, "Illegal argument;").told("room(5)").argument("person(-1)", "person(10)", "person(MIN)", "person(MAX)")
                .is("person(9)", 0).is("person(0)", 1);
        run(4, "illegal state: there are 40, or no room.")
                .state("person(0)", "person(9)")
                .told("room(5)").times(40, i -> "person(" + i % 10 + ")", i -> i)
                .state("person(0)", "person(9)").is("inside(5)", 40).is("where(39)", 0);
    }

    private void card() {
        String good = "A card of a person, good up to a minute (also one that is over): its number.";
        inOpenHouse(5, good)
                .is("card(0, 50)", 3).is("asks(3, 0, 1, 50)", 0).is("asks(3, 0, 0, 51)", 2)
                .is("card(0, 7)", 4).is("card(0, 0)", 5).is("card(0, 51)", 6).is("now()", 51)
                .is("asks(4, 0, 0, 51)", 2).is("asks(5, 0, 0, 51)", 2).is("asks(6, 0, 0, 51)", 0);
        inOpenHouse(5, good).is("card(0, 0)", 3).is("asks(3, 0, 1, 0)", 0).is("asks(3, 0, 0, 1)", 2).is("asks(0, 0, 0, LAST)", 0);
        inHouse(5, "Illegal argument;")
                .argument("card(-1, 0)", "card(3, 0)", "card(MIN, 0)", "card(MAX, 0)")
                .argument("card(0, -1)", "card(0, 1000001)", "card(0, MIN)", "card(0, MAX)")
                .is("card(2, 0)", 3).is("card(0, LAST)", 4);
        run(5, "illegal state: there are 60.").told("room(0)", "person(0)", "person(1)")
                .times(60, i -> "card(" + i % 2 + ", " + i + ")", i -> i)
                .state("card(0, 0)", "card(1, LAST)").is("lost(59, 0)", NONE);
    }

    private void right() {
        inHouse(6, "A right from a minute on (not asked against NOW, and NOW stays): its number.")
                .is("right(0, 1, 0, 1439, 100)", 0).is("now()", 0)
                .is("asks(0, 0, 1, 99)", 5).is("asks(0, 0, 1, 100)", 0)
                .is("right(0, 0, 0, 1439, 99)", 1).is("right(0, 0, 0, 1439, 0)", 2).is("right(0, 2, 0, 1439, LAST)", 3).is("now()", 100)
                .is("asks(0, 0, 0, 100)", 0).is("asks(0, 2, 2, 100)", 5).is("asks(0, 2, 2, LAST)", 0);
        String argument = "Illegal argument: also if from or to is not 0 .. 1439;";
        run(6, argument)
                .argument("right(-1, 0, 0, 1, 0)", "right(10, 0, 0, 1, 0)", "right(MIN, 0, 0, 1, 0)", "right(MAX, 0, 0, 1, 0)")
                .argument("right(0, -1, 0, 1, 0)", "right(0, 10, 0, 1, 0)", "right(0, MIN, 0, 1, 0)", "right(0, MAX, 0, 1, 0)")
                .argument("right(0, 0, -1, 1, 0)", "right(0, 0, 1440, 1, 0)", "right(0, 0, MIN, 1, 0)", "right(0, 0, MAX, 1, 0)")
                .argument("right(0, 0, 0, -1, 0)", "right(0, 0, 0, 1440, 0)", "right(0, 0, 0, MIN, 0)", "right(0, 0, 0, MAX, 0)")
                .argument("right(0, 0, 0, 1, -1)", "right(0, 0, 0, 1, 1000001)", "right(0, 0, 0, 1, MIN)", "right(0, 0, 0, 1, MAX)")
                .is("right(0, 0, 0, 1439, 0)", 0).is("right(9, 9, 1439, 0, LAST)", 1).is("right(0, 0, 1439, 1439, 0)", 2);
        run(6, "illegal state: there are 16.").times(16, i -> "right(" + i % 10 + ", 0, 0, 1, 0)", i -> i)
                .state("right(0, 0, 0, 1, 0)", "right(9, 9, 1439, 0, LAST)").is("end(15, 0)", NONE);
    }

    private void end() {
        String sentence = "A right is ended from a minute on (not asked against NOW), also instead of another one: from when it was, NONE.";
        inOpenHouse(7, sentence)
                .is("end(1, 60)", NONE).is("now()", 0)
                .is("asks(0, 0, 1, 59)", 0).is("asks(1, 0, 1, 60)", 5)
                .is("end(1, 61)", 60).is("asks(1, 0, 1, 60)", 0).is("asks(0, 0, 0, 60)", 0)
                .is("end(1, 0)", 61).is("asks(0, 0, 1, 60)", 5).is("end(1, 0)", 0).is("end(1, LAST)", 0).is("now()", 60)
                .is("asks(0, 0, 1, 61)", 0).is("end(1, 60)", LAST).is("end(0, 5)", NONE).is("end(2, 5)", NONE).is("end(1, 3)", 60);
        inOpenHouse(7, sentence)
                .is("end(1, LAST)", NONE).is("asks(0, 0, 1, 999999)", 0).is("asks(1, 0, 1, LAST)", 5);
        inOpenHouse(7, "Illegal argument.")
                .told("end(1, 60)")
                .argument("end(-1, 0)", "end(3, 0)", "end(MIN, 0)", "end(MAX, 0)")
                .argument("end(1, -1)", "end(1, 1000001)", "end(1, MIN)", "end(1, MAX)")
                .is("end(1, 0)", 60);
    }

    private void lost() {
        String sentence = "A card is lost from a minute on (likewise): from when it was, NONE.";
        inOpenHouse(8, sentence)
                .told("card(0, LAST)")
                .is("lost(0, 60)", NONE).is("now()", 0)
                .is("asks(0, 0, 1, 59)", 0).is("asks(0, 0, 0, 60)", 3).is("asks(3, 0, 0, 60)", 0)
                .is("lost(0, 61)", 60).is("asks(0, 0, 1, 60)", 0)
                .is("lost(0, 0)", 61).is("asks(0, 0, 0, 60)", 3).is("lost(0, 0)", 0).is("lost(0, LAST)", 0).is("now()", 60)
                .is("asks(0, 0, 0, 61)", 0).is("lost(0, 60)", LAST).is("lost(1, 5)", NONE).is("lost(3, 5)", NONE).is("lost(0, 3)", 60);
        inOpenHouse(8, sentence)
                .is("lost(0, LAST)", NONE).is("asks(0, 0, 1, 999999)", 0).is("asks(0, 0, 0, LAST)", 3);
        inOpenHouse(8, "Illegal argument.")
                .told("lost(1, 60)")
                .argument("lost(-1, 0)", "lost(3, 0)", "lost(MIN, 0)", "lost(MAX, 0)")
                .argument("lost(1, -1)", "lost(1, 1000001)", "lost(1, MIN)", "lost(1, MAX)")
                .is("lost(1, 0)", 60);
    }

    private void two() {
        inOpenHouse(9, "A door wants two, or not: whether it did.")
                .is("two(0, false)", false).is("two(0, true)", false).is("two(0, true)", true)
                .is("asks(0, 0, 1, 5)", 7).is("two(2, true)", false).is("two(1, false)", false)
                .is("two(0, false)", true).is("two(0, false)", false).is("asks(0, 0, 1, 5)", 0).is("two(2, false)", true);
        inOpenHouse(9, "Illegal argument.")
                .told("two(2, true)")
                .argument("two(-1, true)", "two(3, true)", "two(MIN, true)", "two(MAX, true)", "two(-1, false)", "two(3, false)");
    }

    private void airlock() {
        inOpenHouse(10, "Two doors are an airlock, or not: whether they were.")
                .is("airlock(0, 1, false)", false).is("airlock(0, 1, true)", false).is("airlock(0, 1, true)", true)
                .is("airlock(1, 0, true)", true).is("airlock(1, 2, true)", false).is("airlock(0, 2, false)", false)
                .told("state(1, true, 5)").is("asks(0, 0, 1, 5)", 6).is("asks(0, 2, 2, 5)", 6)
                .is("airlock(1, 0, false)", true).is("airlock(0, 1, false)", false).is("asks(0, 0, 1, 5)", 0)
                .is("asks(1, 2, 2, 5)", 6).is("airlock(2, 1, false)", true).is("asks(1, 2, 2, 5)", 0);
        inOpenHouse(10, "Illegal argument: also if they are one.")
                .told("airlock(0, 1, true)")
                .argument("airlock(0, 0, true)", "airlock(2, 2, true)", "airlock(0, 0, false)", "airlock(3, 3, true)", "airlock(-1, -1, true)")
                .argument("airlock(-1, 0, true)", "airlock(3, 0, true)", "airlock(MIN, 0, true)", "airlock(MAX, 0, true)")
                .argument("airlock(0, -1, true)", "airlock(0, 3, true)", "airlock(0, MIN, true)", "airlock(0, MAX, true)")
                .argument("airlock(0, 3, false)", "airlock(3, 0, false)");
    }

    private void state() {
        String sentence = "A door is open, or closed, at a minute: how many minutes it had been as it was (since the minute in which that"
                + " was told; since 0 at first).";
        inHouse(11, sentence)
                .is("state(0, false, 10)", 10).is("state(0, true, 15)", 15).is("state(0, true, 15)", 0).is("state(0, true, 20)", 5)
                .is("state(0, false, 30)", 15).is("state(0, false, 30)", 0).is("state(0, true, 31)", 1).is("state(1, true, 31)", 31)
                .told("door(0, 1)").is("state(3, true, 40)", 40).is("state(0, false, LAST)", LAST - 31).is("state(2, true, LAST)", LAST);
        inHouse(11, sentence)
                .is("state(0, true, 0)", 0).is("state(0, false, 0)", 0).is("state(0, false, 7)", 7).is("state(0, true, LAST)", LAST);
        inHouse(11, sentence)
                .told("off(0, true)").is("state(0, true, 4)", 4).told("off(0, false)").is("state(0, false, 9)", 5);
        inHouse(11, "Illegal argument.")
                .told("state(1, true, 5)")
                .argument("state(-1, true, 5)", "state(3, true, 5)", "state(MIN, true, 5)", "state(MAX, true, 5)")
                .argument("state(0, true, -1)", "state(0, true, 1000001)", "state(0, true, MIN)", "state(0, true, MAX)")
                .argument("state(0, true, 4)", "state(1, false, 4)", "state(0, true, 0)", "state(3, true, 9)")
                .is("state(1, false, 5)", 0);
    }

    private void off() {
        inOpenHouse(12, "A door is off from now on, or joins: how many rows were gone through")
                .told("off(0, true)").is("off(0, false)", 0)
                .told("off(0, true)", "asks(0, 0, 1, 5)").is("off(0, false)", 1)
                .told("off(0, true)", "both(0, 1, 0, 1, 5)", "asks(0, 0, 1, 5)", "asks(2, 0, 1, 5)").is("off(0, false)", 3)
                .told("off(0, true)").times(50, i -> "asks(1, 0, 1, 5)", i -> 0).is("off(0, false)", 50)
                .told("off(0, true)").is("off(0, false)", 0).is("now()", 5);
        inOpenHouse(12, "(0 when it goes off, or is as it was).")
                .is("off(0, false)", 0).is("off(0, true)", 0)
                .told("asks(0, 0, 1, 5)", "lost(1, 0)").is("off(0, true)", 0).is("where(0)", 0).is("asks(1, 0, 1, 5)", 0)
                .is("off(1, true)", 0).is("off(1, false)", 0)
                .is("off(0, false)", 2).is("off(0, false)", 0).is("against()", 1);
        inOpenHouse(12, "Illegal argument.")
                .told("off(0, true)", "asks(0, 0, 1, 5)")
                .argument("off(-1, true)", "off(3, true)", "off(MIN, true)", "off(MAX, true)")
                .argument("off(-1, false)", "off(3, false)", "off(MIN, false)", "off(MAX, false)");
    }

    private void asks() {
        inOpenHouse(13, "A card asks at a door for a room: 0 if it is let in, else why it is refused.")
                .is("asks(0, 0, 1, 10)", 0).is("asks(0, 0, 1, 10)", 4).is("asks(2, 0, 1, 10)", 5).is("asks(0, 0, 0, 10)", 0)
                .is("asks(0, 2, 2, 10)", 0).is("asks(0, 1, 1, 10)", 0).is("where(0)", 1);
        inOpenHouse(13, "Illegal argument: also if it is none of the door's rooms, there is no such card at all;")
                .told("state(2, false, 10)")
                .argument("asks(0, 0, 2, 10)", "asks(0, 1, 0, 10)", "asks(0, 2, 1, 10)", "asks(0, 0, 3, 10)", "asks(0, 0, -1, 10)")
                .argument("asks(3, 0, 1, 10)", "asks(-1, 0, 1, 10)", "asks(MIN, 0, 1, 10)", "asks(MAX, 0, 1, 10)")
                .argument("asks(0, 3, 1, 10)", "asks(0, -1, 1, 10)", "asks(0, MIN, 1, 10)", "asks(0, MAX, 1, 10)")
                .argument("asks(0, 0, MIN, 10)", "asks(0, 0, MAX, 10)", "asks(0, 0, 1, 9)", "asks(0, 0, 1, 1000001)")
                .argument("asks(0, 0, 2, 11)", "asks(3, 0, 1, 11)")
                .told("off(0, true)").argument("asks(3, 0, 1, 10)", "asks(0, 0, 2, 10)")
                .told("card(0, LAST)").refuses(1, "asks(3, 0, 1, 10)").is("asks(0, 0, 1, 10)", 0);
    }

    private void asksAtFullDoors() {
        String full = "illegal state: the door is off, and has 50 rows.";
        inOpenHouse(13, full)
                .told("off(0, true)", "off(1, true)").times(49, i -> "asks(" + i % 2 + ", 0, 1, " + i + ")", i -> 0)
                .is("asks(2, 0, 1, 49)", 5).is("asks(0, 0, 0, 49)", 0)
                .state("asks(0, 0, 1, 49)", "asks(0, 0, 1, 50)", "asks(2, 0, 1, 49)", "asks(0, 0, 1, LAST)")
                .is("asks(0, 1, 2, 49)", 0).is("off(0, true)", 0).state("asks(0, 0, 1, 49)")
                .is("off(0, false)", 50).is("where(0)", 0).is("asks(0, 0, 1, 49)", 0).is("asks(0, 0, 0, 49)", 0)
                .is("off(0, true)", 0).times(50, i -> "asks(0, 0, 1, 49)", i -> 0).state("asks(0, 0, 1, 49)").is("off(0, false)", 50);
        inOpenHouse(13, full)
                .times(60, i -> "asks(0, 0, " + (1 - i % 2) + ", " + i + ")", i -> 0).is("off(0, true)", 0).is("off(0, false)", 0);
    }

    private void both() {
        inOpenHouse(14, "Two cards ask together: likewise.")
                .is("both(0, 1, 0, 1, 10)", 0).is("where(0)", 1).is("where(1)", 1).is("where(2)", 0)
                .is("both(1, 0, 0, 0, 10)", 0).is("where(0)", 0).is("where(1)", 0)
                .is("both(0, 2, 0, 1, 10)", 5).is("where(0)", 0)
                .told("off(0, true)").is("both(1, 0, 0, 1, 10)", 0).is("where(0)", 0).told("lost(0, 0)", "lost(1, 0)")
                .is("off(0, false)", 2).is("found(0, 1)", 1).is("found(1, 1)", 0).is("where(0)", 1).is("where(1)", 1);
        inOpenHouse(14, "Illegal argument: also if they are one card;")
                .told("card(0, LAST)", "state(2, false, 10)")
                .argument("both(0, 0, 0, 1, 10)", "both(2, 2, 0, 1, 10)", "both(4, 4, 0, 1, 10)", "both(-1, -1, 0, 1, 10)")
                .argument("both(0, 4, 0, 1, 10)", "both(4, 0, 0, 1, 10)", "both(-1, 0, 0, 1, 10)", "both(0, -1, 0, 1, 10)")
                .argument("both(MIN, 0, 0, 1, 10)", "both(0, MIN, 0, 1, 10)", "both(MAX, 0, 0, 1, 10)", "both(0, MAX, 0, 1, 10)")
                .argument("both(0, 1, 3, 1, 10)", "both(0, 1, -1, 1, 10)", "both(0, 1, MIN, 1, 10)", "both(0, 1, MAX, 1, 10)")
                .argument("both(0, 1, 0, 2, 10)", "both(0, 1, 0, 3, 10)", "both(0, 1, 0, -1, 10)", "both(0, 1, 0, MIN, 10)")
                .argument("both(0, 1, 0, MAX, 10)", "both(0, 1, 0, 1, 9)", "both(0, 1, 0, 1, -1)", "both(0, 1, 0, 1, 1000001)")
                .argument("both(0, 0, 0, 1, 11)", "both(0, 1, 0, 2, 11)")
                .refuses(8, "both(0, 3, 0, 1, 10)").is("both(3, 1, 0, 1, 10)", 0);
    }

    private void bothAtFullDoors() {
        String full = "illegal state: the door is off, and has more than 48 rows.";
        inOpenHouse(14, full)
                .told("off(0, true)").times(24, i -> "both(0, 1, 0, 1, " + i + ")", i -> 0)
                .is("both(0, 2, 0, 1, 50)", 5).is("both(0, 1, 0, 1, 50)", 0)
                .state("both(0, 1, 0, 1, 50)", "both(0, 1, 0, 1, 51)", "both(0, 2, 0, 1, 50)", "asks(0, 0, 1, 50)")
                .is("off(0, false)", 50).is("both(0, 1, 0, 0, 50)", 0).is("off(0, true)", 0).is("both(0, 1, 0, 1, 50)", 0);
        inOpenHouse(14, full)
                .told("off(0, true)").times(24, i -> "both(0, 1, 0, 1, " + i + ")", i -> 0).is("asks(0, 0, 1, 50)", 0)
                .state("both(0, 1, 0, 1, 50)", "both(0, 2, 0, 1, 50)", "both(0, 1, 0, 1, 60)")
                .is("asks(1, 0, 1, 50)", 0).state("both(0, 1, 0, 1, 50)").is("off(0, false)", 50);
        inOpenHouse(14, full)
                .times(30, i -> "both(0, 1, 0, " + (1 - i % 2) + ", " + i + ")", i -> 0).is("off(0, true)", 0).is("off(0, false)", 0);
    }

    private void where() {
        inOpenHouse(15, "In which room a person is, as far as is known.")
                .is("where(0)", 0).is("asks(0, 0, 1, 5)", 0).is("where(0)", 1).is("asks(0, 0, 1, 5)", 4).is("where(0)", 1)
                .told("off(1, true)").is("asks(0, 1, 2, 5)", 0).is("where(0)", 1).is("off(1, false)", 1).is("where(0)", 2)
                .is("where(1)", 0).is("where(2)", 0);
        inOpenHouse(15, "Illegal argument.").argument("where(-1)", "where(3)", "where(MIN)", "where(MAX)").is("where(2)", 0)
                .told("person(0)").is("where(3)", 0);
    }

    private void inside() {
        inOpenHouse(16, "How many persons are in a zone's rooms.")
                .is("inside(0)", 3).is("inside(1)", 0).is("inside(9)", 0)
                .told("asks(1, 0, 1, 5)").is("inside(0)", 2).is("inside(1)", 1)
                .told("room(1)", "door(0, 3)", "asks(0, 3, 3, 5)").is("inside(0)", 1).is("inside(1)", 2)
                .told("right(1, 2, 0, 1439, 0)", "off(2, true)", "asks(2, 2, 2, 5)").is("inside(2)", 0).is("inside(0)", 1)
                .told("off(2, false)").is("inside(2)", 1).is("inside(0)", 0);
        run(16, "How many persons are in a zone's rooms.")
                .told("room(9)").is("inside(9)", 0).times(40, i -> "person(0)", i -> i).is("inside(9)", 40).is("inside(0)", 0);
        inOpenHouse(16, "Illegal argument.").argument("inside(-1)", "inside(10)", "inside(MIN)", "inside(MAX)");
    }

    private void muster() {
        inOpenHouse(17, "The person in a zone's rooms that has so many such ones before it (by numbers);")
                .is("muster(0, 0)", 0).is("muster(0, 1)", 1).is("muster(0, 2)", 2)
                .told("asks(1, 0, 1, 5)").is("muster(0, 0)", 0).is("muster(0, 1)", 2).is("muster(1, 0)", 1)
                .told("room(1)", "door(0, 3)", "asks(0, 3, 3, 5)").is("muster(1, 0)", 0).is("muster(1, 1)", 1).is("muster(0, 0)", 2);
        run(17, "The person in a zone's rooms that has so many such ones before it (by numbers);")
                .told("room(9)").times(40, i -> "person(0)", i -> i).times(40, i -> "muster(9, " + i + ")", i -> i)
                .is("muster(9, 40)", NONE);
        inOpenHouse(17, "NONE.")
                .is("muster(0, 3)", NONE).is("muster(0, MAX)", NONE).is("muster(1, 0)", NONE).is("muster(9, 0)", NONE)
                .told("asks(1, 0, 1, 5)").is("muster(0, 2)", NONE).is("muster(1, 1)", NONE);
        inOpenHouse(17, "Illegal argument: also if place is below 0.")
                .argument("muster(0, -1)", "muster(0, MIN)", "muster(9, -1)")
                .argument("muster(-1, 0)", "muster(10, 0)", "muster(MIN, 0)", "muster(MAX, 0)");
    }

    private void against() {
        inOpenHouse(18, "How many rows of joined doors were against (in all).")
                .told("off(0, true)", "off(1, true)", "asks(0, 0, 1, 5)", "asks(1, 0, 1, 5)", "asks(0, 1, 2, 6)", "lost(0, 6)")
                .is("against()", 0).is("off(0, false)", 2).is("against()", 0).is("off(1, false)", 1).is("against()", 1)
                .told("off(0, true)", "asks(1, 0, 1, 6)", "lost(1, 0)", "off(0, false)").is("against()", 2)
                .told("lost(0, LAST)", "lost(1, LAST)", "off(0, true)", "off(0, false)").is("against()", 2);
        inOpenHouse(18, "How many rows of joined doors were against (in all).")
                .told("off(0, true)", "off(1, true)", "off(2, true)").times(150, i -> "asks(0, " + i / 50 + ", " + Math.min(2, i / 50 + 1) + ", 5)", i -> 0)
                .told("lost(0, 5)").is("off(0, false)", 50).is("against()", 50).is("off(1, false)", 50).is("against()", 100)
                .is("off(2, false)", 50).is("against()", 150);
    }

    private void found() {
        String first = "Of the k-th row that was against (from 0, as they were found; 100 are kept, the first ones):";
        inOpenHouse(19, first)
                .told("off(0, true)", "off(1, true)", "asks(0, 0, 1, 5)", "asks(1, 1, 2, 6)", "asks(1, 0, 1, 7)", "lost(0, 0)", "lost(1, 0)")
                .is("off(1, false)", 1).is("off(0, false)", 2)
                .is("found(0, 2)", 6).is("found(1, 2)", 5).is("found(2, 2)", 7);
        inOpenHouse(19, first)
                .told("off(0, true)", "off(1, true)", "off(2, true)").told("lost(0, LAST)")
                .times(50, i -> "asks(0, 0, 1, " + i + ")", i -> 0).times(49, i -> "asks(1, 1, 2, " + (100 + i) + ")", i -> 0)
                .times(2, i -> "asks(0, 2, 2, " + (200 + i) + ")", i -> 0)
                .told("lost(0, 0)", "lost(1, 0)", "off(0, false)", "off(1, false)")
                .is("found(98, 2)", 148).argument("found(99, 0)", "found(100, 0)")
                .told("off(2, false)").is("against()", 101)
                .is("found(0, 2)", 0).is("found(49, 2)", 49).is("found(50, 2)", 100).is("found(99, 2)", 200).is("found(99, 0)", 2)
                .argument("found(100, 0)", "found(100, 3)", "found(101, 0)");
        inOpenHouse(19, "what = 0 its door, 1 its card, 2 its minute, 3 why it would be refused.")
                .told("card(1, LAST)", "off(1, true)", "asks(3, 1, 2, 77)", "asks(0, 1, 1, 78)", "lost(3, 0)", "end(1, 78)", "off(1, false)")
                .is("found(0, 0)", 1).is("found(0, 1)", 3).is("found(0, 2)", 77).is("found(0, 3)", 3)
                .is("found(1, 0)", 1).is("found(1, 1)", 0).is("found(1, 2)", 78).is("found(1, 3)", 5);
        inOpenHouse(19, "Illegal argument: there is none such.")
                .argument("found(0, 0)", "found(-1, 0)")
                .told("off(0, true)", "asks(0, 0, 1, 5)", "lost(0, 0)").argument("found(0, 0)").told("off(0, false)")
                .argument("found(1, 0)", "found(-1, 0)", "found(MIN, 0)", "found(MAX, 0)")
                .argument("found(0, 4)", "found(0, -1)", "found(0, MIN)", "found(0, MAX)", "found(1, 4)")
                .is("found(0, 0)", 0).is("found(0, 3)", 3);
    }

    private void uses() {
        String sentence = "How many uses there are, alike ones counted once.";
        inOpenHouse(20, sentence)
                .is("uses()", 0).is("both(0, 1, 0, 1, 5)", 0).is("uses()", 1).is("both(0, 1, 0, 0, 5)", 0).is("uses()", 2)
                .is("both(0, 1, 0, 1, 1445)", 0).is("uses()", 2).is("both(0, 1, 0, 0, 1446)", 0).is("uses()", 3)
                .is("asks(0, 0, 0, 1447)", 4).is("uses()", 3)
                .told("room(1)", "door(0, 3)").is("asks(0, 3, 3, 2885)", 0).is("uses()", 3)
                .told("right(1, 1, 0, 1439, 0)").is("asks(2, 0, 1, 2885)", 0).is("uses()", 4)
                .told("off(1, true)").is("both(0, 1, 1, 2, 2885)", 0).is("uses()", 5).told("off(1, false)").is("uses()", 5);
        run(20, sentence)
                .told("room(9)", "room(0)", "room(9)", "door(0, 1)", "door(0, 2)", "person(9)", "person(0)", "card(0, LAST)", "card(1, LAST)")
                .told("right(9, 9, 1439, 1, 0)", "right(0, 0, 1439, 1, 0)", "right(9, 0, 0, 1, 0)", "right(0, 9, 0, 1, 0)")
                .told("off(0, true)", "off(1, true)")
                .is("asks(0, 1, 2, 0)", 0).is("asks(1, 0, 1, 0)", 0).is("asks(0, 0, 1, 0)", 0).is("asks(1, 1, 2, 0)", 0).is("uses()", 4)
                .is("asks(0, 1, 2, 1439)", 0).is("asks(1, 0, 1, 1439)", 0).is("uses()", 6)
                .is("asks(0, 1, 0, 1440)", 0).is("uses()", 6).is("fewest()", 15)
                .is("asks(0, 1, 0, 999360)", 0).is("uses()", 6).is("asks(0, 1, 0, 999361)", 5).is("uses()", 6);
    }

    private void fewest() {
        String all = "The fewest rights by whose groups, zones and spans (whatever their minutes and ends) all uses that some right has"
                + " are: as 2 to the power of each, together;";
        inHouse(21, all)
                .is("fewest()", 0)
                .told("right(0, 1, 0, 20, 0)", "right(0, 0, 0, 1439, 0)").is("fewest()", 0)
                .told("asks(0, 0, 1, 10)").is("fewest()", 1)
                .told("asks(0, 0, 0, 10)").is("fewest()", 3)
                .told("end(0, 0)", "end(1, 0)").is("fewest()", 3)
                .told("right(0, 1, 15, 30, 0)", "asks(0, 0, 1, 20)").is("fewest()", 7)
                .told("right(0, 1, 10, 21, LAST)").is("fewest()", 10)
                .told("end(3, 0)").is("fewest()", 10)
                .told("right(1, 1, 0, 1439, 0)", "right(0, 2, 0, 1439, 0)", "right(0, 1, 11, 21, 0)", "right(0, 1, 10, 20, 0)")
                .is("fewest()", 10);
        inHouse(21, all)
                .times(16, i -> "right(0, 1, " + i * 10 + ", " + (i * 10 + 10) + ", 0)", i -> i).told("off(0, true)")
                .times(16, i -> "asks(0, 0, 1, " + (i * 10 + i % 10) + ")", i -> 0).is("fewest()", 65535);
        inHouse(21, all)
                .told("right(0, 1, 1400, 100, 0)", "right(0, 1, 50, 1439, 0)", "right(0, 1, 30, 30, 0)", "off(0, true)")
                .is("asks(0, 0, 1, 49)", 0).is("fewest()", 1).is("asks(0, 0, 1, 100)", 0).is("fewest()", 3)
                .is("asks(0, 0, 1, 1439)", 0).is("fewest()", 3);
        inHouse(21, all)
                .told("right(0, 1, 0, 100, 0)", "right(0, 1, 100, 200, 0)", "off(0, true)")
                .times(49, i -> "asks(0, 0, 1, " + i + ")", i -> 0).is("fewest()", 1)
                .is("asks(0, 0, 1, 100)", 0).is("fewest()", 3);
        String least = "of several sets the one with the least such number.";
        inHouse(21, least)
                .told("right(0, 1, 0, 100, 0)", "right(0, 1, 100, 200, 0)", "right(0, 1, 1400, 50, 0)", "right(0, 1, 40, 200, 0)")
                .told("right(0, 1, 1400, 50, 0)", "off(0, true)")
                .told("asks(0, 0, 1, 45)").is("fewest()", 1)
                .told("asks(0, 0, 1, 150)").is("fewest()", 8)
                .told("asks(0, 0, 1, 1439)").is("fewest()", 6)
                .told("asks(0, 0, 1, 1500)").is("fewest()", 12);
        // The spans' ends cut the day into 32 pieces, each in other rights' spans; a span reaches as far as the fifth one
        // behind it and not the sixth, so four are needed, and the least such four are 0, 1, 6 and 11.
        inHouse(21, least)
                .times(16, i -> "right(0, 1, " + 90 * i + ", " + (90 * i + 495) % 1440 + ", 0)", i -> i).told("off(0, true)")
                .told("asks(0, 0, 1, 0)").times(32, i -> "asks(0, 0, 1, " + (45 * i + i + 1) + ")", i -> 0)
                .is("uses()", 33).is("fewest()", 2115);
        inHouse(21, least)
                .times(16, i -> "right(0, 1, 0, 1439, 0)", i -> i).told("asks(0, 0, 1, 5)").is("fewest()", 1);
        inHouse(21, least)
                .told("right(0, 1, 0, 10, 0)", "right(0, 1, 20, 30, 0)", "right(0, 1, 10, 30, 0)", "right(0, 1, 0, 20, 0)", "off(0, true)")
                .told("asks(0, 0, 1, 5)", "asks(0, 0, 1, 15)", "asks(0, 0, 1, 25)").is("fewest()", 5);
    }

    private void now() {
        inOpenHouse(22, "NOW.")
                .is("now()", 0)
                .told("card(0, 900)", "right(0, 0, 0, 1, 900)", "end(3, 900)", "lost(3, 900)", "off(1, true)").is("now()", 0)
                .told("state(0, true, 5)").is("now()", 5).told("state(0, true, 5)").is("now()", 5)
                .told("asks(0, 0, 1, 6)").is("now()", 6).told("asks(2, 0, 1, 7)").is("now()", 7)
                .told("both(0, 1, 0, 1, 8)").is("now()", 8).told("asks(0, 1, 2, 9)").is("now()", 9).told("off(1, false)").is("now()", 9)
                .argument("asks(0, 0, 2, 20)", "both(0, 0, 0, 1, 20)", "state(3, true, 20)", "state(0, true, 8)").is("now()", 9)
                .told("both(2, 1, 2, 2, LAST)").is("now()", LAST).argument("state(0, false, 1000001)").is("now()", LAST);
    }
}
