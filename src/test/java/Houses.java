/** Calls that runs begin with. */
final class Houses {
    /** Rooms 0, 1, 2 in zones 0, 1, 2; doors 0: 0-1, 1: 1-2, 2: 0-2; persons 0 and 1 of group 0, 2 of group 1; a card each. */
    static final String[] HOUSE = {
        "room(0)", "room(1)", "room(2)",
        "door(0, 1)", "door(1, 2)", "door(0, 2)",
        "person(0)", "person(0)", "person(1)",
        "card(0, LAST)", "card(1, LAST)", "card(2, LAST)"
    };
    /** Group 0 may go to each zone, at every minute of the day but the last. */
    static final String[] OPEN = {
        "right(0, 0, 0, 1439, 0)", "right(0, 1, 0, 1439, 0)", "right(0, 2, 0, 1439, 0)"
    };

    private Houses() {
    }
}
