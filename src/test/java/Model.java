import java.util.ArrayList;
import java.util.HashSet;
import java.util.List;
import java.util.Set;

/**
 * A second reading of the document, as near to its words as can be: it keeps every telling with its
 * number and goes through all of them each time, and tries all sets of rights for the fewest.
 */
final class Model {
    private enum Kind { CARD, RIGHT, END, LOST }

    /** A card (what: person, when: until), a right (its five numbers), an end or a loss (what, when). */
    private record Telling(Kind kind, int what, int when, int[] right) { }

    private record Row(int card, int room, int minute) { }

    private record Use(int group, int zone, int time) { }

    private static final class Door {
        int roomA;
        int roomB;
        boolean two;
        boolean open;
        int since;
        int knows = Integer.MAX_VALUE;
        final List<Row> rows = new ArrayList<>();

        boolean isOff() {
            return knows != Integer.MAX_VALUE;
        }
    }

    private final List<Integer> zones = new ArrayList<>();
    private final List<Door> doors = new ArrayList<>();
    private final List<Integer> groups = new ArrayList<>();
    private final List<Integer> places = new ArrayList<>();
    private final List<Telling> tellings = new ArrayList<>();
    private final Set<Long> airlocks = new HashSet<>();
    private final Set<Use> uses = new HashSet<>();
    private final List<int[]> found = new ArrayList<>();
    private int now = 0;

    private static void argument(boolean fine) {
        if (!fine) {
            throw new IllegalArgumentException();
        }
    }

    private static void state(boolean fine) {
        if (!fine) {
            throw new IllegalStateException();
        }
    }

    private static boolean below(int number, int bound) {
        return 0 <= number && number < bound;
    }

    /** One of a door's rooms, or room 0 if there is no such door: for runs that ask for what there is. */
    int roomOf(int door, boolean second) {
        if (!below(door, doors.size())) {
            return 0;
        }
        return second ? doors.get(door).roomB : doors.get(door).roomA;
    }

    private List<Telling> told(Kind kind, int knows) {
        List<Telling> some = new ArrayList<>();
        for (int i = 0; i < Math.min(knows, tellings.size()); i++) {
            if (tellings.get(i).kind() == kind) {
                some.add(tellings.get(i));
            }
        }
        return some;
    }

    private int lastOf(Kind kind, int what, int knows) {
        int when = -1;
        for (Telling telling : told(kind, knows)) {
            if (telling.what() == what) {
                when = telling.when();
            }
        }
        return when;
    }

    private int count(Kind kind) {
        return told(kind, Integer.MAX_VALUE).size();
    }

    int room(int zone) {
        argument(below(zone, 10));
        state(zones.size() < 20);
        zones.add(zone);
        return zones.size() - 1;
    }

    int door(int roomA, int roomB) {
        argument(below(roomA, zones.size()) && below(roomB, zones.size()) && roomA != roomB);
        state(doors.size() < 30);
        Door door = new Door();
        door.roomA = roomA;
        door.roomB = roomB;
        doors.add(door);
        return doors.size() - 1;
    }

    int person(int group) {
        argument(below(group, 10));
        state(groups.size() < 40 && !zones.isEmpty());
        groups.add(group);
        places.add(0);
        return groups.size() - 1;
    }

    int card(int person, int until) {
        argument(below(person, groups.size()) && below(until, 1000001));
        state(count(Kind.CARD) < 60);
        tellings.add(new Telling(Kind.CARD, person, until, null));
        return count(Kind.CARD) - 1;
    }

    int right(int group, int zone, int from, int to, int since) {
        argument(below(group, 10) && below(zone, 10) && below(from, 1440) && below(to, 1440) && below(since, 1000001));
        state(count(Kind.RIGHT) < 16);
        tellings.add(new Telling(Kind.RIGHT, 0, 0, new int[] {group, zone, from, to, since}));
        return count(Kind.RIGHT) - 1;
    }

    int end(int right, int minute) {
        argument(below(right, count(Kind.RIGHT)) && below(minute, 1000001));
        int before = lastOf(Kind.END, right, Integer.MAX_VALUE);
        tellings.add(new Telling(Kind.END, right, minute, null));
        return before;
    }

    int lost(int card, int minute) {
        argument(below(card, count(Kind.CARD)) && below(minute, 1000001));
        int before = lastOf(Kind.LOST, card, Integer.MAX_VALUE);
        tellings.add(new Telling(Kind.LOST, card, minute, null));
        return before;
    }

    boolean two(int door, boolean on) {
        argument(below(door, doors.size()));
        boolean before = doors.get(door).two;
        doors.get(door).two = on;
        return before;
    }

    private static long pair(int doorA, int doorB) {
        return 1L << doorA | 1L << doorB;
    }

    boolean airlock(int doorA, int doorB, boolean on) {
        argument(below(doorA, doors.size()) && below(doorB, doors.size()) && doorA != doorB);
        return on ? !airlocks.add(pair(doorA, doorB)) : airlocks.remove(pair(doorA, doorB));
    }

    int state(int door, boolean open, int minute) {
        argument(below(door, doors.size()) && below(minute, 1000001) && minute >= now);
        now = minute;
        Door told = doors.get(door);
        int lasted = minute - told.since;
        told.since = told.open == open ? told.since : minute;
        told.open = open;
        return lasted;
    }

    int off(int door, boolean on) {
        argument(below(door, doors.size()));
        Door told = doors.get(door);
        if (told.isOff() == on) {
            return 0;
        }
        if (on) {
            told.knows = tellings.size();
            return 0;
        }
        told.knows = Integer.MAX_VALUE;
        List<Row> rows = new ArrayList<>(told.rows);
        told.rows.clear();
        for (Row row : rows) {
            places.set(told(Kind.CARD, told.knows).get(row.card()).what(), row.room());
            for (int why : new int[] {1, 2, 3, 5}) {
                if (refuses(why, row.card(), door, row.room(), row.minute())) {
                    found.add(new int[] {door, row.card(), row.minute(), why});
                    break;
                }
            }
        }
        return rows.size();
    }

    private static boolean spans(int[] right, int time) {
        int from = right[2];
        int to = right[3];
        if (from == to) {
            return false;
        }
        return from < to ? from <= time && time < to : from <= time || time < to;
    }

    private boolean mayNot(int group, int zone, int minute, int knows) {
        List<Telling> rights = told(Kind.RIGHT, knows);
        for (int i = 0; i < rights.size(); i++) {
            int[] right = rights.get(i).right();
            int ended = lastOf(Kind.END, i, knows);
            if (right[0] == group && right[1] == zone && right[4] <= minute && (ended < 0 || ended > minute)
                    && spans(right, minute % 1440)) {
                return false;
            }
        }
        return true;
    }

    private boolean refuses(int why, int card, int door, int room, int minute) {
        Door at = doors.get(door);
        Telling asking = told(Kind.CARD, Integer.MAX_VALUE).get(card);
        switch (why) {
            case 1:
                return card >= told(Kind.CARD, at.knows).size();
            case 2:
                return asking.when() < minute;
            case 3:
                int lost = lastOf(Kind.LOST, card, at.knows);
                return lost >= 0 && lost <= minute;
            case 4:
                return !at.isOff() && places.get(asking.what()) != at.roomA + at.roomB - room;
            case 5:
                return mayNot(groups.get(asking.what()), zones.get(room), minute, at.knows);
            case 6:
                for (int other = 0; other < doors.size(); other++) {
                    if (other != door && doors.get(other).open && airlocks.contains(pair(door, other))) {
                        return true;
                    }
                }
                return false;
            default:
                return at.two;
        }
    }

    private int first(int card, int door, int room, int minute, int reasons) {
        for (int why = 1; why <= reasons; why++) {
            if (refuses(why, card, door, room, minute)) {
                return why;
            }
        }
        return 0;
    }

    private void enter(int card, int door, int room, int minute) {
        int person = told(Kind.CARD, Integer.MAX_VALUE).get(card).what();
        uses.add(new Use(groups.get(person), zones.get(room), minute % 1440));
        if (doors.get(door).isOff()) {
            doors.get(door).rows.add(new Row(card, room, minute));
        } else {
            places.set(person, room);
        }
    }

    private void argumentsOfAsking(int card, int door, int room, int minute) {
        argument(below(card, count(Kind.CARD)) && below(door, doors.size()));
        argument(room == doors.get(door).roomA || room == doors.get(door).roomB);
        argument(below(minute, 1000001) && minute >= now);
    }

    int asks(int card, int door, int room, int minute) {
        argumentsOfAsking(card, door, room, minute);
        state(!doors.get(door).isOff() || doors.get(door).rows.size() < 50);
        now = minute;
        int why = first(card, door, room, minute, 7);
        if (why == 0) {
            enter(card, door, room, minute);
        }
        return why;
    }

    int both(int cardA, int cardB, int door, int room, int minute) {
        argumentsOfAsking(cardA, door, room, minute);
        argumentsOfAsking(cardB, door, room, minute);
        argument(cardA != cardB);
        state(!doors.get(door).isOff() || doors.get(door).rows.size() <= 48);
        now = minute;
        List<Telling> cards = told(Kind.CARD, Integer.MAX_VALUE);
        int whyA = first(cardA, door, room, minute, 6);
        int whyB = first(cardB, door, room, minute, 6);
        if (whyA != 0 || whyB != 0) {
            return whyA != 0 ? whyA : whyB;
        }
        if (cards.get(cardA).what() == cards.get(cardB).what()) {
            return 8;
        }
        enter(cardA, door, room, minute);
        enter(cardB, door, room, minute);
        return 0;
    }

    int where(int person) {
        argument(below(person, groups.size()));
        return places.get(person);
    }

    private List<Integer> within(int zone) {
        List<Integer> some = new ArrayList<>();
        for (int person = 0; person < places.size(); person++) {
            if (zones.get(places.get(person)) == zone) {
                some.add(person);
            }
        }
        return some;
    }

    int inside(int zone) {
        argument(below(zone, 10));
        return within(zone).size();
    }

    int muster(int zone, int place) {
        argument(below(zone, 10) && place >= 0);
        return place < within(zone).size() ? within(zone).get(place) : -1;
    }

    int against() {
        return found.size();
    }

    int found(int k, int what) {
        argument(below(k, Math.min(100, found.size())) && below(what, 4));
        return found.get(k)[what];
    }

    int uses() {
        return uses.size();
    }

    int fewest() {
        List<Telling> rights = told(Kind.RIGHT, Integer.MAX_VALUE);
        Set<Integer> needs = new HashSet<>();
        for (Use use : uses) {
            int set = 0;
            for (int i = 0; i < rights.size(); i++) {
                int[] right = rights.get(i).right();
                if (right[0] == use.group() && right[1] == use.zone() && spans(right, use.time())) {
                    set |= 1 << i;
                }
            }
            if (set != 0) {
                needs.add(set);
            }
        }
        int best = -1;
        for (int set = 0; set < 1 << rights.size(); set++) {
            int taken = set;
            boolean fewer = best < 0 || Integer.bitCount(set) < Integer.bitCount(best);
            if (fewer && needs.stream().allMatch(need -> (need & taken) != 0)) {
                best = set;
            }
        }
        return best;
    }

    int now() {
        return now;
    }
}
