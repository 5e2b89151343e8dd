import java.util.ArrayList;
import java.util.Arrays;
import java.util.List;

/**
 * Cards and doors: who may go through which door when, by rights of groups for zones. The numbered
 * promises that the methods keep stand in the project's document.
 */
public final class CardRights {
    /** There is none. */
    public static final int NONE = -1;

    private static final int LAST_MINUTE = 1000000;
    private static final int DAY = 1440;
    private static final int ZONES = 10;
    private static final int GROUPS = 10;
    private static final int ROOMS = 20;
    private static final int DOORS = 30;
    private static final int PERSONS = 40;
    private static final int CARDS = 60;
    private static final int RIGHTS = 16;
    private static final int ROWS = 50;
    private static final int KEPT = 100;

    // The document's numbers for why a card is refused.
    private static final int LET_IN = 0;
    private static final int CARD_UNKNOWN = 1;
    private static final int CARD_OVER = 2;
    private static final int CARD_LOST = 3;
    private static final int PERSON_ELSEWHERE = 4;
    private static final int NO_RIGHT = 5;
    private static final int AIRLOCK_OPEN = 6;
    private static final int WANTS_TWO = 7;
    private static final int ONE_PERSON = 8;

    private final List<Room> rooms = new ArrayList<>();
    private final List<Door> doors = new ArrayList<>();
    private final List<Person> persons = new ArrayList<>();
    private final List<Card> cards = new ArrayList<>();
    private final List<Right> rights = new ArrayList<>();
    private final Knowledge toldSoFar = new Knowledge();
    private final Findings findings = new Findings();
    private final Uses used = new Uses();
    private final Needs needs = new Needs();
    private int latest = 0;

    /** Nothing but a day. */
    public CardRights() {
    }

    // ---- what there is

    /** A room in a zone: its number. */
    public int room(int zone) throws IllegalArgumentException, IllegalStateException {
        checkZone(zone);
        if (rooms.size() >= ROOMS) {
            throw new IllegalStateException("there are as many rooms as may be");
        }
        Room made = new Room(rooms.size(), zone);
        rooms.add(made);
        return made.number;
    }

    /** A door between two rooms: its number. */
    public int door(int roomA, int roomB) throws IllegalArgumentException, IllegalStateException {
        Room a = roomNumbered(roomA);
        Room b = roomNumbered(roomB);
        if (roomA == roomB) {
            throw new IllegalArgumentException("a door joins two rooms");
        }
        if (doors.size() >= DOORS) {
            throw new IllegalStateException("there are as many doors as may be");
        }
        Door made = new Door(doors.size(), a, b);
        doors.add(made);
        return made.number;
    }

    /** A person of a group, in room 0 at first: its number. */
    public int person(int group) throws IllegalArgumentException, IllegalStateException {
        checkGroup(group);
        if (persons.size() >= PERSONS) {
            throw new IllegalStateException("there are as many persons as may be");
        }
        if (rooms.isEmpty()) {
            throw new IllegalStateException("there is no room to be in");
        }
        persons.add(new Person(group, rooms.get(0)));
        return persons.size() - 1;
    }

    /** A card of a person, good up to a minute (also one that is over): its number. */
    public int card(int person, int until) throws IllegalArgumentException, IllegalStateException {
        Person owner = personNumbered(person);
        checkMinute(until);
        if (cards.size() >= CARDS) {
            throw new IllegalStateException("there are as many cards as may be");
        }
        Card made = new Card(cards.size(), owner, until);
        cards.add(made);
        toldSoFar.cardCount = cards.size();
        return made.number;
    }

    /** A right of a group for a zone in a span of the day, from a minute on: its number. */
    public int right(int group, int zone, int from, int to, int since)
            throws IllegalArgumentException, IllegalStateException {
        checkGroup(group);
        checkZone(zone);
        checkTimeOfDay(from);
        checkTimeOfDay(to);
        checkMinute(since);
        if (rights.size() >= RIGHTS) {
            throw new IllegalStateException("there are as many rights as may be");
        }
        rights.add(new Right(group, zone, from, to, since));
        toldSoFar.rightCount = rights.size();
        return rights.size() - 1;
    }

    /** A right is ended from a minute on: from when it was before, or NONE. */
    public int end(int right, int minute) throws IllegalArgumentException {
        if (right < 0 || right >= rights.size()) {
            throw new IllegalArgumentException("there is no such right");
        }
        checkMinute(minute);
        int before = toldSoFar.endedFrom[right];
        toldSoFar.endedFrom[right] = minute;
        return before;
    }

    /** A card is lost from a minute on: from when it was before, or NONE. */
    public int lost(int card, int minute) throws IllegalArgumentException {
        Card told = cardNumbered(card);
        checkMinute(minute);
        int before = toldSoFar.lostFrom[told.number];
        toldSoFar.lostFrom[told.number] = minute;
        return before;
    }

    /** A door wants two, or not: whether it did. */
    public boolean two(int door, boolean on) throws IllegalArgumentException {
        Door told = doorNumbered(door);
        boolean before = told.wantsTwo;
        told.wantsTwo = on;
        return before;
    }

    /** Two doors are an airlock, or not: whether they were. */
    public boolean airlock(int doorA, int doorB, boolean on) throws IllegalArgumentException {
        Door a = doorNumbered(doorA);
        Door b = doorNumbered(doorB);
        if (doorA == doorB) {
            throw new IllegalArgumentException("an airlock has two doors");
        }
        boolean before = a.isAirlockWith(b);
        a.setAirlockWith(b, on);
        b.setAirlockWith(a, on);
        return before;
    }

    // ---- what happens

    /** A door is open, or closed, at a minute: how many minutes it had been as it was. */
    public int state(int door, boolean open, int minute) throws IllegalArgumentException {
        Door told = doorNumbered(door);
        checkMinuteFromNow(minute);
        latest = minute;
        int lasted = minute - told.asItIsSince;
        if (told.open != open) {
            told.open = open;
            told.asItIsSince = minute;
        }
        return lasted;
    }

    /** A door is off from now on, or joins: how many rows were gone through. */
    public int off(int door, boolean on) throws IllegalArgumentException {
        Door told = doorNumbered(door);
        if (told.isOff == on) {
            return 0;
        }
        told.isOff = on;
        if (on) {
            told.knewWhenCutOff.copyFrom(toldSoFar);
            return 0;
        }
        return goThroughRows(told);
    }

    /** A card asks at a door for a room: 0 if it is let in, else why it is refused. */
    public int asks(int card, int door, int room, int minute) throws IllegalArgumentException, IllegalStateException {
        Card asking = cardNumbered(card);
        Door at = doorNumbered(door);
        Room into = roomOfDoor(at, room);
        checkMinuteFromNow(minute);
        checkSpaceForRows(at, 1);
        latest = minute;
        int why = refusalByItself(asking, at, into, minute);
        if (why == LET_IN && at.wantsTwo) {
            why = WANTS_TWO;
        }
        if (why == LET_IN) {
            letIn(asking, at, into, minute);
        }
        return why;
    }

    /** Two cards ask together: 0 if both are let in, else why both are refused. */
    public int both(int cardA, int cardB, int door, int room, int minute)
            throws IllegalArgumentException, IllegalStateException {
        Card first = cardNumbered(cardA);
        Card second = cardNumbered(cardB);
        if (cardA == cardB) {
            throw new IllegalArgumentException("one card is not two");
        }
        Door at = doorNumbered(door);
        Room into = roomOfDoor(at, room);
        checkMinuteFromNow(minute);
        checkSpaceForRows(at, 2);
        latest = minute;
        int why = refusalByItself(first, at, into, minute);
        if (why == LET_IN) {
            why = refusalByItself(second, at, into, minute);
        }
        if (why == LET_IN && first.owner == second.owner) {
            why = ONE_PERSON;
        }
        if (why == LET_IN) {
            letIn(first, at, into, minute);
            letIn(second, at, into, minute);
        }
        return why;
    }

    // ---- what is told

    /** In which room a person is, as far as is known. */
    public int where(int person) throws IllegalArgumentException {
        return personNumbered(person).in.number;
    }

    /** How many persons are in a zone's rooms. */
    public int inside(int zone) throws IllegalArgumentException {
        checkZone(zone);
        int count = 0;
        for (int i = 0; i < persons.size(); i++) {
            if (persons.get(i).in.zone == zone) {
                count++;
            }
        }
        return count;
    }

    /** The person in a zone's rooms that has so many such ones before it, or NONE. */
    public int muster(int zone, int place) throws IllegalArgumentException {
        checkZone(zone);
        if (place < 0) {
            throw new IllegalArgumentException("a place is not below 0");
        }
        int before = 0;
        for (int i = 0; i < persons.size(); i++) {
            if (persons.get(i).in.zone == zone) {
                if (before == place) {
                    return i;
                }
                before++;
            }
        }
        return NONE;
    }

    /** How many rows of joined doors were against, in all. */
    public int against() {
        return findings.count;
    }

    /** Of the k-th row that was against: 0 its door, 1 its card, 2 its minute, 3 why it would be refused. */
    public int found(int k, int what) throws IllegalArgumentException {
        if (k < 0 || k >= findings.kept) {
            throw new IllegalArgumentException("no such row is kept");
        }
        if (what < 0 || what >= Findings.PARTS) {
            throw new IllegalArgumentException("a row has no such part");
        }
        return findings.parts[k * Findings.PARTS + what];
    }

    /** How many uses there are, alike ones counted once. */
    public int uses() {
        return used.count;
    }

    /** The fewest rights that have all uses that some right has, as a sum of powers of 2. */
    public int fewest() {
        needs.clear();
        for (int word = 0; word < used.words.length; word++) {
            long marks = used.words[word];
            for (int bit = 0; bit < Uses.WORD && marks != 0; bit++) {
                if ((marks & 1) != 0) {
                    needs.add(rightsThatHave(word * Uses.WORD + bit));
                }
                marks >>>= 1;
            }
        }
        return needs.leastOfTheFewest();
    }

    /** The greatest minute that was told. */
    public int now() {
        return latest;
    }

    // ---- what calls may be given

    private static void checkZone(int zone) {
        if (zone < 0 || zone >= ZONES) {
            throw new IllegalArgumentException("there is no such zone");
        }
    }

    private static void checkGroup(int group) {
        if (group < 0 || group >= GROUPS) {
            throw new IllegalArgumentException("there is no such group");
        }
    }

    private static void checkTimeOfDay(int time) {
        if (time < 0 || time >= DAY) {
            throw new IllegalArgumentException("a day has no such minute");
        }
    }

    private static void checkMinute(int minute) {
        if (minute < 0 || minute > LAST_MINUTE) {
            throw new IllegalArgumentException("there is no such minute");
        }
    }

    private void checkMinuteFromNow(int minute) {
        checkMinute(minute);
        if (minute < latest) {
            throw new IllegalArgumentException("the minute is over");
        }
    }

    private static void checkSpaceForRows(Door door, int wanted) {
        if (door.isOff && door.rows.size() + wanted > ROWS) {
            throw new IllegalStateException("the door can keep no more rows");
        }
    }

    private Room roomNumbered(int number) {
        if (number < 0 || number >= rooms.size()) {
            throw new IllegalArgumentException("there is no such room");
        }
        return rooms.get(number);
    }

    private static Room roomOfDoor(Door door, int number) {
        if (number == door.roomA.number) {
            return door.roomA;
        }
        if (number == door.roomB.number) {
            return door.roomB;
        }
        throw new IllegalArgumentException("the room is none of the door's");
    }

    private Door doorNumbered(int number) {
        if (number < 0 || number >= doors.size()) {
            throw new IllegalArgumentException("there is no such door");
        }
        return doors.get(number);
    }

    private Person personNumbered(int number) {
        if (number < 0 || number >= persons.size()) {
            throw new IllegalArgumentException("there is no such person");
        }
        return persons.get(number);
    }

    private Card cardNumbered(int number) {
        if (number < 0 || number >= cards.size()) {
            throw new IllegalArgumentException("there is no such card");
        }
        return cards.get(number);
    }

    // ---- why a card is refused

    /** The first reason of 1 to 6: reason 7 is of single cards alone, so it is left to the caller. */
    private int refusalByItself(Card card, Door door, Room room, int minute) {
        Knowledge known = door.isOff ? door.knewWhenCutOff : toldSoFar;
        int why = refusalOfCard(known, card, minute);
        if (why != LET_IN) {
            return why;
        }
        if (!door.isOff && card.owner.in != door.otherRoom(room)) {
            return PERSON_ELSEWHERE;
        }
        if (!hasRight(known, card.owner.group, room.zone, minute)) {
            return NO_RIGHT;
        }
        return isAirlockOpen(door) ? AIRLOCK_OPEN : LET_IN;
    }

    private static int refusalOfCard(Knowledge known, Card card, int minute) {
        if (!known.knowsCard(card.number)) {
            return CARD_UNKNOWN;
        }
        if (card.until < minute) {
            return CARD_OVER;
        }
        return known.isLost(card.number, minute) ? CARD_LOST : LET_IN;
    }

    private boolean hasRight(Knowledge known, int group, int zone, int minute) {
        for (int i = 0; i < rights.size() && i < known.rightCount; i++) {
            Right right = rights.get(i);
            if (right.isFor(group, zone, minute % DAY) && right.since <= minute && !known.isEnded(i, minute)) {
                return true;
            }
        }
        return false;
    }

    private boolean isAirlockOpen(Door door) {
        for (int i = 0; i < doors.size(); i++) {
            Door other = doors.get(i);
            if (other.open && door.isAirlockWith(other)) {
                return true;
            }
        }
        return false;
    }

    // ---- what follows from letting in

    private void letIn(Card card, Door door, Room room, int minute) {
        used.mark(card.owner.group, room.zone, minute % DAY);
        if (door.isOff) {
            door.rows.add(new Row(card, room, minute));
        } else {
            card.owner.in = room;
        }
    }

    private int goThroughRows(Door door) {
        int count = door.rows.size();
        for (int i = 0; i < count; i++) {
            Row row = door.rows.get(i);
            row.card.owner.in = row.room;
            int why = refusalLookingBack(row);
            if (why != LET_IN) {
                findings.add(door.number, row.card.number, row.minute, why);
            }
        }
        door.rows.clear();
        return count;
    }

    /** Reasons 4, 6 and 7 are of the moment itself, so a row is against by the others alone. */
    private int refusalLookingBack(Row row) {
        int why = refusalOfCard(toldSoFar, row.card, row.minute);
        if (why != LET_IN) {
            return why;
        }
        return hasRight(toldSoFar, row.card.owner.group, row.room.zone, row.minute) ? LET_IN : NO_RIGHT;
    }

    /** The rights that have a use, a bit for each. */
    private int rightsThatHave(int use) {
        int group = Uses.groupOf(use);
        int zone = Uses.zoneOf(use);
        int time = Uses.timeOf(use);
        int set = 0;
        for (int i = 0; i < rights.size(); i++) {
            if (rights.get(i).isFor(group, zone, time)) {
                set |= 1 << i;
            }
        }
        return set;
    }

    private static final class Room {
        private final int number;
        private final int zone;

        private Room(int number, int zone) {
            this.number = number;
            this.zone = zone;
        }
    }

    private static final class Person {
        private final int group;
        private Room in;

        private Person(int group, Room in) {
            this.group = group;
            this.in = in;
        }
    }

    private static final class Card {
        private final int number;
        private final Person owner;
        private final int until;

        private Card(int number, Person owner, int until) {
            this.number = number;
            this.owner = owner;
            this.until = until;
        }
    }

    private static final class Right {
        private final int group;
        private final int zone;
        private final int from;
        private final int to;
        private final int since;

        private Right(int group, int zone, int from, int to, int since) {
            this.group = group;
            this.zone = zone;
            this.from = from;
            this.to = to;
            this.since = since;
        }

        private boolean isFor(int someGroup, int someZone, int time) {
            return group == someGroup && zone == someZone && spans(time);
        }

        private boolean spans(int time) {
            if (from <= to) {
                return from <= time && time < to;
            }
            return from <= time || time < to;
        }
    }

    private static final class Door {
        private final int number;
        private final Room roomA;
        private final Room roomB;
        private boolean wantsTwo = false;
        private boolean open = false;
        private int asItIsSince = 0;
        /** A bit for each door that is an airlock with this one. */
        private int airlocks = 0;
        private boolean isOff = false;
        private final Knowledge knewWhenCutOff = new Knowledge();
        private final List<Row> rows = new ArrayList<>();

        private Door(int number, Room roomA, Room roomB) {
            this.number = number;
            this.roomA = roomA;
            this.roomB = roomB;
        }

        private Room otherRoom(Room room) {
            return room == roomA ? roomB : roomA;
        }

        private boolean isAirlockWith(Door other) {
            return (airlocks & 1 << other.number) != 0;
        }

        private void setAirlockWith(Door other, boolean on) {
            if (on) {
                airlocks |= 1 << other.number;
            } else {
                airlocks &= ~(1 << other.number);
            }
        }
    }

    /** One that was let in at a door that was off. */
    private static final class Row {
        private final Card card;
        private final Room room;
        private final int minute;

        private Row(Card card, Room room, int minute) {
            this.card = card;
            this.room = room;
            this.minute = minute;
        }
    }

    /**
     * What the tellings up to some moment come to. A later end or loss takes the place of an earlier
     * one, so a door that goes off needs a copy of this, and not the tellings themselves.
     */
    private static final class Knowledge {
        private int cardCount = 0;
        private int rightCount = 0;
        private final int[] lostFrom = new int[CARDS];
        private final int[] endedFrom = new int[RIGHTS];

        private Knowledge() {
            Arrays.fill(lostFrom, NONE);
            Arrays.fill(endedFrom, NONE);
        }

        private void copyFrom(Knowledge other) {
            cardCount = other.cardCount;
            rightCount = other.rightCount;
            System.arraycopy(other.lostFrom, 0, lostFrom, 0, CARDS);
            System.arraycopy(other.endedFrom, 0, endedFrom, 0, RIGHTS);
        }

        private boolean knowsCard(int number) {
            return number < cardCount;
        }

        private boolean isLost(int number, int minute) {
            return isFrom(lostFrom[number], minute);
        }

        private boolean isEnded(int number, int minute) {
            return isFrom(endedFrom[number], minute);
        }

        private static boolean isFrom(int start, int minute) {
            return start != NONE && start <= minute;
        }
    }

    /** The rows that were against: all are counted, the first ones kept. */
    private static final class Findings {
        private static final int PARTS = 4;

        private final int[] parts = new int[KEPT * PARTS];
        private int count = 0;
        /** Counted by itself, so that the places in 'parts' do not hang on a count that has no bound. */
        private int kept = 0;

        private void add(int door, int card, int minute, int why) {
            count++;
            if (kept >= KEPT) {
                return;
            }
            int at = kept * PARTS;
            parts[at] = door;
            parts[at + 1] = card;
            parts[at + 2] = minute;
            parts[at + 3] = why;
            kept++;
        }
    }

    /** A mark for each use that can be, so that alike ones are one and no number of calls is too great. */
    private static final class Uses {
        private static final int WORD = 64;

        private final long[] words = new long[GROUPS * ZONES * DAY / WORD];
        private int count = 0;

        private void mark(int group, int zone, int time) {
            int use = (group * ZONES + zone) * DAY + time;
            long bit = 1L << use % WORD;
            if ((words[use / WORD] & bit) == 0) {
                words[use / WORD] |= bit;
                count++;
            }
        }

        private static int groupOf(int use) {
            return use / DAY / ZONES;
        }

        private static int zoneOf(int use) {
            return use / DAY % ZONES;
        }

        private static int timeOf(int use) {
            return use % DAY;
        }
    }

    /** Sets of rights, a bit for each right: of every set one right at least must be taken. */
    private static final class Needs {
        /** The ends of n spans cut the day into 2 n pieces at most, and a piece's uses need the same set. */
        private final int[] sets = new int[2 * RIGHTS];
        private int count = 0;

        private void clear() {
            count = 0;
        }

        /** An empty set is of a use that no right has: it asks for nothing. */
        private void add(int set) {
            if (set == 0 || count >= sets.length) {
                return;
            }
            for (int i = 0; i < count; i++) {
                if (sets[i] == set) {
                    return;
                }
            }
            sets[count] = set;
            count++;
        }

        private int leastOfTheFewest() {
            int least = NONE;
            for (int size = 0; size <= RIGHTS && least == NONE; size++) {
                least = leastWith(0, RIGHTS, size);
            }
            return least;
        }

        /**
         * The least set that has the taken rights, and of those below 'undecided' as many more as may be
         * taken; NONE if none meets all needs. Leaving the highest out is tried first, as that makes the
         * lesser number.
         */
        private int leastWith(int taken, int undecided, int mayTake) {
            if (!canBeMet(taken, (1 << undecided) - 1, mayTake)) {
                return NONE;
            }
            if (undecided <= 0 || mayTake <= 0) {
                return taken;
            }
            int highest = undecided - 1;
            int without = leastWith(taken, highest, mayTake);
            return without != NONE ? without : leastWith(taken | 1 << highest, highest, mayTake - 1);
        }

        /**
         * False only if it is sure that the needs cannot be met: unmet ones that have no right in common
         * want a right each. If none may be taken any more, true is sure as well.
         */
        private boolean canBeMet(int taken, int free, int mayTake) {
            int spoken = 0;
            int wanted = 0;
            for (int i = 0; i < count && wanted <= mayTake; i++) {
                if ((sets[i] & taken) == 0) {
                    int choice = sets[i] & free;
                    if (choice == 0) {
                        return false;
                    }
                    if ((choice & spoken) == 0) {
                        spoken |= choice;
                        wanted++;
                    }
                }
            }
            return wanted <= mayTake;
        }
    }
}
