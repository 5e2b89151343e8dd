import java.util.function.IntConsumer;

/** Each promise of the document by itself: ordinary calls, edges, and calls that must throw. */
public final class PromisesTest {
    private static final Check CHECK = new Check("PromisesTest");
    private static final int LAST = 1000000;
    private static final int[] NO_SUCH = {-1, Integer.MIN_VALUE, Integer.MAX_VALUE};

    private PromisesTest() {
    }

    public static void main(String[] args) {
        aNewObject();
        room();
        door();
        person();
        card();
        cardIsGoodUpToItsMinute();
        right();
        rightSpans();
        rightsOfOthersDoNotHelp();
        end();
        lost();
        two();
        airlock();
        state();
        off();
        offKnowsWhatItKnew();
        joiningGoesThroughRows();
        asks();
        asksTellsTheFirstReason();
        asksAtFullDoor();
        both();
        bothTellsTheFirstReason();
        bothAtFullDoor();
        where();
        insideAndMuster();
        againstAndFound();
        foundKeepsTheFirstHundred();
        uses();
        fewest();
        fewestTakesTheLeastNumber();
        now();
        CHECK.finish();
    }

    /** Rooms 0, 1, 2 in zones 0, 1, 2; doors 0: 0-1, 1: 1-2, 2: 0-2; persons 0, 1 of group 0, 2 of group 1; a card each. */
    private static CardRights house() {
        CardRights x = new CardRights();
        x.room(0);
        x.room(1);
        x.room(2);
        x.door(0, 1);
        x.door(1, 2);
        x.door(0, 2);
        x.person(0);
        x.person(0);
        x.person(1);
        x.card(0, LAST);
        x.card(1, LAST);
        x.card(2, LAST);
        return x;
    }

    /** A house in which group 0 may go to every zone at every minute but the last of a day. */
    private static CardRights openHouse() {
        CardRights x = house();
        x.right(0, 0, 0, 1439, 0);
        x.right(0, 1, 0, 1439, 0);
        x.right(0, 2, 0, 1439, 0);
        return x;
    }

    private static void badNumbers(String what, CardRights x, IntConsumer call, int... more) {
        for (int number : NO_SUCH) {
            CHECK.argument(what + " with " + number, x, () -> call.accept(number));
        }
        for (int number : more) {
            CHECK.argument(what + " with " + number, x, () -> call.accept(number));
        }
    }

    private static void aNewObject() {
        CardRights x = new CardRights();
        CHECK.is("NONE", CardRights.NONE, -1);
        CHECK.is("1: now", x.now(), 0);
        CHECK.is("1: uses", x.uses(), 0);
        CHECK.is("1: fewest", x.fewest(), 0);
        CHECK.is("1: against", x.against(), 0);
        for (int zone = 0; zone < 10; zone++) {
            CHECK.is("1: inside", x.inside(zone), 0);
            CHECK.is("1: muster", x.muster(zone, 0), CardRights.NONE);
        }
        CHECK.argument("1: where", x, () -> x.where(0));
        CHECK.argument("1: found", x, () -> x.found(0, 0));
        CHECK.argument("1: door", x, () -> x.door(0, 1));
        CHECK.argument("1: card", x, () -> x.card(0, 0));
        CHECK.argument("1: end", x, () -> x.end(0, 0));
        CHECK.argument("1: lost", x, () -> x.lost(0, 0));
        CHECK.argument("1: two", x, () -> x.two(0, true));
        CHECK.argument("1: state", x, () -> x.state(0, true, 0));
        CHECK.argument("1: off", x, () -> x.off(0, true));
        CHECK.argument("1: asks", x, () -> x.asks(0, 0, 0, 0));
        CardRights y = new CardRights();
        x.room(3);
        CHECK.state("1: objects share nothing", y, () -> y.person(0));
    }

    private static void room() {
        CardRights x = new CardRights();
        badNumbers("2: room", x, x::room, 10);
        for (int i = 0; i < 20; i++) {
            CHECK.is("2: room", x.room(i % 10), i);
        }
        CHECK.state("2: the 21st room", x, () -> x.room(0));
        badNumbers("2: the 21st room in no zone", x, x::room, 10);
        CHECK.is("2: the last room is one", x.door(19, 0), 0);
    }

    private static void door() {
        CardRights x = new CardRights();
        x.room(0);
        CHECK.argument("3: door in one room", x, () -> x.door(0, 0));
        CHECK.argument("3: door to no room", x, () -> x.door(0, 1));
        x.room(0);
        badNumbers("3: door from no room", x, room -> x.door(room, 1), 2);
        badNumbers("3: door to no room", x, room -> x.door(0, room), 2);
        for (int i = 0; i < 30; i++) {
            CHECK.is("3: door", x.door(i % 2, 1 - i % 2), i);
        }
        CHECK.state("3: the 31st door", x, () -> x.door(0, 1));
        CHECK.argument("3: the 31st door in one room", x, () -> x.door(1, 1));
        CHECK.argument("3: the 31st door to no room", x, () -> x.door(0, 2));
        CHECK.is("3: the last door is one", x.off(29, true), 0);
    }

    private static void person() {
        CardRights x = new CardRights();
        CHECK.state("4: person without a room", x, () -> x.person(9));
        badNumbers("4: person of no group, without a room", x, x::person, 10);
        x.room(4);
        x.room(5);
        badNumbers("4: person of no group", x, x::person, 10);
        for (int i = 0; i < 40; i++) {
            CHECK.is("4: person", x.person(i % 10), i);
            CHECK.is("4: its room", x.where(i), 0);
        }
        CHECK.state("4: the 41st person", x, () -> x.person(0));
        badNumbers("4: the 41st person of no group", x, x::person, 10);
        CHECK.is("4: all are in the first room", x.inside(4), 40);
    }

    private static void card() {
        CardRights x = new CardRights();
        x.room(0);
        x.person(0);
        badNumbers("5: card of no person", x, person -> x.card(person, 0), 1);
        badNumbers("5: card up to no minute", x, minute -> x.card(0, minute), LAST + 1);
        for (int i = 0; i < 60; i++) {
            CHECK.is("5: card", x.card(0, i % 2 == 0 ? 0 : LAST), i);
        }
        CHECK.state("5: the 61st card", x, () -> x.card(0, 0));
        CHECK.argument("5: the 61st card of no person", x, () -> x.card(1, 0));
        CHECK.argument("5: the 61st card up to no minute", x, () -> x.card(0, LAST + 1));
        CHECK.is("5: now stays", x.now(), 0);
        CHECK.is("5: the last card is one", x.lost(59, 0), CardRights.NONE);
    }

    private static void cardIsGoodUpToItsMinute() {
        CardRights x = openHouse();
        x.card(0, 50);
        CHECK.is("5: at its last minute", x.asks(3, 0, 1, 50), 0);
        CHECK.is("5: behind it", x.asks(3, 0, 0, 51), 2);
        CHECK.is("5: one that is over", x.card(0, 7), 4);
        CHECK.is("5: one that is over asks", x.asks(4, 0, 0, 51), 2);
        CHECK.is("5: the other one is good", x.asks(0, 0, 0, 51), 0);
    }

    private static void right() {
        CardRights x = new CardRights();
        badNumbers("6: right of no group", x, group -> x.right(group, 0, 0, 1, 0), 10);
        badNumbers("6: right for no zone", x, zone -> x.right(0, zone, 0, 1, 0), 10);
        badNumbers("6: right from no time", x, from -> x.right(0, 0, from, 1, 0), 1440);
        badNumbers("6: right to no time", x, to -> x.right(0, 0, 0, to, 0), 1440);
        badNumbers("6: right since no minute", x, since -> x.right(0, 0, 0, 1, since), LAST + 1);
        for (int i = 0; i < 16; i++) {
            CHECK.is("6: right", x.right(i % 10, 9 - i % 10, 1439, i % 2 == 0 ? 0 : 1439, i % 2 == 0 ? 0 : LAST), i);
        }
        CHECK.state("6: the 17th right", x, () -> x.right(0, 0, 0, 1, 0));
        CHECK.argument("6: the 17th right to no time", x, () -> x.right(0, 0, 0, 1440, 0));
        CHECK.argument("6: the 17th right of no group", x, () -> x.right(10, 0, 0, 1, 0));
        CHECK.is("6: now stays", x.now(), 0);

        CardRights y = house();
        y.right(0, 1, 0, 1439, 100);
        CHECK.is("6: before its minute", y.asks(0, 0, 1, 99), 5);
        CHECK.is("6: at its minute", y.asks(0, 0, 1, 100), 0);
        CHECK.is("6: since a minute that is over", y.right(0, 0, 0, 1439, 3), 1);
        CHECK.is("6: it holds", y.asks(0, 0, 0, 100), 0);
    }

    private static void rightSpans() {
        spanIs(60, 200, 59, false);
        spanIs(60, 200, 60, true);
        spanIs(60, 200, 199, true);
        spanIs(60, 200, 200, false);
        spanIs(60, 200, 1440 + 60, true);
        spanIs(60, 200, 1440 + 200, false);
        spanIs(1400, 60, 1399, false);
        spanIs(1400, 60, 1400, true);
        spanIs(1400, 60, 1439, true);
        spanIs(1400, 60, 1440, true);
        spanIs(1400, 60, 59, true);
        spanIs(1400, 60, 60, false);
        spanIs(100, 100, 100, false);
        spanIs(100, 100, 99, false);
        spanIs(0, 0, 0, false);
        spanIs(0, 1439, 1439, false);
        spanIs(1439, 0, 1439, true);
        spanIs(1439, 0, 0, false);
        spanIs(0, 1, LAST - LAST % 1440, true);
    }

    private static void spanIs(int from, int to, int minute, boolean due) {
        CardRights x = house();
        x.right(0, 1, from, to, 0);
        CHECK.is("6: span " + from + " to " + to + " at " + minute, x.asks(0, 0, 1, minute), due ? 0 : 5);
    }

    private static void rightsOfOthersDoNotHelp() {
        CardRights x = house();
        x.right(1, 1, 0, 1439, 0);
        x.right(0, 2, 0, 1439, 0);
        CHECK.is("6: right of another group, and for another zone", x.asks(0, 0, 1, 5), 5);
        CHECK.is("6: the zone is that of the room asked for", x.asks(0, 2, 2, 5), 0);
        CHECK.is("6: and not that of the other", x.asks(0, 2, 0, 5), 5);
    }

    private static void end() {
        CardRights x = openHouse();
        badNumbers("7: end of no right", x, right -> x.end(right, 0), 3);
        badNumbers("7: end at no minute", x, minute -> x.end(1, minute), LAST + 1);
        x.asks(0, 0, 1, 50);
        CHECK.is("7: end", x.end(0, 60), CardRights.NONE);
        CHECK.is("7: before it", x.asks(0, 0, 0, 59), 0);
        x.asks(0, 0, 1, 59);
        CHECK.is("7: at it", x.asks(0, 0, 0, 60), 5);
        CHECK.is("7: a later end instead", x.end(0, 70), 60);
        CHECK.is("7: it is a right again", x.asks(0, 0, 0, 69), 0);
        CHECK.is("7: an end at a minute that is over", x.end(1, 0), CardRights.NONE);
        CHECK.is("7: that holds too", x.asks(0, 0, 1, 69), 5);
        CHECK.is("7: which end was that", x.end(1, LAST), 0);
        CHECK.is("7: and the last minute", x.end(1, 3), LAST);
        CHECK.is("7: now stays", x.now(), 69);
        CHECK.is("7: another right is as it was", x.end(2, 1), CardRights.NONE);
        x.right(0, 1, 0, 1439, 0);
        CHECK.is("7: a new right in place of an ended one", x.asks(0, 0, 1, 69), 0);
    }

    private static void lost() {
        CardRights x = openHouse();
        x.card(0, LAST);
        badNumbers("8: no card is lost", x, card -> x.lost(card, 0), 4);
        badNumbers("8: lost at no minute", x, minute -> x.lost(0, minute), LAST + 1);
        CHECK.is("8: lost", x.lost(0, 60), CardRights.NONE);
        CHECK.is("8: before it", x.asks(0, 0, 1, 59), 0);
        CHECK.is("8: at it", x.asks(0, 0, 0, 60), 3);
        CHECK.is("8: the person's other card", x.asks(3, 0, 0, 60), 0);
        CHECK.is("8: later instead", x.lost(0, 80), 60);
        CHECK.is("8: it is found", x.asks(0, 0, 1, 79), 0);
        CHECK.is("8: sooner instead", x.lost(0, 0), 80);
        CHECK.is("8: it is lost again", x.asks(0, 0, 0, 79), 3);
        CHECK.is("8: which was that", x.lost(0, LAST), 0);
        CHECK.is("8: and the last minute", x.lost(0, 1), LAST);
        CHECK.is("8: now stays", x.now(), 79);
        CHECK.is("8: another card is as it was", x.lost(1, 1), CardRights.NONE);
    }

    private static void two() {
        CardRights x = openHouse();
        badNumbers("9: two at no door", x, door -> x.two(door, true), 3);
        CHECK.is("9: at first not", x.two(0, false), false);
        CHECK.is("9: still not", x.two(0, true), false);
        CHECK.is("9: now it does", x.two(0, true), true);
        CHECK.is("9: a single card", x.asks(0, 0, 1, 5), 7);
        CHECK.is("9: it is where it was", x.where(0), 0);
        CHECK.is("9: another door does not", x.asks(0, 2, 2, 5), 0);
        x.asks(0, 2, 0, 5);
        CHECK.is("9: two cards", x.both(0, 1, 0, 1, 5), 0);
        CHECK.is("9: no more", x.two(0, false), true);
        CHECK.is("9: a single card again", x.asks(0, 0, 0, 5), 0);
        CHECK.is("9: it did not", x.two(0, false), false);
    }

    private static void airlock() {
        CardRights x = openHouse();
        badNumbers("10: airlock from no door", x, door -> x.airlock(door, 0, true), 3);
        badNumbers("10: airlock to no door", x, door -> x.airlock(0, door, true), 3);
        CHECK.argument("10: airlock of one door", x, () -> x.airlock(1, 1, true));
        CHECK.argument("10: no airlock of one door", x, () -> x.airlock(1, 1, false));
        CHECK.is("10: at first not", x.airlock(0, 1, false), false);
        CHECK.is("10: still not", x.airlock(0, 1, true), false);
        CHECK.is("10: both ways", x.airlock(1, 0, true), true);
        x.state(0, true, 1);
        CHECK.is("10: its own being open is nothing", x.asks(0, 0, 1, 1), 0);
        CHECK.is("10: the other one's is", x.asks(0, 1, 2, 1), 6);
        CHECK.is("10: it is where it was", x.where(0), 1);
        x.state(2, true, 1);
        x.state(0, false, 2);
        CHECK.is("10: a third door's is nothing", x.asks(0, 1, 2, 2), 0);
        CHECK.is("10: a door may have several", x.airlock(2, 1, true), false);
        CHECK.is("10: by the third", x.asks(0, 1, 1, 2), 6);
        CHECK.is("10: the first two are as before", x.airlock(0, 1, false), true);
        CHECK.is("10: not any more, the other way", x.airlock(1, 0, false), false);
        CHECK.is("10: the third still is", x.asks(0, 1, 1, 2), 6);
        CHECK.is("10: the first is in none with the third", x.airlock(0, 2, false), false);
        CHECK.is("10: taken back the other way round", x.airlock(1, 2, false), true);
        CHECK.is("10: nothing hinders", x.asks(0, 1, 1, 2), 0);
    }

    private static void state() {
        CardRights x = openHouse();
        badNumbers("11: no door is open", x, door -> x.state(door, true, 0), 3);
        badNumbers("11: open at no minute", x, minute -> x.state(0, true, minute), LAST + 1);
        CHECK.is("11: closed since 0", x.state(0, false, 10), 10);
        CHECK.is("11: now", x.now(), 10);
        CHECK.is("11: still since 0", x.state(0, true, 15), 15);
        CHECK.is("11: in the same minute", x.state(0, true, 15), 0);
        CHECK.is("11: open since 15", x.state(0, true, 20), 5);
        CHECK.argument("11: a minute that is over", x, () -> x.state(0, false, 19));
        CHECK.is("11: told again, but since 15", x.state(0, false, 30), 15);
        CHECK.is("11: closed since 30", x.state(0, true, 31), 1);
        CHECK.is("11: each door by itself", x.state(1, true, 31), 31);
        x.door(0, 1);
        CHECK.is("11: a new door is closed since 0", x.state(3, true, 40), 40);
        CHECK.is("11: the last minute", x.state(3, false, LAST), LAST - 40);
        CHECK.is("11: now is the last minute", x.now(), LAST);
        CHECK.argument("11: all minutes but the last are over", x, () -> x.state(0, false, LAST - 1));
    }

    private static void off() {
        CardRights x = openHouse();
        badNumbers("12: no door is off", x, door -> x.off(door, true), 3);
        badNumbers("12: no door joins", x, door -> x.off(door, false), 3);
        CHECK.is("12: it was not off", x.off(0, false), 0);
        CHECK.is("12: off", x.off(0, true), 0);
        x.asks(0, 0, 1, 5);
        CHECK.is("12: off as it was, rows and all", x.off(0, true), 0);
        x.asks(0, 0, 1, 6);
        CHECK.is("12: joins", x.off(0, false), 2);
        CHECK.is("12: joined as it was", x.off(0, false), 0);
        CHECK.is("12: off again", x.off(0, true), 0);
        CHECK.is("12: its rows are gone", x.off(0, false), 0);
        CHECK.is("12: now stays", x.now(), 6);
    }

    private static void offKnowsWhatItKnew() {
        CardRights x = openHouse();
        x.lost(1, 10);
        x.end(2, 10);
        x.off(0, true);
        x.off(1, true);
        x.card(0, LAST);
        x.right(1, 1, 0, 1439, 0);
        x.lost(0, 0);
        x.lost(1, 500);
        x.end(1, 0);
        x.end(2, 500);
        CHECK.is("12: a card that came later", x.asks(3, 0, 1, 20), 1);
        CHECK.is("12: a right that came later", x.asks(2, 0, 1, 20), 5);
        CHECK.is("12: a loss and an end that came later", x.asks(0, 0, 1, 20), 0);
        CHECK.is("12: a loss that was told anew later", x.asks(1, 0, 1, 20), 3);
        CHECK.is("12: an end that was told anew later", x.asks(0, 1, 2, 20), 5);
        CHECK.is("12: others know all", x.asks(0, 2, 2, 20), 3);
        CHECK.is("12: others know all", x.asks(1, 2, 2, 20), 0);
        x.off(0, true);
        CHECK.is("12: off told again teaches nothing", x.asks(3, 0, 1, 20), 1);
        x.off(0, false);
        CHECK.is("12: joined it knows the card", x.asks(3, 0, 0, 21), 0);
        CHECK.is("12: and the right", x.asks(2, 0, 1, 21), 0);
        CHECK.is("12: the second is off still", x.asks(3, 1, 1, 21), 1);
        x.off(0, true);
        CHECK.is("12: off again it knows more", x.asks(3, 0, 0, 21), 0);
        CHECK.is("12: and the loss", x.asks(0, 0, 0, 21), 3);
    }

    private static void joiningGoesThroughRows() {
        CardRights x = openHouse();
        x.off(0, true);
        x.off(2, true);
        x.asks(0, 0, 1, 5);
        x.both(1, 0, 0, 1, 6);
        x.asks(0, 2, 2, 7);
        x.asks(0, 0, 0, 8);
        x.asks(0, 0, 1, 9);
        CHECK.is("12: rooms stay", x.where(0), 0);
        CHECK.is("12: rooms stay", x.where(1), 0);
        CHECK.is("12: the second door's rows", x.off(2, false), 1);
        CHECK.is("12: by the row", x.where(0), 2);
        CHECK.is("12: the first door's rows", x.off(0, false), 5);
        CHECK.is("12: by the last row", x.where(0), 1);
        CHECK.is("12: by the only row", x.where(1), 1);
        CHECK.is("12: none was against", x.against(), 0);
    }

    private static void asks() {
        CardRights x = openHouse();
        badNumbers("13: no card", x, card -> x.asks(card, 0, 1, 0), 3);
        badNumbers("13: no door", x, door -> x.asks(0, door, 1, 0), 3);
        badNumbers("13: no room", x, room -> x.asks(0, 0, room, 0), 3);
        badNumbers("13: no minute", x, minute -> x.asks(0, 0, 1, minute), LAST + 1);
        CHECK.argument("13: none of its rooms", x, () -> x.asks(0, 0, 2, 0));
        CHECK.is("13: let in", x.asks(0, 0, 1, 10), 0);
        CHECK.is("13: it is there", x.where(0), 1);
        CHECK.is("13: nobody twice", x.asks(0, 0, 1, 10), 4);
        CHECK.is("13: not from afar", x.asks(0, 2, 2, 11), 4);
        CHECK.argument("13: a minute that is over", x, () -> x.asks(0, 0, 0, 10));
        CHECK.is("13: out again", x.asks(0, 0, 0, 11), 0);
        CHECK.is("13: no right", x.asks(2, 0, 1, 11), 5);
        CHECK.is("13: it stays", x.where(2), 0);
        CHECK.is("13: at the last minute", x.asks(0, 0, 1, LAST), 0);
        CHECK.argument("13: all others are over", x, () -> x.asks(0, 0, 0, LAST - 1));
    }

    private static void asksTellsTheFirstReason() {
        CardRights x = house();
        x.airlock(0, 1, true);
        x.state(1, true, 0);
        x.two(0, true);
        x.card(0, 4);
        x.off(0, true);
        x.card(0, 4);
        x.lost(3, 0);
        x.lost(4, 0);
        CHECK.is("13: 1 before 2, 3, 5, 6, 7", x.asks(4, 0, 1, 5), 1);
        x.off(0, false);
        CHECK.is("13: 2 before 3, 4, 5, 6, 7", x.asks(4, 0, 0, 5), 2);
        x.lost(0, 5);
        CHECK.is("13: 3 before 4, 5, 6, 7", x.asks(0, 0, 0, 5), 3);
        CHECK.is("13: 4 before 5, 6, 7", x.asks(1, 0, 0, 5), 4);
        CHECK.is("13: 5 before 6, 7", x.asks(1, 0, 1, 5), 5);
        x.right(0, 1, 0, 10, 0);
        CHECK.is("13: 6 before 7", x.asks(1, 0, 1, 5), 6);
        x.off(0, true);
        CHECK.is("13: 5 at a door that is off, and not 4", x.asks(1, 0, 0, 5), 5);
        CHECK.is("13: 6 at a door that is off", x.asks(1, 0, 1, 5), 6);
        x.state(1, false, 5);
        CHECK.is("13: 7 at a door that is off", x.asks(1, 0, 1, 5), 7);
        x.two(0, false);
        CHECK.is("13: 0 at a door that is off", x.asks(1, 0, 1, 5), 0);
        CHECK.is("13: once more, as 4 is not asked there", x.asks(1, 0, 1, 5), 0);
        CHECK.is("13: only those let in are rows", x.off(0, false), 2);
    }

    private static void asksAtFullDoor() {
        CardRights x = openHouse();
        x.off(0, true);
        x.off(1, true);
        for (int i = 0; i < 50; i++) {
            CHECK.is("13: row " + i, x.asks(i % 2, 0, 1, i), 0);
        }
        CHECK.state("13: a full door", x, () -> x.asks(0, 0, 1, 100));
        CHECK.state("13: a full door, though refused", x, () -> x.asks(2, 0, 1, 100));
        CHECK.argument("13: a full door, and no card", x, () -> x.asks(3, 0, 1, 100));
        CHECK.argument("13: a full door, and none of its rooms", x, () -> x.asks(0, 0, 2, 100));
        CHECK.argument("13: a full door, and a minute that is over", x, () -> x.asks(0, 0, 1, 48));
        CHECK.is("13: another door is not full", x.asks(0, 1, 2, 49), 0);
        CHECK.is("13: all are gone through", x.off(0, false), 50);
        CHECK.is("13: a joined door is never full", x.asks(0, 0, 0, 49), 0);
    }

    private static void both() {
        CardRights x = openHouse();
        badNumbers("14: no first card", x, card -> x.both(card, 1, 0, 1, 0), 3);
        badNumbers("14: no second card", x, card -> x.both(0, card, 0, 1, 0), 3);
        badNumbers("14: no door", x, door -> x.both(0, 1, door, 1, 0), 3);
        badNumbers("14: no room", x, room -> x.both(0, 1, 0, room, 0), 3);
        badNumbers("14: no minute", x, minute -> x.both(0, 1, 0, 1, minute), LAST + 1);
        CHECK.argument("14: none of its rooms", x, () -> x.both(0, 1, 0, 2, 0));
        CHECK.argument("14: one card", x, () -> x.both(1, 1, 0, 1, 0));
        CHECK.is("14: at a door that does not want two", x.both(0, 1, 0, 1, 10), 0);
        CHECK.is("14: the first is there", x.where(0), 1);
        CHECK.is("14: the second is there", x.where(1), 1);
        CHECK.argument("14: a minute that is over", x, () -> x.both(0, 1, 0, 0, 9));
        CHECK.is("14: now", x.now(), 10);
        CHECK.is("14: refused at a later minute", x.both(0, 1, 0, 1, 12), 4);
        CHECK.is("14: now", x.now(), 12);
        CHECK.is("14: uses, alike ones once", x.uses(), 1);
    }

    private static void bothTellsTheFirstReason() {
        CardRights x = openHouse();
        x.card(0, LAST);
        x.card(0, 4);
        x.two(0, true);
        CHECK.is("14: one person", x.both(0, 3, 0, 1, 5), 8);
        CHECK.is("14: it stays", x.where(0), 0);
        CHECK.is("14: 2 before 8", x.both(0, 4, 0, 1, 5), 2);
        CHECK.is("14: 2 before 8, the other way", x.both(4, 0, 0, 1, 5), 2);
        CHECK.is("14: the second has no right", x.both(0, 2, 0, 1, 5), 5);
        CHECK.is("14: so the first stays", x.where(0), 0);
        CHECK.is("14: the first has no right", x.both(2, 0, 0, 1, 5), 5);
        CHECK.is("14: and the second stays", x.where(0), 0);
        CHECK.is("14: the first one's reason, though greater", x.both(2, 4, 0, 1, 5), 5);
        CHECK.is("14: the first one's reason", x.both(4, 2, 0, 1, 5), 2);
        x.airlock(0, 1, true);
        x.state(1, true, 5);
        CHECK.is("14: 6 counts", x.both(0, 1, 0, 1, 5), 6);
        CHECK.is("14: 6 before 8", x.both(0, 3, 0, 1, 5), 6);
        x.state(1, false, 5);
        CHECK.is("14: nobody was let in yet", x.uses(), 0);
        x.off(0, true);
        CHECK.is("14: one person at a door that is off", x.both(0, 3, 0, 1, 5), 8);
        CHECK.is("14: two at a door that is off", x.both(1, 0, 0, 1, 5), 0);
        x.lost(0, 0);
        x.lost(1, 0);
        CHECK.is("14: two rows", x.off(0, false), 2);
        CHECK.is("14: the first one first", x.found(0, 1), 1);
        CHECK.is("14: the second one second", x.found(1, 1), 0);
    }

    private static void bothAtFullDoor() {
        CardRights x = openHouse();
        x.off(0, true);
        for (int i = 0; i < 24; i++) {
            CHECK.is("14: rows", x.both(0, 1, 0, 1, i), 0);
        }
        CHECK.is("14: with 48 rows it may ask", x.both(0, 2, 0, 1, 50), 5);
        CHECK.is("14: the 49th row", x.asks(0, 0, 1, 50), 0);
        CHECK.state("14: with 49 rows", x, () -> x.both(0, 1, 0, 1, 60));
        CHECK.state("14: with 49 rows, though refused", x, () -> x.both(0, 2, 0, 1, 60));
        CHECK.argument("14: with 49 rows, and one card", x, () -> x.both(0, 0, 0, 1, 60));
        CHECK.argument("14: with 49 rows, and no card", x, () -> x.both(0, 9, 0, 1, 60));
        CHECK.argument("14: with 49 rows, and a minute that is over", x, () -> x.both(0, 1, 0, 1, 49));
        CHECK.is("14: the 50th row", x.asks(0, 0, 1, 50), 0);
        CHECK.state("14: with 50 rows", x, () -> x.both(0, 1, 0, 1, 60));
        CHECK.is("14: all are gone through", x.off(0, false), 50);
        x.off(0, true);
        for (int i = 0; i < 25; i++) {
            CHECK.is("14: rows anew", x.both(0, 1, 0, 1, 50), 0);
        }
        CHECK.is("14: 50 by twos", x.off(0, false), 50);
    }

    private static void where() {
        CardRights x = openHouse();
        badNumbers("15: no person", x, x::where, 3);
        CHECK.is("15: at first", x.where(1), 0);
        x.asks(1, 0, 1, 5);
        CHECK.is("15: it went", x.where(1), 1);
        x.asks(1, 1, 2, 5);
        CHECK.is("15: it went on", x.where(1), 2);
        CHECK.is("15: others did not", x.where(0), 0);
        x.person(5);
        CHECK.is("15: a new one", x.where(3), 0);
    }

    private static void insideAndMuster() {
        CardRights x = openHouse();
        badNumbers("16: inside no zone", x, x::inside, 10);
        badNumbers("17: muster of no zone", x, zone -> x.muster(zone, 0), 10);
        CHECK.argument("17: place below 0", x, () -> x.muster(0, -1));
        CHECK.argument("17: place far below 0", x, () -> x.muster(0, Integer.MIN_VALUE));
        CHECK.is("16: all", x.inside(0), 3);
        x.asks(1, 0, 1, 5);
        CHECK.is("16: but one", x.inside(0), 2);
        CHECK.is("16: that one", x.inside(1), 1);
        CHECK.is("16: nobody", x.inside(9), 0);
        CHECK.is("17: the first", x.muster(0, 0), 0);
        CHECK.is("17: the second", x.muster(0, 1), 2);
        CHECK.is("17: no third", x.muster(0, 2), CardRights.NONE);
        CHECK.is("17: far behind", x.muster(0, Integer.MAX_VALUE), CardRights.NONE);
        CHECK.is("17: that one", x.muster(1, 0), 1);
        CHECK.is("17: nobody", x.muster(9, 0), CardRights.NONE);
        x.room(1);
        x.door(0, 3);
        x.asks(0, 3, 3, 5);
        CHECK.is("16: two rooms of a zone", x.inside(1), 2);
        CHECK.is("17: by numbers, not by rooms", x.muster(1, 0), 0);
        CHECK.is("17: by numbers, not by rooms", x.muster(1, 1), 1);
    }

    private static void againstAndFound() {
        CardRights x = openHouse();
        x.right(1, 1, 0, 1439, 0);
        x.off(2, true);
        x.off(0, true);
        x.asks(1, 2, 2, 4);
        x.asks(0, 0, 1, 5);
        x.asks(0, 0, 0, 6);
        x.asks(2, 0, 1, 7);
        x.asks(0, 0, 1, 8);
        x.lost(0, 6);
        x.end(3, 7);
        x.end(0, 0);
        CHECK.is("18: nothing before it joins", x.against(), 0);
        CHECK.argument("19: nothing before it joins", x, () -> x.found(0, 0));
        CHECK.is("18: rows", x.off(0, false), 4);
        CHECK.is("18: against", x.against(), 3);
        foundIs(x, 0, new int[] {0, 0, 6, 3});
        foundIs(x, 1, new int[] {0, 2, 7, 5});
        foundIs(x, 2, new int[] {0, 0, 8, 3});
        badNumbers("19: no such row", x, k -> x.found(k, 0), 3, 100);
        badNumbers("19: no such part", x, what -> x.found(0, what), 4);
        x.end(2, 4);
        x.off(2, false);
        CHECK.is("18: against in all", x.against(), 4);
        foundIs(x, 3, new int[] {2, 1, 4, 5});
        x.lost(0, LAST);
        CHECK.is("18: what was found stays found", x.against(), 4);

        CardRights y = openHouse();
        y.off(0, true);
        y.asks(0, 0, 1, 5);
        y.asks(0, 0, 1, 6);
        y.airlock(0, 1, true);
        y.state(1, true, 7);
        y.two(0, true);
        y.lost(0, 7);
        y.end(1, 7);
        y.off(0, false);
        CHECK.is("18: not by 4, 6, 7, nor by what is so later", y.against(), 0);

        CardRights z = house();
        z.right(0, 1, 0, 10, 0);
        z.off(0, true);
        z.asks(0, 0, 1, 5);
        z.end(0, 0);
        z.right(0, 1, 0, 10, 0);
        z.off(0, false);
        CHECK.is("18: a right that came later makes it good", z.against(), 0);
    }

    private static void foundIs(CardRights x, int k, int[] due) {
        for (int what = 0; what < due.length; what++) {
            CHECK.is("19: found " + k + ", " + what, x.found(k, what), due[what]);
        }
    }

    private static void foundKeepsTheFirstHundred() {
        CardRights x = openHouse();
        for (int door = 0; door < 3; door++) {
            x.off(door, true);
        }
        for (int i = 0; i < 40; i++) {
            x.asks(0, 0, 1, i);
            x.asks(1, 1, 2, i);
            x.asks(0, 2, 2, i);
        }
        x.lost(0, 0);
        x.lost(1, 0);
        for (int door = 2; door >= 0; door--) {
            CHECK.is("19: rows", x.off(door, false), 40);
        }
        CHECK.is("18: all are counted", x.against(), 120);
        foundIs(x, 0, new int[] {2, 0, 0, 3});
        foundIs(x, 40, new int[] {1, 1, 0, 3});
        foundIs(x, 99, new int[] {0, 0, 19, 3});
        badNumbers("19: the first hundred are kept", x, k -> x.found(k, 0), 100, 119, 120);
    }

    private static void uses() {
        CardRights x = openHouse();
        x.asks(2, 0, 1, 5);
        CHECK.is("20: refused ones are none", x.uses(), 0);
        x.asks(0, 0, 1, 5);
        CHECK.is("20: one", x.uses(), 1);
        x.asks(1, 0, 1, 5);
        CHECK.is("20: an alike one of the group", x.uses(), 1);
        x.asks(0, 0, 0, 5);
        CHECK.is("20: another zone", x.uses(), 2);
        x.asks(0, 0, 1, 6);
        CHECK.is("20: another minute", x.uses(), 3);
        x.right(1, 1, 0, 1439, 0);
        x.asks(2, 0, 1, 6);
        CHECK.is("20: another group", x.uses(), 4);
        x.off(2, true);
        x.asks(0, 2, 2, 1439 - 1);
        CHECK.is("20: at a door that is off", x.uses(), 5);
        x.off(2, false);
        CHECK.is("20: joining is no use", x.uses(), 5);
        x.asks(0, 1, 1, 1440 + 5);
        CHECK.is("20: the same minute of another day", x.uses(), 5);
        x.asks(0, 0, 0, 1440 + 6);
        x.both(2, 1, 0, 0, 1440 + 7);
        CHECK.is("20: both refused", x.uses(), 6);
        x.right(1, 0, 0, 1439, 0);
        x.both(2, 1, 0, 0, 1440 + 7);
        CHECK.is("20: both let in, of two groups", x.uses(), 8);
    }

    private static void fewest() {
        CardRights x = house();
        x.right(0, 1, 0, 20, 0);
        x.right(0, 0, 0, 1439, 0);
        CHECK.is("21: no uses", x.fewest(), 0);
        x.asks(0, 0, 1, 10);
        CHECK.is("21: one use", x.fewest(), 1);
        x.asks(0, 0, 0, 10);
        CHECK.is("21: two zones", x.fewest(), 3);
        x.end(0, 0);
        x.end(1, 0);
        CHECK.is("21: ends are nothing", x.fewest(), 3);
        x.right(0, 1, 15, 30, 0);
        x.asks(0, 0, 1, 20);
        CHECK.is("21: two spans", x.fewest(), 7);
        x.right(0, 1, 10, 21, LAST);
        CHECK.is("21: one span for both, whatever its minute", x.fewest(), 10);
        x.right(1, 1, 0, 1439, 0);
        x.right(0, 2, 0, 1439, 0);
        x.right(0, 1, 10, 20, 0);
        x.right(0, 1, 11, 21, 0);
        CHECK.is("21: others' rights, and narrow ones, do not help", x.fewest(), 10);
        x.asks(0, 1, 2, 1000);
        CHECK.is("21: three zones", x.fewest(), 42);
    }

    private static void fewestTakesTheLeastNumber() {
        CardRights x = house();
        x.right(0, 1, 0, 100, 0);
        x.right(0, 1, 100, 200, 0);
        x.right(0, 1, 1400, 50, 0);
        x.right(0, 1, 40, 200, 0);
        x.right(0, 1, 1400, 50, 0);
        x.right(0, 1, 30, 30, 0);
        x.off(0, true);
        x.asks(0, 0, 1, 45);
        CHECK.is("21: of four the least", x.fewest(), 1);
        x.asks(0, 0, 1, 150);
        CHECK.is("21: one for both", x.fewest(), 8);
        x.asks(0, 0, 1, 1439);
        CHECK.is("21: over midnight, the lesser of alike ones", x.fewest(), 6);
        x.asks(0, 0, 1, 1440 + 20);
        CHECK.is("21: these two still", x.fewest(), 6);
        x.asks(0, 0, 1, 1440 + 60);
        CHECK.is("21: two, though three have a lesser number", x.fewest(), 12);

        CardRights y = house();
        for (int i = 0; i < 16; i++) {
            y.right(0, 1, i * 10, i * 10 + 10, 0);
        }
        y.off(0, true);
        int due = 0;
        for (int i = 0; i < 16; i++) {
            y.asks(0, 0, 1, i * 10 + i % 10);
            due |= 1 << i;
            CHECK.is("21: each is needed", y.fewest(), due);
        }
    }

    private static void now() {
        CardRights x = openHouse();
        CHECK.is("22: at first", x.now(), 0);
        x.card(0, 900);
        x.right(0, 0, 0, 1, 900);
        x.end(3, 900);
        x.lost(3, 900);
        CHECK.is("22: not by cards, rights, ends, losses", x.now(), 0);
        x.state(0, true, 5);
        CHECK.is("22: by a state", x.now(), 5);
        x.asks(0, 0, 1, 6);
        CHECK.is("22: by one that is let in", x.now(), 6);
        x.asks(0, 0, 1, 7);
        CHECK.is("22: by one that is refused", x.now(), 7);
        x.both(0, 1, 0, 1, 8);
        CHECK.is("22: by two that are refused", x.now(), 8);
        x.both(0, 2, 0, 0, 8);
        x.off(0, true);
        x.asks(0, 0, 1, 9);
        CHECK.is("22: at a door that is off", x.now(), 9);
        x.off(0, false);
        CHECK.is("22: not by joining", x.now(), 9);
        CHECK.argument("22: not by a call that throws", x, () -> x.asks(0, 0, 2, 20));
        CHECK.argument("22: not by two that throw", x, () -> x.both(0, 0, 0, 1, 20));
        CHECK.argument("22: not by a state that throws", x, () -> x.state(3, true, 20));
        CHECK.is("22: as it was", x.now(), 9);
    }
}
