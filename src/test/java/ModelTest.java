import java.util.Random;
import java.util.function.Supplier;

/** Random runs of calls, each answer against the model's; the same runs every time. */
public final class ModelTest {
    private static final Check CHECK = new Check("ModelTest");
    private static final int RUNS = 600;
    private static final int CALLS = 512;
    private static final int[] STRANGE = {-1, Integer.MIN_VALUE, Integer.MAX_VALUE, 10, 16, 20, 30, 40, 60, 100, 1440, 1000001};

    private final Random random;
    private final CardRights rights = new CardRights();
    private final Model model = new Model();
    private final int pace;
    private final int crowd;
    private final int trouble;
    private int minute = 0;
    private int rooms = 0;
    private int doors = 0;
    private int persons = 0;
    private int cards = 0;
    private int told = 0;
    private String name = "";
    private String got = "";
    private String due = "";

    private ModelTest(long seed) {
        random = new Random(seed);
        pace = 1 + random.nextInt(60);
        // Few groups and zones, so that many who ask have a right.
        crowd = 1 + random.nextInt(3);
        // In how many cases of ten things are told that refuse cards.
        trouble = random.nextInt(6);
    }

    public static void main(String[] args) {
        for (int run = 0; run < RUNS; run++) {
            new ModelTest(run).run(run);
        }
        for (int run = 0; run < 20; run++) {
            new ModelTest(-1 - run).goOnForLong(run);
        }
        for (int run = 0; run < 150; run++) {
            new ModelTest(1000 + run).manySpans(run);
        }
        CHECK.finish();
    }

    private void run(int run) {
        for (int call = 0; call < CALLS; call++) {
            step("run " + run + ", call " + call, which(run, call));
        }
    }

    /** All rights of one group for one zone, of spans that overlap, and uses all over the day. */
    private void manySpans(int run) {
        for (int room = 0; room < 2; room++) {
            rights.room(0);
            model.room(0);
        }
        for (int door = 0; door < 6; door++) {
            rights.door(0, 1);
            model.door(0, 1);
        }
        rights.person(0);
        model.person(0);
        rights.card(0, 1000000);
        model.card(0, 1000000);
        int width = 40 + random.nextInt(300);
        for (int i = 0; i < 16; i++) {
            int from = run % 2 == 0 ? random.nextInt(1440) : random.nextInt(8) * 180;
            int to = (from + width + random.nextInt(3) * 30) % 1440;
            rights.right(0, 0, from, to, 0);
            model.right(0, 0, from, to, 0);
        }
        for (int use = 0; use < 300; use++) {
            int door = use / 50;
            rights.off(door, true);
            model.off(door, true);
            int at = use * 311 / 4;
            CHECK.is("spans " + run + ", use " + use, rights.asks(0, door, 1, at), model.asks(0, door, 1, at));
            if (use % 15 == 0) {
                CHECK.is("spans " + run + ", fewest behind use " + use, rights.fewest(), model.fewest());
            }
        }
        CHECK.is("spans " + run + ", fewest", rights.fewest(), model.fewest());
        CHECK.is("spans " + run + ", uses", rights.uses(), model.uses());
    }

    /** At first things are made; some runs make few more of them, and some go on until there are as many as may be. */
    private int which(int run, int call) {
        if (call < 40) {
            return call < 3 ? 0 : random.nextInt(5);
        }
        if (run % 4 == 0 && random.nextBoolean()) {
            return random.nextInt(5);
        }
        return random.nextInt(20) == 0 ? random.nextInt(5) : 5 + random.nextInt(35);
    }

    /** Beyond the 512th call answers are free, but nothing may be thrown that the document does not name. */
    private void goOnForLong(int run) {
        for (int call = 0; call < 20000; call++) {
            try {
                pick(which(run, call))[0].run();
            } catch (RuntimeException other) {
                CHECK.tell("long run " + run + ", call " + call, other.toString(), "an answer");
            }
        }
    }

    private void step(String place, int which) {
        Runnable[] pair = pick(which);
        pair[0].run();
        pair[1].run();
        CHECK.tell(place + ": " + name, got, due);
        CHECK.is(place + ": now behind " + name, rights.now(), model.now());
    }

    private Runnable[] pair(String call, Supplier<Object> real, Supplier<Object> ideal) {
        return new Runnable[] {
            () -> {
                name = call;
                got = answer(real);
            },
            () -> due = answer(ideal)
        };
    }

    private static String answer(Supplier<Object> call) {
        try {
            return call.get().toString();
        } catch (IllegalArgumentException | IllegalStateException thrown) {
            return thrown.getClass().getName();
        }
    }

    private int some(int bound) {
        if (random.nextInt(150) == 0) {
            return STRANGE[random.nextInt(STRANGE.length)];
        }
        return random.nextInt(Math.max(1, bound));
    }

    private boolean isTrouble() {
        return random.nextInt(10) < trouble;
    }

    private int later() {
        if (random.nextInt(40) == 0) {
            return minute - 1 - random.nextInt(3);
        }
        if (random.nextInt(300) == 0) {
            return STRANGE[random.nextInt(STRANGE.length)];
        }
        minute = Math.max(minute, model.now()) + random.nextInt(pace);
        return minute;
    }

    private int around() {
        return random.nextInt(30) == 0 ? some(1000001) : Math.max(0, minute - 100 + random.nextInt(300));
    }

    private Runnable[] pick(int which) {
        if (which < 5) {
            return makeSomething(which);
        }
        if (which < 12) {
            return tellSomething(which);
        }
        if (which < 30) {
            return askSomething(which);
        }
        return lookAtSomething(which);
    }

    private Runnable[] makeSomething(int which) {
        int a = some(crowd);
        int b = some(crowd);
        int from = random.nextInt(4) == 0 ? some(1440) : minute % 1440;
        int to = random.nextInt(20) == 0 ? from : (from + (isTrouble() ? random.nextInt(200) : 1000 + random.nextInt(440))) % 1440;
        int since = isTrouble() ? around() : 0;
        switch (which) {
            case 0:
                rooms = Math.min(20, rooms + 1);
                return pair("room(" + a + ")", () -> rights.room(a), () -> model.room(a));
            case 1:
                int roomA = some(Math.min(rooms, 5));
                int roomB = random.nextInt(20) == 0 ? roomA : (roomA + 1) % Math.max(1, Math.min(rooms, 5));
                doors = Math.min(30, doors + 1);
                return pair("door(" + roomA + ", " + roomB + ")", () -> rights.door(roomA, roomB), () -> model.door(roomA, roomB));
            case 2:
                persons = Math.min(40, persons + 1);
                return pair("person(" + a + ")", () -> rights.person(a), () -> model.person(a));
            case 3:
                int person = some(persons);
                int until = isTrouble() ? around() + 500 : 1000000;
                cards = Math.min(60, cards + 1);
                return pair("card(" + person + ", " + until + ")", () -> rights.card(person, until), () -> model.card(person, until));
            default:
                told = Math.min(16, told + 1);
                return pair("right(" + a + ", " + b + ", " + from + ", " + to + ", " + since + ")",
                        () -> rights.right(a, b, from, to, since), () -> model.right(a, b, from, to, since));
        }
    }

    private Runnable[] tellSomething(int which) {
        int door = some(Math.min(doors, random.nextBoolean() ? 4 : 30));
        int other = some(doors);
        boolean on = isTrouble();
        int right = some(told);
        int card = some(cards);
        int when = isTrouble() ? around() : 1000000;
        switch (which) {
            case 5:
                return pair("end(" + right + ", " + when + ")", () -> rights.end(right, when), () -> model.end(right, when));
            case 6:
                return pair("lost(" + card + ", " + when + ")", () -> rights.lost(card, when), () -> model.lost(card, when));
            case 7:
                return pair("two(" + door + ", " + on + ")", () -> rights.two(door, on), () -> model.two(door, on));
            case 8:
                return pair("airlock(" + door + ", " + other + ", " + on + ")",
                        () -> rights.airlock(door, other, on), () -> model.airlock(door, other, on));
            case 9:
                int at = later();
                return pair("state(" + door + ", " + on + ", " + at + ")",
                        () -> rights.state(door, on, at), () -> model.state(door, on, at));
            default:
                boolean off = random.nextInt(which == 10 ? 2 : 10) != 0;
                return pair("off(" + door + ", " + off + ")", () -> rights.off(door, off), () -> model.off(door, off));
        }
    }

    private Runnable[] askSomething(int which) {
        int card = some(Math.min(cards, 8));
        int cardB = some(Math.min(cards, 8));
        int door = some(Math.min(doors, 4));
        int room = random.nextInt(30) == 0 ? some(rooms) : model.roomOf(door, random.nextBoolean());
        int at = later();
        if (which < 24) {
            return pair("asks(" + card + ", " + door + ", " + room + ", " + at + ")",
                    () -> rights.asks(card, door, room, at), () -> model.asks(card, door, room, at));
        }
        return pair("both(" + card + ", " + cardB + ", " + door + ", " + room + ", " + at + ")",
                () -> rights.both(card, cardB, door, room, at), () -> model.both(card, cardB, door, room, at));
    }

    private Runnable[] lookAtSomething(int which) {
        int zone = some(crowd);
        int place = some(8);
        int person = some(persons);
        int k = some(model.against() + 2);
        int what = some(4);
        switch (which) {
            case 30:
            case 31:
                return pair("where(" + person + ")", () -> rights.where(person), () -> model.where(person));
            case 32:
                return pair("inside(" + zone + ")", () -> rights.inside(zone), () -> model.inside(zone));
            case 33:
                return pair("muster(" + zone + ", " + place + ")", () -> rights.muster(zone, place), () -> model.muster(zone, place));
            case 34:
                return pair("against()", rights::against, model::against);
            case 35:
            case 36:
                return pair("found(" + k + ", " + what + ")", () -> rights.found(k, what), () -> model.found(k, what));
            case 37:
                return pair("uses()", rights::uses, model::uses);
            case 38:
                return pair("fewest()", rights::fewest, model::fewest);
            default:
                return pair("now()", rights::now, model::now);
        }
    }
}
