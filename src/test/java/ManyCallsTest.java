import java.lang.reflect.Field;

/** Behind the 512th call answers are free, but the machine itself must not throw, however many calls there were. */
public final class ManyCallsTest {
    private static final Check CHECK = new Check("ManyCallsTest");

    private ManyCallsTest() {
    }

    public static void main(String[] args) throws ReflectiveOperationException {
        countOfRowsThatWereAgainstRunsOver();
        CHECK.finish();
    }

    /** A run to there takes over half a minute, so the count of 2147483647 rows is put in place. */
    private static void countOfRowsThatWereAgainstRunsOver() throws ReflectiveOperationException {
        CardRights rights = new CardRights();
        rights.room(0);
        rights.room(1);
        rights.door(0, 1);
        rights.person(0);
        rights.card(0, 1000000);
        rights.right(0, 1, 0, 1439, 0);
        Object findings = field(CardRights.class, "findings").get(rights);
        field(findings.getClass(), "count").setInt(findings, Integer.MAX_VALUE);
        for (int join = 0; join < 4; join++) {
            CHECK.tell("join " + join, join(rights, join), "50 rows");
        }
        CHECK.is("the first row that is kept, its minute", rights.found(0, 2), 0);
        CHECK.is("the last row that is kept, its minute", rights.found(99, 2), 1);
        CHECK.argument("found(100, 0)", rights, () -> rights.found(100, 0));
    }

    private static Field field(Class<?> owner, String name) throws ReflectiveOperationException {
        Field field = owner.getDeclaredField(name);
        field.setAccessible(true);
        return field;
    }

    private static String join(CardRights rights, int minute) {
        rights.lost(0, 1000000);
        rights.off(0, true);
        for (int row = 0; row < 50; row++) {
            rights.asks(0, 0, 1, minute);
        }
        rights.lost(0, 0);
        try {
            return rights.off(0, false) + " rows";
        } catch (RuntimeException thrown) {
            return thrown.toString();
        }
    }
}
