import java.lang.reflect.Field;

/** Promise 39: a clock that is sound holds, and one whose bells or log were spoilt behind its back does not. */
public final class IsOnceTest {
    public static void main(String[] args) throws ReflectiveOperationException {
        Check.same("sound, without a strike", new MinsterClock().isOnce(), true);
        Check.same("sound", clockWithStrikes().isOnce(), true);

        MinsterClock bell = clockWithStrikes();
        row(bell, "bells", "strokesOfBells")[3]++;
        Check.same("a stroke too many", bell.isOnce(), false);

        MinsterClock same = clockWithStrikes();
        row(same, "log", "marks")[5] = row(same, "log", "marks")[4];
        Check.same("a mark twice in the log", same.isOnce(), false);

        MinsterClock rising = clockWithStrikes();
        row(rising, "log", "marks")[0] = 1000;
        Check.same("a mark that rises from rank to rank", rising.isOnce(), false);
        Check.end("IsOnceTest");
    }

    private static MinsterClock clockWithStrikes() {
        MinsterClock clock = new MinsterClock();
        clock.setBeat(20, 1);
        clock.pass(45 * 30);
        return clock;
    }

    private static int[] row(MinsterClock clock, String part, String row) throws ReflectiveOperationException {
        Field partField = MinsterClock.class.getDeclaredField(part);
        partField.setAccessible(true);
        Object owner = partField.get(clock);
        Field rowField = owner.getClass().getDeclaredField(row);
        rowField.setAccessible(true);
        return (int[]) rowField.get(owner);
    }
}
