import java.time.LocalDate;
import java.time.YearMonth;

/** Promises 17 to 24: the dates. */
public final class DatesTest {
    private static final Class<IllegalArgumentException> ARGUMENT = IllegalArgumentException.class;
    private static final int[][] NO_DATES = {{0, 1, 1}, {-4, 1, 1}, {3001, 1, 1}, {Integer.MIN_VALUE, 1, 1},
        {2024, 0, 1}, {2024, 13, 1}, {2024, -1, 1}, {2024, Integer.MAX_VALUE, 1}, {2024, 1, 0}, {2024, 1, 32},
        {2024, 1, -1}, {2024, 4, 31}, {2024, 6, 31}, {2024, 9, 31}, {2024, 11, 31}, {2024, 2, 30}, {2023, 2, 29},
        {1900, 2, 29}, {2100, 2, 29}, {2000, 2, 30}, {2024, 12, 32}, {2024, 12, Integer.MAX_VALUE},
        {2024, 12, Integer.MIN_VALUE}};

    public static void main(String[] args) {
        promise17();
        promise17Weekdays();
        promises18To21();
        promises18To21EachDay();
        backOverMidnight();
        promise22();
        promises23And24();
        Check.end("DatesTest");
    }

    private static void promise17() {
        MinsterClock clock = new MinsterClock();
        for (int[] no : NO_DATES) {
            Check.fails("setDate " + no[0] + " " + no[1] + " " + no[2], ARGUMENT,
                    () -> clock.setDate(no[0], no[1], no[2]));
        }
        Check.fails("setDate 1599", ARGUMENT, () -> clock.setDate(1599, 12, 31));
        Check.fails("setDate 1", ARGUMENT, () -> clock.setDate(1, 1, 1));
        Check.same("a wrong date changes nothing", Clocks.date(clock), "2000-1-1 5");
        Check.same("setDate, a Thursday", clock.setDate(2026, 11, 19), 3);
        Check.same("the date is shown", Clocks.date(clock), "2026-11-19 3");
        Check.same("the hands are not moved", clock.shown(), 0);
        Check.same("setDate, the first, a Saturday", clock.setDate(1600, 1, 1), 5);
        Check.same("the date is shown", Clocks.date(clock), "1600-1-1 5");
        Check.same("setDate, the last, a Wednesday", clock.setDate(3000, 12, 31), 2);
        Check.same("the date is shown", Clocks.date(clock), "3000-12-31 2");
        Check.same("setDate, a leap day, a Tuesday", clock.setDate(2000, 2, 29), 1);
        Check.same("setDate, a Monday", clock.setDate(2024, 1, 1), 0);
        Check.same("setDate, a Sunday", clock.setDate(2024, 12, 29), 6);
    }

    private static void promise17Weekdays() {
        for (LocalDate day = LocalDate.of(1600, 1, 1); day.getYear() <= 3000; day = day.plusDays(17)) {
            MinsterClock clock = new MinsterClock();
            int weekday = clock.setDate(day.getYear(), day.getMonthValue(), day.getDayOfMonth());
            Check.same("setDate " + day, weekday, day.getDayOfWeek().getValue() - 1);
            Check.same("weekday " + day, clock.weekday(), weekday);
            Check.same("year " + day, clock.year(), day.getYear());
            Check.same("month " + day, clock.month(), day.getMonthValue());
            Check.same("day " + day, clock.day(), day.getDayOfMonth());
        }
    }

    /** Makes a clock that shows a time of the first day, 20 seconds a beat. */
    private static MinsterClock clockAt(int seconds) {
        MinsterClock clock = new MinsterClock();
        clock.setBeat(20, 1);
        clock.pass(seconds / 20);
        return clock;
    }

    private static void promises18To21() {
        int[][] eves = {{2024, 2, 28}, {2023, 2, 28}, {1900, 2, 28}, {2000, 2, 28}, {2024, 2, 29}, {2024, 12, 31},
            {3000, 12, 31}, {1600, 1, 1}, {2024, 4, 30}, {2024, 1, 30}, {2999, 12, 31}, {2000, 12, 31}};
        String[] due = {"2024-2-29 3", "2023-3-1 2", "1900-3-1 3", "2000-2-29 1", "2024-3-1 4", "2025-1-1 2",
            "3001-1-1 3", "1600-1-2 6", "2024-5-1 2", "2024-1-31 2", "3000-1-1 2", "2001-1-1 0"};
        for (int i = 0; i < eves.length; i++) {
            MinsterClock clock = clockAt(86380);
            clock.setDate(eves[i][0], eves[i][1], eves[i][2]);
            String eve = Clocks.date(clock);
            clock.setBeat(1, 1);
            clock.pass(19);
            Check.same("a second before midnight", Clocks.date(clock), eve);
            clock.pass(1);
            Check.same("the day behind " + eve, Clocks.date(clock), due[i]);
            clock.setBeat(20, 1);
            clock.pass(4319);
            Check.same("the whole day", Clocks.date(clock), due[i]);
        }
    }

    private static void promises18To21EachDay() {
        MinsterClock clock = clockAt(86400);
        LocalDate day = LocalDate.of(1999, 12, 1);
        clock.setDate(1999, 12, 1);
        for (int i = 0; i < 500; i++) {
            if (i % 80 == 79) {
                // An object is used for 512 calls at most, so another one goes on with this date.
                clock = clockAt(86400);
                clock.setDate(day.getYear(), day.getMonthValue(), day.getDayOfMonth());
            }
            String due = day.getYear() + "-" + day.getMonthValue() + "-" + day.getDayOfMonth() + " "
                    + (day.getDayOfWeek().getValue() - 1);
            Check.same("day by day", Clocks.date(clock), due);
            clock.pass(4320);
            day = day.plusDays(1);
        }
    }

    private static void backOverMidnight() {
        MinsterClock clock = clockAt(86380);
        clock.setDate(2024, 2, 29);
        clock.setBound(30);
        clock.owe(-45);
        clock.setBeat(1, 1);
        clock.pass(19);
        Check.same("before midnight", Clocks.date(clock), "2024-2-29 3");
        Check.same("midnight strikes 12", clock.pass(1), 12);
        Check.same("back behind it", clock.shown(), 86370);
        Check.same("the date goes back", Clocks.date(clock), "2024-2-29 3");
        clock.pass(30);
        Check.same("back once more", clock.shown(), 86385);
        Check.same("the date goes back once more", Clocks.date(clock), "2024-2-29 3");
        Check.same("setDate behind a fall", clock.setDate(2023, 12, 31), 6);
        clock.pass(14);
        Check.same("before midnight", Clocks.date(clock), "2023-12-31 6");
        Check.same("midnight does not strike again", clock.pass(1), 0);
        Check.same("the date goes on", Clocks.date(clock), "2024-1-1 0");
        clock.pass(5000);
        Check.same("and stays", Clocks.date(clock), "2024-1-1 0");
    }

    private static void promise22() {
        MinsterClock clock = new MinsterClock();
        int[] wrong = {0, -4, 3001, 3004, Integer.MIN_VALUE, Integer.MAX_VALUE};
        for (int year : wrong) {
            Check.fails("isLeap(" + year + ")", ARGUMENT, () -> clock.isLeap(year));
        }
        Check.same("isLeap(1)", clock.isLeap(1), false);
        Check.same("isLeap(4)", clock.isLeap(4), true);
        Check.same("isLeap(100)", clock.isLeap(100), false);
        Check.same("isLeap(400)", clock.isLeap(400), true);
        Check.same("isLeap(1900)", clock.isLeap(1900), false);
        Check.same("isLeap(2000)", clock.isLeap(2000), true);
        Check.same("isLeap(2024)", clock.isLeap(2024), true);
        Check.same("isLeap(2026)", clock.isLeap(2026), false);
        Check.same("isLeap(3000)", clock.isLeap(3000), false);
        for (int year = 1; year <= 3000; year++) {
            MinsterClock one = new MinsterClock();
            Check.same("isLeap(" + year + ")", one.isLeap(year), YearMonth.of(year, 2).lengthOfMonth() == 29);
        }
    }

    private static void promises23And24() {
        MinsterClock clock = new MinsterClock();
        for (int[] no : NO_DATES) {
            Check.fails("numberOf " + no[0] + " " + no[1] + " " + no[2], ARGUMENT,
                    () -> clock.numberOf(no[0], no[1], no[2]));
            Check.fails("numberByCounting " + no[0] + " " + no[1] + " " + no[2], ARGUMENT,
                    () -> clock.numberByCounting(no[0], no[1], no[2]));
        }
        Check.same("the first number", clock.numberOf(1, 1, 1), 1L);
        Check.same("the first number", clock.numberByCounting(1, 1, 1), 1L);
        Check.same("the second year", clock.numberOf(2, 1, 1), 366L);
        Check.same("the second year", clock.numberByCounting(2, 1, 1), 366L);
        Check.same("the last number", clock.numberOf(3000, 12, 31), 1095727L);
        Check.same("the last number", clock.numberByCounting(3000, 12, 31), 1095727L);
        // Days from the first day of the epoch's count, 1 January 1970, whose number is 719163.
        for (int year = 1; year <= 3000; year++) {
            MinsterClock one = new MinsterClock();
            for (int month = 1; month <= 12; month++) {
                int last = YearMonth.of(year, month).lengthOfMonth();
                for (int day = 1; day <= last; day += last - 1) {
                    long due = LocalDate.of(year, month, day).toEpochDay() + 719163;
                    String told = year + " " + month + " " + day;
                    Check.same("numberOf " + told, one.numberOf(year, month, day), due);
                    Check.same("numberByCounting " + told, one.numberByCounting(year, month, day), due);
                }
            }
        }
        Check.same("the date that is shown stays", Clocks.date(clock), "2000-1-1 5");
    }
}
