/** The sentences about dates: promises 17 to 24, and the paragraph 'Dates'. */
final class DatesSentences {
    private static final Class<IllegalArgumentException> ARGUMENT = IllegalArgumentException.class;
    private static final String NUMBER = "The number of a date is 1 for the 1 January of the year 1, which is a Monday,"
            + " and one more for each day that follows.";
    private static final String GOES_ON = "The date goes on by a day when the number that is shown comes to the next"
            + " multiple of 86400, and back when it falls below it.";
    private static final String NO_DATE = "Throws `IllegalArgumentException` if there is no such date";
    private static final String YEAR = "`year`: the year, 1 to 3000";
    private static final String MONTH = "`month`: the month, 1 to 12";
    private static final String DAY = "`day`: the day of the month";
    private static final int[] COMMON = {31, 28, 31, 30, 31, 30, 31, 31, 30, 31, 30, 31};

    /** One of the calls that take a date. */
    private interface Dated {
        Object ask(MinsterClock clock, int year, int month, int day);
    }

    private static final Dated SET = MinsterClock::setDate;
    private static final Dated NUMBERED = MinsterClock::numberOf;
    private static final Dated COUNTED = MinsterClock::numberByCounting;

    private DatesSentences() {
    }

    static void test(Sentences s) {
        s.terms(22, "Years have 365 days, and leap years 366: those that can be divided by 4, but of those that can be"
                + " divided by 100 only those that can be divided by 400.", DatesSentences::lengthsOfYears);
        s.terms(23, NUMBER, () -> numbers(NUMBERED));
        s.terms(24, NUMBER, () -> numbers(COUNTED));
        s.terms(21, NUMBER, DatesSentences::weekdaysOfNumbers);
        s.terms(20, GOES_ON, DatesSentences::goesOn);
        s.terms(20, GOES_ON, DatesSentences::goesBack);
        s.promise(17, "Sets the date that is shown now.", DatesSentences::setsTheDate);
        s.promise(17, YEAR, DatesSentences::yearsToSet);
        s.promise(17, MONTH, () -> months(SET));
        s.promise(17, DAY, () -> days(SET));
        s.promise(17, "Returns the day of the week of this date, 0 for Monday.", DatesSentences::weekdaySet);
        s.promise(17, "Throws `IllegalArgumentException` if there is no such date, or the year is less than 1600",
                DatesSentences::noDateToSet);
        testShown(s);
        s.promise(22, "Returns whether a year is a leap year.", DatesSentences::leapYearOfAnyDate);
        s.promise(22, YEAR, DatesSentences::yearsToAsk);
        s.promise(22, "Returns whether it is.", DatesSentences::leapYears);
        s.promise(22, "Throws `IllegalArgumentException` if the year is out of range", DatesSentences::noYear);
        s.promise(23, "Returns the number of a date, found from the numbers of years.",
                () -> numberAtAnyDate(NUMBERED));
        testNumbers(s, 23, NUMBERED);
        s.promise(23, "Returns the number.", () -> someNumbers(NUMBERED));
        testNumbers(s, 24, COUNTED);
        s.promise(24, "Returns the number.", () -> someNumbers(COUNTED));
        s.promise(24, "Returns the same number, found by counting years and months one by one.",
                () -> {
                    sameNumber();
                    numberAtAnyDate(COUNTED);
                });
    }

    private static void testShown(Sentences s) {
        s.promise(18, "Returns the year that is shown.", DatesSentences::yearByTheHands);
        s.promise(18, "Returns the year.", DatesSentences::yearShown);
        s.promise(19, "Returns the month that is shown.", DatesSentences::monthByTheHands);
        s.promise(19, "Returns the month, 1 to 12.", DatesSentences::monthShown);
        s.promise(20, "Returns the day of the month that is shown.", DatesSentences::dayByTheHands);
        s.promise(20, "Returns the day.", DatesSentences::dayShown);
        s.promise(21, "Returns the day of the week that is shown.", DatesSentences::weekdayByTheHands);
        s.promise(21, "Returns the day of the week, 0 for Monday.", DatesSentences::weekdayShown);
    }

    private static void testNumbers(Sentences s, int promise, Dated call) {
        s.promise(promise, YEAR, () -> yearsToNumber(call));
        s.promise(promise, MONTH, () -> months(call));
        s.promise(promise, DAY, () -> days(call));
        s.promise(promise, NO_DATE, () -> noDateToNumber(call));
    }

    private static int daysOf(int year, int month) {
        boolean isLeap = year % 400 == 0 || (year % 4 == 0 && year % 100 != 0);
        return month == 2 && isLeap ? 29 : COMMON[month - 1];
    }

    private static String told(int year, int month, int day) {
        return year + "-" + month + "-" + day;
    }

    private static void lengthsOfYears() {
        MinsterClock clock = new MinsterClock();
        int[] leap = {4, 8, 96, 104, 396, 400, 404, 1600, 1996, 2000, 2004, 2024, 2400, 2800, 2996};
        int[] common = {1, 2, 3, 5, 99, 100, 101, 200, 300, 399, 401, 500, 1700, 1800, 1900, 2023, 2100, 2998, 2999};
        for (int year : leap) {
            Check.same("isLeap(" + year + ")", clock.isLeap(year), true);
            Check.same("the days of " + year, clock.numberOf(year + 1, 1, 1) - clock.numberOf(year, 1, 1), 366L);
        }
        for (int year : common) {
            Check.same("isLeap(" + year + ")", clock.isLeap(year), false);
            Check.same("the days of " + year, clock.numberOf(year + 1, 1, 1) - clock.numberOf(year, 1, 1), 365L);
        }
        Check.same("isLeap(3000)", clock.isLeap(3000), false);
        Check.same("the days of 3000", clock.numberOf(3000, 12, 31) - clock.numberOf(3000, 1, 1), 364L);
    }

    /** Counts on from the first day to the last: at the first two and the last two days of each month. */
    private static void numbers(Dated call) {
        long before = 0;
        for (int year = 1; year <= 3000; year++) {
            MinsterClock clock = new MinsterClock();
            for (int month = 1; month <= 12; month++) {
                int last = daysOf(year, month);
                for (int day : new int[] {1, 2, last - 1, last}) {
                    Check.same(told(year, month, day), call.ask(clock, year, month, day), before + day);
                }
                before += last;
            }
        }
        Check.same("the days of 3000 years", before, 1095727L);
        Check.same("the first number", call.ask(new MinsterClock(), 1, 1, 1), 1L);
    }

    private static void weekdaysOfNumbers() {
        MinsterClock clock = new MinsterClock();
        // The first day that can be set, and each weekday behind it: as many days on as its number less 1.
        for (int day = 1; day <= 31; day++) {
            long number = clock.numberOf(1600, 1, day);
            Check.same("1600-1-" + day, clock.setDate(1600, 1, day), (int) ((number - 1) % 7));
        }
        // 400 years have 146097 days, 20871 weeks: 2001-1-1 is a Monday as 1-1-1 is.
        Check.same("2001-1-1", clock.setDate(2001, 1, 1), 0);
        Check.same("2001-1-1, shown", clock.weekday(), 0);
        Check.same("2401-1-1", clock.setDate(2401, 1, 1), 0);
        Check.same("2000-12-31", clock.setDate(2000, 12, 31), 6);
        Check.same("2801-1-1", clock.setDate(2801, 1, 1), 0);
        Check.same("2801-1-2", clock.setDate(2801, 1, 2), 1);
    }

    private static void goesOn() {
        for (int days = 1; days <= 3; days++) {
            MinsterClock clock = Clocks.at(days * 86400 - 1);
            Check.same("a second before midnight " + days, Clocks.date(clock), "2000-1-" + days + " " + (days + 4) % 7);
            clock.pass(1);
            Check.same("midnight " + days, Clocks.date(clock), "2000-1-" + (days + 1) + " " + (days + 5) % 7);
            clock.pass(1);
            Check.same("only once", clock.day(), days + 1);
        }
        MinsterClock clock = Clocks.at(86340);
        clock.owe(5);
        clock.setBeat(20, 1);
        clock.pass(3);
        Check.same("corrected forward at midnight", clock.shown() + " " + Clocks.date(clock), "86405 2000-1-2 6");
        clock.pass(5000);
        Check.same("a day and more in one call", clock.shown() + " " + Clocks.date(clock), "186405 2000-1-3 0");
    }

    private static void goesBack() {
        MinsterClock clock = Clocks.at(86399);
        clock.owe(-6);
        clock.pass(1);
        Check.same("below midnight", clock.shown() + " " + Clocks.date(clock), "86395 2000-1-1 5");
        clock.pass(4);
        Check.same("a second before it again", Clocks.date(clock), "2000-1-1 5");
        clock.pass(1);
        Check.same("below it again, by 1", clock.shown() + " " + Clocks.date(clock), "86399 2000-1-1 5");
        clock.pass(1);
        Check.same("it comes for good", clock.shown() + " " + Clocks.date(clock), "86400 2000-1-2 6");
        MinsterClock set = Clocks.at(86399);
        set.owe(-5);
        set.pass(1);
        set.setDate(2024, 2, 28);
        set.pass(4);
        Check.same("set below midnight", Clocks.date(set), "2024-2-28 2");
        set.pass(1);
        Check.same("it goes on when midnight comes", Clocks.date(set), "2024-2-29 3");
        MinsterClock none = Clocks.at(86399);
        none.setBound(0);
        none.owe(-5);
        none.pass(1);
        Check.same("midnight itself is not below it", none.shown() + " " + Clocks.date(none), "86400 2000-1-2 6");
        MinsterClock first = Clocks.at(86399);
        first.setDate(2999, 12, 31);
        first.owe(-1);
        first.pass(1);
        Check.same("a year goes back too", Clocks.date(first), "2999-12-31 1");
        first.pass(1);
        Check.same("and on", Clocks.date(first), "3000-1-1 2");
    }

    private static void setsTheDate() {
        MinsterClock before = Clocks.at(86399);
        before.setDate(2024, 2, 29);
        Check.same("a second before midnight", Clocks.date(before), "2024-2-29 3");
        Check.same("the hands stay", before.shown(), 86399);
        before.pass(1);
        Check.same("it goes on from there", Clocks.date(before), "2024-3-1 4");
        MinsterClock behind = Clocks.at(86400);
        behind.setDate(2024, 2, 29);
        Check.same("at midnight", Clocks.date(behind), "2024-2-29 3");
        behind.setBeat(20, 1);
        behind.pass(4319);
        Check.same("it stays for the day", Clocks.date(behind), "2024-2-29 3");
        behind.pass(1);
        Check.same("and goes on at the next midnight", Clocks.date(behind), "2024-3-1 4");
        behind.setDate(1600, 1, 1);
        behind.setDate(3000, 12, 31);
        Check.same("the latest one that was set", Clocks.date(behind), "3000-12-31 2");
    }

    private static void yearsToSet() {
        MinsterClock clock = new MinsterClock();
        Check.same("3000, a Wednesday", clock.setDate(3000, 12, 31), 2);
        Check.same("3000 is shown", Clocks.date(clock), "3000-12-31 2");
        for (int year : new int[] {3001, 0, -1, -2000, Integer.MIN_VALUE, Integer.MAX_VALUE}) {
            Twins.refuses("setDate(" + year + ", 1, 1)", Clocks::live, ARGUMENT, one -> one.setDate(year, 1, 1));
        }
    }

    private static void months(Dated call) {
        MinsterClock clock = new MinsterClock();
        for (int month = 1; month <= 12; month++) {
            Object answer = call.ask(clock, 2023, month, 1);
            Check.same("the month " + month + " is taken", answer instanceof Number, true);
        }
        for (int month : new int[] {0, 13, -1, Integer.MIN_VALUE, Integer.MAX_VALUE}) {
            Check.fails("the month " + month, ARGUMENT, () -> call.ask(clock, 2023, month, 1));
        }
    }

    private static void days(Dated call) {
        for (int year : new int[] {1600, 1700, 1900, 2000, 2023, 2024, 2100, 2400, 2996, 3000}) {
            MinsterClock clock = new MinsterClock();
            for (int month = 1; month <= 12; month++) {
                int inMonth = month;
                int last = daysOf(year, month);
                Object first = call.ask(clock, year, month, 1);
                Check.same(told(year, month, 1), first instanceof Number, true);
                Check.same(told(year, month, last), call.ask(clock, year, month, last) instanceof Number, true);
                for (int day : new int[] {0, last + 1, -1, 32, Integer.MIN_VALUE, Integer.MAX_VALUE}) {
                    Check.fails(told(year, month, day), ARGUMENT, () -> call.ask(clock, year, inMonth, day));
                }
            }
        }
    }

    private static void weekdaySet() {
        MinsterClock clock = new MinsterClock();
        for (int day = 1; day <= 8; day++) {
            int due = day == 8 ? 0 : day - 1;
            Check.same("2024-1-" + day, clock.setDate(2024, 1, day), due);
            Check.same("2024-1-" + day + ", shown", clock.weekday(), due);
        }
        Check.same("the first that can be set, a Saturday", clock.setDate(1600, 1, 1), 5);
        Check.same("the last, a Wednesday", clock.setDate(3000, 12, 31), 2);
    }

    private static void noDateToSet() {
        MinsterClock clock = new MinsterClock();
        Check.same("the first day of 1600", clock.setDate(1600, 1, 1), 5);
        Check.same("it is shown", Clocks.date(clock), "1600-1-1 5");
        int[][] wrong = {{1599, 12, 31}, {1599, 1, 1}, {1, 1, 1}, {1000, 6, 15}, {0, 1, 1}, {3001, 1, 1}, {2024, 0, 1},
            {2024, 13, 1}, {2024, 1, 0}, {2024, 1, 32}, {2024, 2, 30}, {2023, 2, 29}, {1900, 2, 29}, {2024, 4, 31},
            {1600, 2, 30}, {1599, 2, 29}};
        for (int[] date : wrong) {
            Twins.refuses("setDate " + told(date[0], date[1], date[2]), Clocks::live, ARGUMENT,
                    one -> one.setDate(date[0], date[1], date[2]));
        }
        Check.same("the leap day of 1600", clock.setDate(1600, 2, 29), 1);
    }

    /** A clock that shows a date and 23:59:59. */
    private static MinsterClock eveOf(int year, int month, int day) {
        MinsterClock clock = Clocks.at(86399);
        clock.setDate(year, month, day);
        return clock;
    }

    private static void yearByTheHands() {
        // The year 2000 has 366 days.
        MinsterClock clock = Clocks.at(366 * 86400 - 1);
        Check.same("the last second of 2000", Clocks.date(clock), "2000-12-31 6");
        Check.same("its year", clock.year(), 2000);
        clock.owe(-1);
        clock.pass(1);
        Check.same("midnight, and back below it", clock.year(), 2000);
        clock.pass(1);
        Check.same("the first second of 2001", clock.year(), 2001);
        clock.setDate(1600, 1, 1);
        Check.same("as it was set", clock.year(), 1600);
        Check.same("another clock has its own", new MinsterClock().year(), 2000);
    }

    private static void monthByTheHands() {
        MinsterClock january = Clocks.at(31 * 86400 - 1);
        Check.same("the last second of January", january.month(), 1);
        january.pass(1);
        Check.same("the first second of February", january.month(), 2);
        // The February of 2000 has 29 days.
        MinsterClock february = Clocks.at(60 * 86400 - 1);
        Check.same("the last second of February", february.month(), 2);
        february.owe(-1);
        february.pass(1);
        Check.same("midnight, and back below it", february.month(), 2);
        february.pass(1);
        Check.same("the first second of March", february.month(), 3);
        february.setDate(2023, 12, 31);
        Check.same("as it was set", february.month(), 12);
    }

    private static void dayByTheHands() {
        MinsterClock clock = Clocks.at(40 * 86400);
        Check.same("the 41st day of the year is the 10 February", clock.day(), 10);
        clock.setBeat(20, 1);
        clock.pass(4319);
        Check.same("it stays for the day", clock.day(), 10);
        clock.owe(-1);
        clock.pass(1);
        Check.same("midnight, and back below it", clock.day(), 10);
        clock.pass(1);
        Check.same("the next one", clock.day(), 11);
        clock.setDate(2023, 12, 31);
        Check.same("as it was set", clock.day(), 31);
    }

    private static void weekdayByTheHands() {
        MinsterClock clock = Clocks.at(86399);
        Check.same("1 January 2000, a Saturday", clock.weekday(), 5);
        clock.pass(1);
        Check.same("2 January, a Sunday", clock.weekday(), 6);
        clock.setBeat(20, 1);
        clock.pass(4319);
        Check.same("it stays for the day", clock.weekday(), 6);
        clock.owe(-1);
        clock.pass(1);
        Check.same("midnight, and back below it", clock.weekday(), 6);
        clock.pass(1);
        Check.same("3 January, a Monday", clock.weekday(), 0);
        clock.setDate(2024, 2, 29);
        Check.same("as it was set, a Thursday", clock.weekday(), 3);
    }

    private static void leapYearOfAnyDate() {
        for (int shown : new int[] {1600, 1900, 2000, 2023, 3000}) {
            MinsterClock clock = eveOf(shown, 12, 31);
            String told = "in " + shown + ", ";
            Check.same(told + "2024, by 4", clock.isLeap(2024), true);
            Check.same(told + "2023", clock.isLeap(2023), false);
            Check.same(told + "1900, by 100", clock.isLeap(1900), false);
            Check.same(told + "2000, by 400", clock.isLeap(2000), true);
            Check.same(told + "the same date is shown", clock.year(), shown);
        }
    }

    /** The number of a date has nothing to do with the date that is shown. */
    private static void numberAtAnyDate(Dated call) {
        for (int shown : new int[] {1600, 2000, 3000}) {
            MinsterClock clock = eveOf(shown, 12, 31);
            // 1969 years have 1969 * 365 days and 492 - 19 + 4 leap days.
            Check.same("1970-1-1, in " + shown, call.ask(clock, 1970, 1, 1), 719163L);
            Check.same("1970-1-2, in " + shown, call.ask(clock, 1970, 1, 2), 719164L);
            // 400 years have 146097 days.
            Check.same("401-1-1, in " + shown, call.ask(clock, 401, 1, 1), 146098L);
            Check.same("400-12-31, in " + shown, call.ask(clock, 400, 12, 31), 146097L);
            Check.same("2800-12-31, in " + shown, call.ask(clock, 2800, 12, 31), 7 * 146097L);
            Check.same("100-12-31, in " + shown, call.ask(clock, 100, 12, 31), 36524L);
            Check.same("the same date is shown", clock.year() + " " + clock.month() + " " + clock.day(),
                    shown + " 12 31");
        }
    }

    private static void yearShown() {
        for (int year : new int[] {1600, 1699, 1700, 1999, 2000, 2023, 2024, 2399, 2400, 2999, 3000}) {
            MinsterClock clock = eveOf(year, 12, 31);
            Check.same("the last second of " + year, clock.year(), year);
            clock.pass(1);
            Check.same("the first second behind " + year, clock.year(), year + 1);
            MinsterClock within = eveOf(year, 12, 30);
            within.pass(1);
            Check.same("the last day of " + year, within.year(), year);
            within.setDate(year, 1, 1);
            Check.same("the first day of " + year, within.year(), year);
        }
        Check.same("at first", new MinsterClock().year(), 2000);
    }

    private static void monthShown() {
        for (int year : new int[] {1900, 2000, 2023, 2024}) {
            for (int month = 1; month <= 12; month++) {
                int last = daysOf(year, month);
                MinsterClock clock = eveOf(year, month, last);
                Check.same("the last second of " + year + "-" + month, clock.month(), month);
                clock.pass(1);
                Check.same("the first second behind " + year + "-" + month, clock.month(), month == 12 ? 1 : month + 1);
                MinsterClock within = eveOf(year, month, last - 1);
                within.pass(1);
                Check.same("the last day of " + year + "-" + month, within.month(), month);
            }
        }
        Check.same("at first", new MinsterClock().month(), 1);
    }

    private static void dayShown() {
        for (int year : new int[] {1900, 2000, 2023, 2024}) {
            for (int month = 1; month <= 12; month++) {
                int last = daysOf(year, month);
                MinsterClock clock = eveOf(year, month, last);
                Check.same("the last second of " + told(year, month, last), clock.day(), last);
                clock.pass(1);
                Check.same("the first second behind " + told(year, month, last), clock.day(), 1);
                MinsterClock within = eveOf(year, month, last - 1);
                within.pass(1);
                Check.same("the day before " + told(year, month, last) + " is over", within.day(), last);
            }
        }
        Check.same("at first", new MinsterClock().day(), 1);
    }

    private static void weekdayShown() {
        MinsterClock clock = eveOf(2024, 1, 1);
        clock.setBeat(20, 1);
        for (int day = 0; day < 15; day++) {
            Check.same("Monday and " + day + " days", clock.weekday(), day % 7);
            clock.pass(4320);
        }
        Check.same("at first, a Saturday", new MinsterClock().weekday(), 5);
        MinsterClock sunday = eveOf(2024, 1, 7);
        Check.same("the last second of a Sunday", sunday.weekday(), 6);
        sunday.pass(1);
        Check.same("the first second of a Monday", sunday.weekday(), 0);
    }

    private static void yearsToAsk() {
        MinsterClock clock = new MinsterClock();
        Check.same("the year 1", clock.isLeap(1), false);
        Check.same("the year 3000", clock.isLeap(3000), false);
        Check.same("the year 2999", clock.isLeap(2999), false);
        for (int year : new int[] {0, 3001}) {
            Check.fails("the year " + year, ARGUMENT, () -> clock.isLeap(year));
        }
    }

    private static void leapYears() {
        for (int from = 1; from <= 3000; from += 500) {
            MinsterClock clock = new MinsterClock();
            for (int year = from; year < from + 500; year++) {
                Check.same("isLeap(" + year + ")", clock.isLeap(year), daysOf(year, 2) == 29);
            }
        }
    }

    private static void noYear() {
        for (int year : new int[] {0, 3001, -4, 3004, -400, Integer.MIN_VALUE, Integer.MAX_VALUE}) {
            Twins.refuses("isLeap(" + year + ")", Clocks::live, ARGUMENT, clock -> clock.isLeap(year));
        }
    }

    private static void yearsToNumber(Dated call) {
        MinsterClock clock = new MinsterClock();
        Check.same("the year 1", call.ask(clock, 1, 1, 1), 1L);
        Check.same("the year 1599, which can't be set, has its number", call.ask(clock, 1599, 12, 31), 584022L);
        Check.same("the year 1600", call.ask(clock, 1600, 1, 1), 584023L);
        Check.same("the year 3000", call.ask(clock, 3000, 12, 31), 1095727L);
        for (int year : new int[] {0, 3001, -1, Integer.MIN_VALUE, Integer.MAX_VALUE}) {
            Check.fails("the year " + year, ARGUMENT, () -> call.ask(clock, year, 1, 1));
        }
    }

    private static void noDateToNumber(Dated call) {
        int[][] wrong = {{0, 12, 31}, {3001, 1, 1}, {2024, 0, 1}, {2024, 13, 1}, {2024, 1, 0}, {2024, 1, 32},
            {2024, 2, 30}, {2023, 2, 29}, {1900, 2, 29}, {100, 2, 29}, {1, 2, 29}, {3000, 2, 29}, {2024, 4, 31},
            {2024, 6, 31}, {2024, 9, 31}, {2024, 11, 31}, {2024, 12, 32}, {0, 0, 0}};
        for (int[] date : wrong) {
            Twins.refuses(told(date[0], date[1], date[2]), Clocks::live, ARGUMENT,
                    clock -> call.ask(clock, date[0], date[1], date[2]));
        }
        Twins.keeps("the number of a date", Clocks::live, clock -> call.ask(clock, 1, 1, 1));
    }

    private static void someNumbers(Dated call) {
        MinsterClock clock = new MinsterClock();
        // 1999 years have 1999 * 365 days and 499 - 19 + 4 leap days.
        int[][] dates = {{1, 1, 1}, {1, 1, 2}, {1, 1, 31}, {1, 2, 1}, {1, 2, 28}, {1, 3, 1}, {1, 12, 31}, {2, 1, 1},
            {4, 2, 29}, {4, 3, 1}, {4, 12, 31}, {5, 1, 1}, {2000, 1, 1}, {2000, 2, 29}, {2000, 3, 1}, {3000, 12, 31}};
        long[] due = {1, 2, 31, 32, 59, 60, 365, 366, 1155, 1156, 1461, 1462, 730120, 730179, 730180, 1095727};
        for (int i = 0; i < dates.length; i++) {
            int[] date = dates[i];
            Check.same(told(date[0], date[1], date[2]), call.ask(clock, date[0], date[1], date[2]), due[i]);
        }
    }

    private static void sameNumber() {
        for (int year = 1; year <= 3000; year++) {
            MinsterClock clock = new MinsterClock();
            for (int month = 1; month <= 12; month++) {
                int last = daysOf(year, month);
                Check.same(told(year, month, 1), clock.numberByCounting(year, month, 1),
                        clock.numberOf(year, month, 1));
                Check.same(told(year, month, last), clock.numberByCounting(year, month, last),
                        clock.numberOf(year, month, last));
            }
        }
    }
}
