import java.util.ArrayList;
import java.util.NoSuchElementException;

/** A clock of a tower with its carillon: a train, hands, bells, drums with pins, and corrections by little. */
public final class MinsterClock {
    private static final int MOST_BEATS = 5000;
    private static final int MOST_WHEELS = 6;
    private static final int MOST_DRUMS = 4;
    private static final int MOST_OWED_BY_A_CALL = 600;
    private static final int MOST_OWED = 3600;
    private static final int MOST_BOUND = 30;
    private static final int MOST_OF_FRACTION = 20;
    private static final int FIRST_YEAR_TO_SET = 1600;
    private static final int MINUTE = 60;
    private static final int QUARTER = 900;
    private static final int HOUR = 3600;
    private static final int DAY = 86400;
    private static final int NO_TUNE = -1;
    private static final int[] BEATS_FOUND_BOTH_WAYS = {1, 60, 700};

    private final Train train;
    private final Pace pace;
    private final Hands hands;
    private final Bells bells;
    private final StrikeLog log;
    // What is asked ahead walks on these two, so that no call has to make new ones.
    private final Pace trialPace;
    private final Hands trialHands;
    private long beatsPassed;
    private long dateOfShownZero;

    public MinsterClock() {
        train = new Train();
        pace = new Pace();
        hands = new Hands();
        bells = new Bells();
        log = new StrikeLog();
        trialPace = new Pace();
        trialHands = new Hands();
        beatsPassed = 0;
        dateOfShownZero = Dates.numberByYears(2000, 1, 1);
    }

    // The train.

    public int addWheel(int teeth, int leaves) throws IllegalArgumentException, IllegalStateException {
        if (!isWithin(teeth, 6, 120) || !isWithin(leaves, 6, 24)) {
            throw new IllegalArgumentException("the teeth or the leaves are out of range");
        }
        if (train.size() >= MOST_WHEELS) {
            throw new IllegalStateException("there are 6 wheels");
        }
        return train.add(teeth, leaves, beatsPassed);
    }

    public int wheels() {
        return train.size();
    }

    public int moved(int wheel) throws IndexOutOfBoundsException {
        requireWheel(wheel);
        return (int) train.movedByRatios(wheel, beatsPassed);
    }

    public int wholeTurns(int wheel) throws IndexOutOfBoundsException {
        requireWheel(wheel);
        return (int) train.turnsByRatios(wheel, beatsPassed);
    }

    public double beatsForTurn(int wheel) throws IndexOutOfBoundsException {
        requireWheel(wheel);
        return train.beatsOfTurn(wheel);
    }

    public int movedAhead(int wheel, int beats) throws IndexOutOfBoundsException, IllegalArgumentException {
        requireWheel(wheel);
        requireBeats(beats);
        return (int) train.movedByRatios(wheel, beatsPassed + beats);
    }

    public int movedByBeats(int wheel, int beats) throws IndexOutOfBoundsException, IllegalArgumentException {
        requireWheel(wheel);
        requireBeats(beats);
        return (int) train.movedByWalking(wheel, beatsPassed, beats);
    }

    // Going.

    public int setBeat(int numerator, int denominator) throws IllegalArgumentException {
        if (!isWithin(numerator, 1, MOST_OF_FRACTION) || !isWithin(denominator, 1, MOST_OF_FRACTION)) {
            throw new IllegalArgumentException("the numerator or the denominator is out of range");
        }
        return pace.change(numerator, denominator);
    }

    public int pass(int beats) throws IllegalArgumentException {
        requireBeats(beats);
        beatsPassed += beats;
        return goByMinutes(hands, pace.letPass(beats), true);
    }

    public long beats() {
        return beatsPassed;
    }

    public int shown() {
        return hands.seconds();
    }

    public int hour() {
        return hourOf(hands.seconds());
    }

    public int minute() {
        return Math.floorMod(Math.floorDiv(hands.seconds(), MINUTE), 60);
    }

    public int owe(int seconds) throws IllegalArgumentException {
        if (!isWithin(seconds, -MOST_OWED_BY_A_CALL, MOST_OWED_BY_A_CALL)) {
            throw new IllegalArgumentException("the seconds are out of range");
        }
        if (!isWithin(hands.owedSeconds() + seconds, -MOST_OWED, MOST_OWED)) {
            throw new IllegalArgumentException("too much would be owed");
        }
        return hands.addOwed(seconds);
    }

    public int setBound(int seconds) throws IllegalArgumentException {
        if (!isWithin(seconds, 0, MOST_BOUND)) {
            throw new IllegalArgumentException("the bound is out of range");
        }
        return hands.changeBound(seconds);
    }

    // Dates.

    public int setDate(int year, int month, int day) throws IllegalArgumentException {
        requireDate(year, month, day);
        if (year < FIRST_YEAR_TO_SET) {
            throw new IllegalArgumentException("the year is less than 1600");
        }
        long number = Dates.numberByYears(year, month, day);
        dateOfShownZero = number - wholeDaysShown();
        return Dates.weekdayOf(number);
    }

    public int year() {
        return Dates.yearOf(dateShown());
    }

    public int month() {
        return Dates.monthOf(dateShown());
    }

    public int day() {
        return Dates.dayOf(dateShown());
    }

    public int weekday() {
        return Dates.weekdayOf(dateShown());
    }

    public boolean isLeap(int year) throws IllegalArgumentException {
        if (!isWithin(year, 1, Dates.LAST_YEAR)) {
            throw new IllegalArgumentException("the year is out of range");
        }
        return Dates.hasLeapDay(year);
    }

    public long numberOf(int year, int month, int day) throws IllegalArgumentException {
        requireDate(year, month, day);
        return Dates.numberByYears(year, month, day);
    }

    public long numberByCounting(int year, int month, int day) throws IllegalArgumentException {
        requireDate(year, month, day);
        return Dates.numberOneByOne(year, month, day);
    }

    // Bells and pins.

    public int setSilence(int from, int to) throws IllegalArgumentException {
        if (!isHour(from) || !isHour(to)) {
            throw new IllegalArgumentException("an hour is out of range");
        }
        return bells.changeSilence(from, to);
    }

    public boolean setQuarters(boolean isOn) {
        return bells.changeQuarters(isOn);
    }

    public int addDrum() throws IllegalStateException {
        if (bells.drumCount() >= MOST_DRUMS) {
            throw new IllegalStateException("there are 4 drums");
        }
        return bells.makeDrum();
    }

    public boolean setPin(int drum, int step, int bell, boolean isSet)
            throws IndexOutOfBoundsException, IllegalArgumentException {
        Drum chosen = requireDrum(drum);
        if (!isWithin(step, 0, Drum.STEPS - 1) || !isWithin(bell, 1, Drum.LAST_BELL)) {
            throw new IllegalArgumentException("the step or the bell is out of range");
        }
        return chosen.changePin(step, bell, isSet);
    }

    public int pins(int drum) throws IndexOutOfBoundsException {
        return requireDrum(drum).pinCount();
    }

    public int bellAt(int drum, int index) throws IndexOutOfBoundsException, NoSuchElementException {
        Drum chosen = requireDrum(drum);
        if (!isWithin(index, 0, chosen.pinCount() - 1)) {
            throw new NoSuchElementException("there is no such pin");
        }
        return chosen.bellOfPin(index);
    }

    public int setTune(int hour, int drum) throws IllegalArgumentException, IndexOutOfBoundsException {
        if (!isHour(hour)) {
            throw new IllegalArgumentException("the hour is out of range");
        }
        Drum before = bells.changeTune(hour, drum == NO_TUNE ? null : requireDrum(drum));
        return before == null ? NO_TUNE : before.ownNumber();
    }

    public int strokes(int bell) throws IndexOutOfBoundsException {
        if (!isWithin(bell, 0, Drum.LAST_BELL)) {
            throw new IndexOutOfBoundsException("there is no such bell");
        }
        return bells.strokesOfBell(bell);
    }

    public int strikes() {
        return log.struckMarks();
    }

    public int markAt(int rank) throws NoSuchElementException {
        if (!isWithin(rank, 0, log.keptMarks() - 1)) {
            throw new NoSuchElementException("there is no such rank in the log");
        }
        return log.markOfRank(rank);
    }

    public int strokesAt(int mark) throws NoSuchElementException {
        int rank = log.rankOfMark(mark);
        if (rank < 0) {
            throw new NoSuchElementException("the mark is not in the log");
        }
        return log.strokesOfRank(rank);
    }

    public int strokesAhead(int beats) throws IllegalArgumentException {
        requireBeats(beats);
        return countByMinutes(beats);
    }

    public int strokesByBeats(int beats) throws IllegalArgumentException {
        requireBeats(beats);
        return countBySeconds(beats);
    }

    public float struckShare() throws ArithmeticException {
        int reached = hands.greatestMark();
        if (reached == 0) {
            throw new ArithmeticException("no mark but the mark 0 was reached");
        }
        return (float) log.struckMarks() / (float) reached;
    }

    public boolean isOnce() {
        int last = train.size() - 1;
        boolean holds = log.isFalling() && bells.strokesOfAllBells() == log.strokesOfAllStrikes();
        for (int i = 0; i < BEATS_FOUND_BOTH_WAYS.length; i++) {
            int beats = BEATS_FOUND_BOTH_WAYS[i];
            holds = holds && countByMinutes(beats) == countBySeconds(beats)
                    && train.movedByRatios(last, beatsPassed + beats) == train.movedByWalking(last, beatsPassed, beats);
        }
        return holds;
    }

    // What several calls need.

    private static boolean isWithin(int number, int least, int most) {
        return number >= least && number <= most;
    }

    private static boolean isHour(int number) {
        return isWithin(number, 0, 23);
    }

    private static int hourOf(int shown) {
        return Math.floorMod(Math.floorDiv(shown, HOUR), 24);
    }

    /** Divides and rounds down; no divisor in this class is ever less than 1, but none is used unseen. */
    private static long wholePart(long number, long divisor) {
        return divisor < 1 ? 0 : Math.floorDiv(number, divisor);
    }

    private void requireWheel(int wheel) {
        if (!isWithin(wheel, 0, train.size() - 1)) {
            throw new IndexOutOfBoundsException("there is no such wheel");
        }
    }

    private void requireBeats(int beats) {
        if (!isWithin(beats, 1, MOST_BEATS)) {
            throw new IllegalArgumentException("the number of beats is out of range");
        }
    }

    private void requireDate(int year, int month, int day) {
        if (!Dates.isDate(year, month, day)) {
            throw new IllegalArgumentException("there is no such date");
        }
    }

    private Drum requireDrum(int drum) {
        Drum found = bells.drumOrNull(drum);
        if (found == null) {
            throw new IndexOutOfBoundsException("there is no such drum");
        }
        return found;
    }

    private int wholeDaysShown() {
        return Math.floorDiv(hands.seconds(), DAY);
    }

    private long dateShown() {
        return dateOfShownZero + wholeDaysShown();
    }

    private int countByMinutes(int beats) {
        trialHands.copyFrom(hands);
        return goByMinutes(trialHands, pace.secondsOf(beats), false);
    }

    private int countBySeconds(int beats) {
        trialHands.copyFrom(hands);
        trialPace.copyFrom(pace);
        int strokes = 0;
        for (int beat = 0; beat < beats; beat++) {
            int seconds = trialPace.letPass(1);
            for (int second = 0; second < seconds; second++) {
                trialHands.addSeconds(1);
                strokes += trialHands.isFullMinute() ? comeToFullMinute(trialHands, false) : 0;
            }
        }
        return strokes;
    }

    private int goByMinutes(Hands walker, int seconds, boolean isReal) {
        int strokes = 0;
        int left = seconds;
        while (left > 0) {
            int leap = Math.max(1, Math.min(left, walker.secondsToFullMinute()));
            walker.addSeconds(leap);
            strokes += walker.isFullMinute() ? comeToFullMinute(walker, isReal) : 0;
            left -= leap;
        }
        return strokes;
    }

    /** Does what a second does that makes the number a multiple of 60; answers the strokes. */
    private int comeToFullMinute(Hands walker, boolean isReal) {
        int strokes = 0;
        if (walker.reachMark()) {
            strokes = isReal ? strike(walker) : bells.strokesDue(walker.seconds());
        }
        walker.correct();
        return strokes;
    }

    private int strike(Hands walker) {
        int strokes = bells.strokesDue(walker.seconds());
        // A mark that strikes has a stroke at least, so none means that it does not strike.
        if (strokes > 0) {
            bells.ring(walker.seconds());
            log.keep(walker.greatestMark(), strokes);
        }
        return strokes;
    }

    /** A wheel of the train; it is driven by the teeth of the wheel before it. */
    private static final class Wheel {
        private final int teeth;
        private final int leaves;
        private final int teethBefore;
        private final long movedBeforeAtStart;
        private long walkRest;

        Wheel(int teeth, int leaves, int teethBefore, long movedBeforeAtStart) {
            this.teeth = teeth;
            this.leaves = leaves;
            this.teethBefore = teethBefore;
            this.movedBeforeAtStart = movedBeforeAtStart;
        }

        int toothCount() {
            return teeth;
        }

        int leafCount() {
            return leaves;
        }

        long movedWhen(long movedBefore) {
            return wholePart((movedBefore - movedBeforeAtStart) * leaves, teethBefore);
        }

        /** Takes up what the wheel before it has driven, but this wheel has not yet shown as a tooth. */
        void startWalk(long movedBefore) {
            walkRest = (movedBefore - movedBeforeAtStart) * leaves - movedWhen(movedBefore) * teethBefore;
        }

        long walk(long teethOfBefore) {
            walkRest += teethOfBefore * leaves;
            long own = wholePart(walkRest, teethBefore);
            walkRest -= own * teethBefore;
            return own;
        }
    }

    /** The wheels; the beats drive the wheel 0 like a wheel before it, tooth by tooth. */
    private static final class Train {
        private final ArrayList<Wheel> wheels;

        Train() {
            wheels = new ArrayList<>();
            wheels.add(new Wheel(30, 1, 1, 0));
        }

        int size() {
            return wheels.size();
        }

        int add(int teeth, int leaves, long beats) {
            int number = wheels.size();
            wheels.add(new Wheel(teeth, leaves, teethOf(number - 1), movedByRatios(number - 1, beats)));
            return number;
        }

        long movedByRatios(int wheel, long beats) {
            long moved = beats;
            for (int i = 0; i <= wheel && i < wheels.size(); i++) {
                moved = wheels.get(i).movedWhen(moved);
            }
            return moved;
        }

        long turnsByRatios(int wheel, long beats) {
            return wholePart(movedByRatios(wheel, beats), teethOf(wheel));
        }

        double beatsOfTurn(int wheel) {
            double beats = 1.0;
            for (int i = 0; i <= wheel && i < wheels.size(); i++) {
                beats = beats * wheels.get(i).toothCount() / wheels.get(i).leafCount();
            }
            return beats;
        }

        long movedByWalking(int wheel, long beatsBefore, int beats) {
            long moved = startWalk(wheel, beatsBefore);
            for (int beat = 0; beat < beats; beat++) {
                moved += walkOneBeat(wheel);
            }
            return moved;
        }

        private long startWalk(int wheel, long beats) {
            long moved = beats;
            for (int i = 0; i <= wheel && i < wheels.size(); i++) {
                wheels.get(i).startWalk(moved);
                moved = wheels.get(i).movedWhen(moved);
            }
            return moved;
        }

        private long walkOneBeat(int wheel) {
            long teeth = 1;
            for (int i = 0; i <= wheel && i < wheels.size(); i++) {
                teeth = wheels.get(i).walk(teeth);
            }
            return teeth;
        }

        private int teethOf(int wheel) {
            return wheel >= 0 && wheel < wheels.size() ? wheels.get(wheel).toothCount() : 0;
        }
    }

    /** How long a beat takes, and the part of a second that is kept. */
    private static final class Pace {
        private int numerator;
        private int denominator;
        // Counted in parts of the denominator, so that nothing is ever rounded.
        private int rest;

        Pace() {
            numerator = 1;
            denominator = 1;
            rest = 0;
        }

        void copyFrom(Pace other) {
            numerator = other.numerator;
            denominator = other.denominator;
            rest = other.rest;
        }

        int change(int newNumerator, int newDenominator) {
            int before = numerator;
            numerator = newNumerator;
            denominator = newDenominator;
            rest = 0;
            return before;
        }

        int secondsOf(int beats) {
            return (int) wholePart(rest + numerator * beats, denominator);
        }

        int letPass(int beats) {
            int seconds = secondsOf(beats);
            rest += numerator * beats - seconds * denominator;
            return seconds;
        }
    }

    /** The number that is shown, what is owed to it, and the greatest mark that it has reached. */
    private static final class Hands {
        private int shown;
        private int owed;
        private int bound;
        private int reached;

        Hands() {
            shown = 0;
            owed = 0;
            bound = 5;
            reached = 0;
        }

        void copyFrom(Hands other) {
            shown = other.shown;
            owed = other.owed;
            bound = other.bound;
            reached = other.reached;
        }

        int seconds() {
            return shown;
        }

        int owedSeconds() {
            return owed;
        }

        int greatestMark() {
            return reached;
        }

        int addOwed(int seconds) {
            owed += seconds;
            return owed;
        }

        int changeBound(int seconds) {
            int before = bound;
            bound = seconds;
            return before;
        }

        int secondsToFullMinute() {
            return MINUTE - Math.floorMod(shown, MINUTE);
        }

        void addSeconds(int seconds) {
            shown += seconds;
        }

        boolean isFullMinute() {
            return shown % MINUTE == 0;
        }

        /** Answers whether the number shown now reaches a mark that none reached before. */
        boolean reachMark() {
            if (shown % QUARTER != 0 || shown / QUARTER <= reached) {
                return false;
            }
            reached = shown / QUARTER;
            return true;
        }

        void correct() {
            int change = Math.max(-bound, Math.min(bound, owed));
            shown += change;
            owed -= change;
        }
    }

    /** The dates and their numbers; the first day of the year 1 has the number 1. */
    private static final class Dates {
        static final int LAST_YEAR = 3000;
        private static final int[] DAYS_OF_MONTHS = {31, 28, 31, 30, 31, 30, 31, 31, 30, 31, 30, 31};
        private static final int[] DAYS_BEFORE_MONTHS = {0, 31, 59, 90, 120, 151, 181, 212, 243, 273, 304, 334};
        private static final int DAYS_OF_4_YEARS = 1461;
        private static final int DAYS_OF_100_YEARS = 36524;
        private static final int DAYS_OF_400_YEARS = 146097;

        static boolean hasLeapDay(int year) {
            return year % 4 == 0 && (year % 100 != 0 || year % 400 == 0);
        }

        static boolean isDate(int year, int month, int day) {
            return isWithin(year, 1, LAST_YEAR) && isWithin(month, 1, 12)
                    && isWithin(day, 1, daysOfMonth(year, month));
        }

        static long numberByYears(int year, int month, int day) {
            return daysBeforeYear(year) + daysBeforeMonth(year, month) + day;
        }

        static long numberOneByOne(int year, int month, int day) {
            long number = day;
            for (int y = 1; y < year; y++) {
                number += hasLeapDay(y) ? 366 : 365;
            }
            for (int m = 1; m < month; m++) {
                number += daysOfMonth(year, m);
            }
            return number;
        }

        static int weekdayOf(long number) {
            return (int) Math.floorMod(number - 1, 7L);
        }

        static int yearOf(long number) {
            long rest = number - 1;
            long fourHundreds = rest / DAYS_OF_400_YEARS;
            rest %= DAYS_OF_400_YEARS;
            // The last day of a 400 years' or a 4 years' span is one too many for the shorter spans in it.
            long hundreds = Math.min(3, rest / DAYS_OF_100_YEARS);
            rest -= hundreds * DAYS_OF_100_YEARS;
            long fours = rest / DAYS_OF_4_YEARS;
            rest %= DAYS_OF_4_YEARS;
            long ones = Math.min(3, rest / 365);
            return (int) (fourHundreds * 400 + hundreds * 100 + fours * 4 + ones + 1);
        }

        static int monthOf(long number) {
            int year = yearOf(number);
            long dayOfYear = number - daysBeforeYear(year);
            int month = 1;
            while (month < 12 && daysBeforeMonth(year, month + 1) < dayOfYear) {
                month++;
            }
            return month;
        }

        static int dayOf(long number) {
            int year = yearOf(number);
            return (int) (number - daysBeforeYear(year) - daysBeforeMonth(year, monthOf(number)));
        }

        private static int daysOfMonth(int year, int month) {
            if (!isWithin(month, 1, DAYS_OF_MONTHS.length)) {
                return 0;
            }
            return DAYS_OF_MONTHS[month - 1] + (month == 2 && hasLeapDay(year) ? 1 : 0);
        }

        private static int daysBeforeMonth(int year, int month) {
            if (!isWithin(month, 1, DAYS_BEFORE_MONTHS.length)) {
                return 0;
            }
            return DAYS_BEFORE_MONTHS[month - 1] + (month > 2 && hasLeapDay(year) ? 1 : 0);
        }

        private static long daysBeforeYear(int year) {
            long before = year - 1;
            return before * 365 + before / 4 - before / 100 + before / 400;
        }
    }

    /** A drum with its pins: for each step a bit for each bell. */
    private static final class Drum {
        static final int STEPS = 32;
        static final int LAST_BELL = 8;
        private final int number;
        private final int[] bellsOfSteps;
        private int pins;

        Drum(int number) {
            this.number = number;
            bellsOfSteps = new int[STEPS];
            pins = 0;
        }

        int ownNumber() {
            return number;
        }

        int pinCount() {
            return pins;
        }

        boolean changePin(int step, int bell, boolean isSet) {
            boolean wasSet = hasPin(step, bell);
            if (wasSet != isSet && step >= 0 && step < bellsOfSteps.length) {
                bellsOfSteps[step] ^= 1 << bell;
                pins += isSet ? 1 : -1;
            }
            return wasSet;
        }

        int bellOfPin(int index) {
            int left = index;
            for (int step = 0; step < STEPS; step++) {
                for (int bell = 1; bell <= LAST_BELL; bell++) {
                    if (hasPin(step, bell)) {
                        if (left == 0) {
                            return bell;
                        }
                        left--;
                    }
                }
            }
            return 0;
        }

        void play(int[] strokesOfBells) {
            for (int step = 0; step < STEPS; step++) {
                for (int bell = 1; bell <= LAST_BELL && bell < strokesOfBells.length; bell++) {
                    if (hasPin(step, bell)) {
                        strokesOfBells[bell]++;
                    }
                }
            }
        }

        private boolean hasPin(int step, int bell) {
            return step >= 0 && step < bellsOfSteps.length && (bellsOfSteps[step] >> bell & 1) == 1;
        }
    }

    /** The bells, with the drums and all that says when they strike. */
    private static final class Bells {
        private final ArrayList<Drum> drums;
        // For each hour its drum, or null without a tune.
        private final Drum[] tunes;
        private final int[] strokesOfBells;
        private int silentFrom;
        private int silentTo;
        private boolean areQuartersOn;

        Bells() {
            drums = new ArrayList<>();
            tunes = new Drum[24];
            strokesOfBells = new int[Drum.LAST_BELL + 1];
            silentFrom = 0;
            silentTo = 0;
            areQuartersOn = true;
        }

        int drumCount() {
            return drums.size();
        }

        int makeDrum() {
            int number = drums.size();
            drums.add(new Drum(number));
            return number;
        }

        Drum drumOrNull(int number) {
            return number >= 0 && number < drums.size() ? drums.get(number) : null;
        }

        Drum changeTune(int hour, Drum tune) {
            Drum before = tuneOrNull(hour);
            if (hour >= 0 && hour < tunes.length) {
                tunes[hour] = tune;
            }
            return before;
        }

        int changeSilence(int from, int to) {
            silentFrom = from;
            silentTo = to;
            return Math.floorMod(to - from, 24);
        }

        boolean changeQuarters(boolean isOn) {
            boolean before = areQuartersOn;
            areQuartersOn = isOn;
            return before;
        }

        int strokesOfBell(int bell) {
            return bell >= 0 && bell < strokesOfBells.length ? strokesOfBells[bell] : 0;
        }

        long strokesOfAllBells() {
            long sum = 0;
            for (int bell = 0; bell < strokesOfBells.length; bell++) {
                sum += strokesOfBells[bell];
            }
            return sum;
        }

        /** Answers the strokes of a mark that is reached at this number, 0 if it does not strike. */
        int strokesDue(int shown) {
            int hour = hourOf(shown);
            if (isSilent(hour)) {
                return 0;
            }
            int quarter = quarterOf(shown);
            if (quarter > 0) {
                return areQuartersOn ? quarter : 0;
            }
            Drum tune = tuneOrNull(hour);
            return strokesOfHour(hour) + (tune == null ? 0 : tune.pinCount());
        }

        /** Gives the bells the strokes of a mark that strikes at this number. */
        void ring(int shown) {
            int quarter = quarterOf(shown);
            if (quarter > 0) {
                strokesOfBells[1] += quarter;
                return;
            }
            int hour = hourOf(shown);
            strokesOfBells[0] += strokesOfHour(hour);
            Drum tune = tuneOrNull(hour);
            if (tune != null) {
                tune.play(strokesOfBells);
            }
        }

        private Drum tuneOrNull(int hour) {
            return hour >= 0 && hour < tunes.length ? tunes[hour] : null;
        }

        private boolean isSilent(int hour) {
            if (silentFrom <= silentTo) {
                return hour >= silentFrom && hour < silentTo;
            }
            return hour >= silentFrom || hour < silentTo;
        }

        private static int strokesOfHour(int hour) {
            return hour % 12 == 0 ? 12 : hour % 12;
        }

        private static int quarterOf(int shown) {
            return Math.floorMod(shown, HOUR) / QUARTER;
        }
    }

    /** The latest marks that struck, in a ring, and the sums over all that ever did. */
    private static final class StrikeLog {
        private static final int KEPT = 40;
        private final int[] marks;
        private final int[] strokesOfMarks;
        private int struck;
        private long allStrokes;

        StrikeLog() {
            marks = new int[KEPT];
            strokesOfMarks = new int[KEPT];
            struck = 0;
            allStrokes = 0;
        }

        void keep(int mark, int strokes) {
            struck++;
            allStrokes += strokes;
            marks[slotOf(0)] = mark;
            strokesOfMarks[slotOf(0)] = strokes;
        }

        int struckMarks() {
            return struck;
        }

        int keptMarks() {
            return Math.min(struck, KEPT);
        }

        long strokesOfAllStrikes() {
            return allStrokes;
        }

        int markOfRank(int rank) {
            return marks[slotOf(rank)];
        }

        int strokesOfRank(int rank) {
            return strokesOfMarks[slotOf(rank)];
        }

        int rankOfMark(int mark) {
            for (int rank = 0; rank < keptMarks(); rank++) {
                if (markOfRank(rank) == mark) {
                    return rank;
                }
            }
            return -1;
        }

        boolean isFalling() {
            for (int rank = 1; rank < keptMarks(); rank++) {
                if (markOfRank(rank) >= markOfRank(rank - 1)) {
                    return false;
                }
            }
            return true;
        }

        /** Answers the place of a rank in the rows, which is one of them for any rank at all. */
        private int slotOf(int rank) {
            return Math.floorMod(struck - 1 - rank, KEPT);
        }
    }
}
