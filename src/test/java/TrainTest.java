/** Promises 1 to 8: a new object, and the train. */
public final class TrainTest {
    private static final Class<IllegalArgumentException> ARGUMENT = IllegalArgumentException.class;
    private static final Class<IllegalStateException> STATE = IllegalStateException.class;
    private static final Class<IndexOutOfBoundsException> INDEX = IndexOutOfBoundsException.class;

    public static void main(String[] args) {
        promise1();
        promise2();
        promise3();
        promise4();
        promise4FarOn();
        promise5();
        promise6();
        promise7And8();
        promise7And8FarOn();
        Check.end("TrainTest");
    }

    private static void promise1() {
        MinsterClock clock = new MinsterClock();
        Check.same("new: wheels", clock.wheels(), 1);
        Check.same("new: moved", clock.moved(0), 0);
        Check.same("new: beats", clock.beats(), 0L);
        Check.same("new: shown", clock.shown(), 0);
        Check.same("new: hour", clock.hour(), 0);
        Check.same("new: minute", clock.minute(), 0);
        Check.same("new: year", clock.year(), 2000);
        Check.same("new: month", clock.month(), 1);
        Check.same("new: day", clock.day(), 1);
        Check.same("new: weekday, a Saturday", clock.weekday(), 5);
        Check.same("new: nothing is owed", clock.owe(0), 0);
        Check.same("new: the bound", clock.setBound(5), 5);
        Check.same("new: the quarters", clock.setQuarters(true), true);
        Check.same("new: strikes", clock.strikes(), 0);
        for (int bell = 0; bell <= 8; bell++) {
            Check.same("new: strokes of " + bell, clock.strokes(bell), 0);
        }
        for (int hour = 0; hour < 24; hour++) {
            Check.same("new: tune of " + hour, clock.setTune(hour, -1), -1);
        }
        Check.fails("new: no drum", INDEX, () -> clock.pins(0));
        Check.same("new: a beat passes", clock.pass(1), 0);
        Check.same("new: a beat is a second", clock.shown(), 1);
        Check.same("new: 7 beats are 7 seconds", clock.pass(6) + clock.shown(), 7);
        Check.same("new: the numerator", clock.setBeat(1, 1), 1);
        Check.same("new: the hour 0 strikes its quarters, so none is silent", clock.pass(893), 1);
    }

    private static void promise2() {
        MinsterClock clock = new MinsterClock();
        int[][] wrong = {{5, 6}, {121, 6}, {6, 5}, {6, 25}, {0, 0}, {-6, 6}, {6, -6},
            {Integer.MIN_VALUE, 10}, {10, Integer.MAX_VALUE}};
        for (int[] pair : wrong) {
            Check.fails("addWheel " + pair[0] + " " + pair[1], ARGUMENT, () -> clock.addWheel(pair[0], pair[1]));
        }
        Check.same("a wrong wheel is not added", clock.wheels(), 1);
        Check.same("addWheel, least", clock.addWheel(6, 6), 1);
        Check.same("addWheel, most", clock.addWheel(120, 24), 2);
        Check.same("addWheel, mixed", clock.addWheel(6, 24), 3);
        Check.same("addWheel, mixed", clock.addWheel(120, 6), 4);
        Check.same("addWheel, the sixth", clock.addWheel(64, 8), 5);
        Check.fails("addWheel, one too many", STATE, () -> clock.addWheel(64, 8));
        Check.fails("addWheel, wrong and one too many", ARGUMENT, () -> clock.addWheel(5, 8));
        Check.fails("addWheel, wrong and one too many", ARGUMENT, () -> clock.addWheel(64, 25));
        Check.same("six wheels stay", clock.wheels(), 6);
    }

    private static void promise3() {
        MinsterClock clock = new MinsterClock();
        for (int wheels = 1; wheels <= 6; wheels++) {
            Check.same("wheels", clock.wheels(), wheels);
            if (wheels < 6) {
                clock.addWheel(20, 10);
            }
        }
        MinsterClock other = new MinsterClock();
        Check.same("wheels of another clock", other.wheels(), 1);
    }

    private static void promise4() {
        MinsterClock clock = new MinsterClock();
        clock.pass(7);
        clock.addWheel(60, 10);
        Check.same("moved when just added", clock.moved(1), 0);
        clock.pass(2);
        Check.same("moved: 2 * 10 / 30", clock.moved(1), 0);
        clock.pass(1);
        Check.same("moved: 3 * 10 / 30", clock.moved(1), 1);
        Check.same("moved: wheel 0", clock.moved(0), 10);
        clock.pass(599);
        Check.same("moved: 602 * 10 / 30", clock.moved(1), 200);
        clock.addWheel(12, 8);
        clock.pass(29);
        // The wheel 1: (602 + 29) * 10 / 30 = 210; the wheel 2: (210 - 200) * 8 / 60 = 1.
        Check.same("moved: wheel 1", clock.moved(1), 210);
        Check.same("moved: wheel 2", clock.moved(2), 1);
        Check.fails("moved(-1)", INDEX, () -> clock.moved(-1));
        Check.fails("moved(3)", INDEX, () -> clock.moved(3));
        Check.fails("moved(least)", INDEX, () -> clock.moved(Integer.MIN_VALUE));
        Check.fails("moved(most)", INDEX, () -> clock.moved(Integer.MAX_VALUE));
        // Each wheel rounds down by itself: 8 * 7 / 30 = 1, so the next has 1 * 24 / 6 = 4, not 8 * 7 * 24 / 180 = 7.
        MinsterClock rounding = new MinsterClock();
        rounding.addWheel(6, 7);
        rounding.addWheel(6, 24);
        int[] due = {0, 0, 0, 0, 4, 4, 4, 4, 8};
        for (int beat = 0; beat < due.length; beat++) {
            rounding.pass(1);
            Check.same("moved: wheel 2 behind " + (beat + 1) + " beats", rounding.moved(2), due[beat]);
        }
        // A length of the beat does not touch the train.
        rounding.setBeat(1, 20);
        rounding.pass(21);
        Check.same("moved: beats count, not seconds", rounding.moved(0), 30);
        Check.same("moved: beats count, not seconds", rounding.moved(1), 7);
    }

    /** The fastest train that there is: products here are greater than an int. */
    private static MinsterClock fastClock() {
        MinsterClock clock = new MinsterClock();
        for (int i = 0; i < 5; i++) {
            clock.addWheel(6, 24);
        }
        clock.setBeat(1, 20);
        for (int i = 0; i < 490; i++) {
            clock.pass(5000);
        }
        return clock;
    }

    private static void promise4FarOn() {
        MinsterClock clock = fastClock();
        Check.same("far on: wheel 0", clock.moved(0), 2450000);
        Check.same("far on: wheel 1", clock.moved(1), 1960000);
        Check.same("far on: wheel 2", clock.moved(2), 7840000);
        Check.same("far on: wheel 5", clock.moved(5), 501760000);
        Check.same("far on: turns of wheel 5", clock.wholeTurns(5), 83626666);
        Check.same("far on: ahead", clock.movedAhead(5, 5000), 502784000);
        Check.same("far on: by beats", clock.movedByBeats(5, 5000), 502784000);
        Check.same("far on: isOnce", clock.isOnce(), true);
    }

    private static void promise5() {
        MinsterClock clock = new MinsterClock();
        clock.addWheel(60, 10);
        Check.same("wholeTurns at first", clock.wholeTurns(0), 0);
        clock.pass(29);
        Check.same("wholeTurns: 29 / 30", clock.wholeTurns(0), 0);
        clock.pass(1);
        Check.same("wholeTurns: 30 / 30", clock.wholeTurns(0), 1);
        clock.pass(149);
        Check.same("wholeTurns: 59 / 60", clock.wholeTurns(1), 0);
        clock.pass(1);
        Check.same("wholeTurns: 60 / 60", clock.wholeTurns(1), 1);
        clock.pass(420);
        Check.same("wholeTurns: 600 / 30", clock.wholeTurns(0), 20);
        Check.same("wholeTurns: 200 / 60", clock.wholeTurns(1), 3);
        Check.fails("wholeTurns(-1)", INDEX, () -> clock.wholeTurns(-1));
        Check.fails("wholeTurns(2)", INDEX, () -> clock.wholeTurns(2));
    }

    private static void promise6() {
        MinsterClock clock = new MinsterClock();
        Check.same("beatsForTurn(0)", clock.beatsForTurn(0), 30.0);
        Check.fails("beatsForTurn(1)", INDEX, () -> clock.beatsForTurn(1));
        Check.fails("beatsForTurn(-1)", INDEX, () -> clock.beatsForTurn(-1));
        clock.addWheel(60, 10);
        clock.addWheel(64, 8);
        clock.addWheel(6, 24);
        Check.same("beatsForTurn: 30 * 60 / 10", clock.beatsForTurn(1), 180.0);
        Check.same("beatsForTurn: 180 * 64 / 8", clock.beatsForTurn(2), 1440.0);
        Check.same("beatsForTurn: 1440 * 6 / 24", clock.beatsForTurn(3), 360.0);
        clock.pass(123);
        Check.same("beatsForTurn stays", clock.beatsForTurn(3), 360.0);
        MinsterClock odd = new MinsterClock();
        odd.addWheel(119, 11);
        odd.addWheel(113, 13);
        odd.addWheel(107, 17);
        odd.addWheel(103, 19);
        odd.addWheel(101, 23);
        double turn = 30.0;
        int[][] wheels = {{119, 11}, {113, 13}, {107, 17}, {103, 19}, {101, 23}};
        for (int i = 0; i < wheels.length; i++) {
            turn = turn * wheels[i][0];
            turn = turn / wheels[i][1];
            Check.same("beatsForTurn, odd, wheel " + (i + 1), odd.beatsForTurn(i + 1), turn);
        }
        // All 2185 pairs, so that one is among them in which another order would round otherwise.
        for (int teeth = 6; teeth <= 120; teeth++) {
            for (int leaves = 6; leaves <= 24; leaves++) {
                MinsterClock pair = new MinsterClock();
                pair.addWheel(teeth, leaves);
                Check.same("beatsForTurn " + teeth + " " + leaves, pair.beatsForTurn(1), 30.0 * teeth / leaves);
            }
        }
    }

    private static void promise7And8() {
        MinsterClock clock = new MinsterClock();
        Check.fails("movedAhead(1, 5)", INDEX, () -> clock.movedAhead(1, 5));
        Check.fails("movedByBeats(1, 5)", INDEX, () -> clock.movedByBeats(1, 5));
        Check.fails("movedAhead(1, 0)", INDEX, () -> clock.movedAhead(1, 0));
        Check.fails("movedByBeats(-1, 5001)", INDEX, () -> clock.movedByBeats(-1, 5001));
        int[] wrong = {0, -1, 5001, Integer.MIN_VALUE, Integer.MAX_VALUE};
        for (int beats : wrong) {
            Check.fails("movedAhead(0, " + beats + ")", ARGUMENT, () -> clock.movedAhead(0, beats));
            Check.fails("movedByBeats(0, " + beats + ")", ARGUMENT, () -> clock.movedByBeats(0, beats));
        }
        clock.pass(4);
        clock.addWheel(60, 10);
        clock.pass(4);
        clock.addWheel(7, 11);
        // Behind 4 + 4 + n beats the wheel 1 has (4 + n) * 10 / 30, and the wheel 2 that less 1, times 11, / 60.
        Check.same("movedAhead: wheel 0", clock.movedAhead(0, 1), 9);
        Check.same("movedByBeats: wheel 0", clock.movedByBeats(0, 1), 9);
        Check.same("movedAhead: wheel 1, 1 beat", clock.movedAhead(1, 1), 1);
        Check.same("movedByBeats: wheel 1, 1 beat", clock.movedByBeats(1, 1), 1);
        Check.same("movedAhead: wheel 1, 2 beats", clock.movedAhead(1, 2), 2);
        Check.same("movedByBeats: wheel 1, 2 beats", clock.movedByBeats(1, 2), 2);
        Check.same("movedAhead: wheel 1, 5000 beats", clock.movedAhead(1, 5000), 1668);
        Check.same("movedByBeats: wheel 1, 5000 beats", clock.movedByBeats(1, 5000), 1668);
        Check.same("movedAhead: wheel 2, 5000 beats", clock.movedAhead(2, 5000), 305);
        Check.same("movedByBeats: wheel 2, 5000 beats", clock.movedByBeats(2, 5000), 305);
        Check.same("what is asked ahead does not happen", clock.beats(), 8L);
        Check.same("what is asked ahead does not happen", clock.moved(1), 1);
        Check.same("what is asked ahead does not happen", clock.moved(2), 0);
        clock.pass(4999);
        clock.pass(1);
        Check.same("moved is what was found ahead", clock.moved(2), 305);
    }

    private static void promise7And8FarOn() {
        for (int beats = 1; beats <= 60; beats++) {
            MinsterClock clock = oddTrain();
            MinsterClock later = oddTrain();
            later.pass(beats);
            for (int wheel = 0; wheel < 6; wheel++) {
                int ahead = clock.movedAhead(wheel, beats);
                Check.same("both ways, wheel " + wheel, clock.movedByBeats(wheel, beats), ahead);
                Check.same("later, wheel " + wheel, later.moved(wheel), ahead);
            }
        }
    }

    private static MinsterClock oddTrain() {
        MinsterClock clock = new MinsterClock();
        int[][] wheels = {{7, 23}, {11, 19}, {6, 24}, {13, 17}, {9, 22}};
        for (int[] wheel : wheels) {
            clock.pass(37);
            clock.addWheel(wheel[0], wheel[1]);
        }
        return clock;
    }
}
