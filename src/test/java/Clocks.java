/** Clocks that several tests begin with, and short ways to ask them. */
final class Clocks {
    private Clocks() {
    }

    /** A clock of which each call pass(45) brings one mark. */
    static MinsterClock byMarks() {
        MinsterClock clock = new MinsterClock();
        clock.setBeat(20, 1);
        return clock;
    }

    /** A clock that shows a number and has struck up to it; a beat takes 1 second, and no part of one is kept. */
    static MinsterClock at(int seconds) {
        MinsterClock clock = byMarks();
        int left = seconds / 20;
        while (left > 0) {
            int beats = Math.min(5000, left);
            clock.pass(beats);
            left -= beats;
        }
        clock.setBeat(1, 1);
        if (seconds % 20 > 0) {
            clock.pass(seconds % 20);
        }
        return clock;
    }

    /** A clock that has struck its first marks, all of them. */
    static MinsterClock struck(int marks) {
        MinsterClock clock = byMarks();
        for (int left = 45 * marks; left > 0; left -= 4500) {
            clock.pass(Math.min(left, 4500));
        }
        return clock;
    }

    /** A clock with as many wheels as are wanted, each alike. */
    static MinsterClock withWheels(int wheels) {
        MinsterClock clock = new MinsterClock();
        for (int wheel = 1; wheel < wheels; wheel++) {
            clock.addWheel(60, 10);
        }
        return clock;
    }

    static MinsterClock withDrums(int drums) {
        MinsterClock clock = new MinsterClock();
        for (int drum = 0; drum < drums; drum++) {
            clock.addDrum();
        }
        return clock;
    }

    /** A clock on which a full hour strikes most: each hour of the day plays a drum with all pins. */
    static MinsterClock loudest() {
        MinsterClock clock = withDrums(1);
        fill(clock, 0);
        for (int hour = 0; hour <= 23; hour++) {
            clock.setTune(hour, 0);
        }
        return clock;
    }

    static void fill(MinsterClock clock, int drum) {
        for (int step = 0; step <= 31; step++) {
            for (int bell = 1; bell <= 8; bell++) {
                clock.setPin(drum, step, bell, true);
            }
        }
    }

    /** A clock that owes a number of seconds, as much as 3600 forward or back. */
    static MinsterClock owing(int seconds) {
        MinsterClock clock = new MinsterClock();
        int left = seconds;
        while (left != 0) {
            int part = Math.max(-600, Math.min(600, left));
            clock.owe(part);
            left -= part;
        }
        return clock;
    }

    /** Changes all that can be changed, so that whatever a call spoils can be seen. */
    static void live(MinsterClock clock) {
        clock.addWheel(61, 7);
        clock.pass(13);
        clock.addWheel(17, 23);
        clock.addDrum();
        clock.addDrum();
        clock.setPin(0, 0, 1, true);
        clock.setPin(0, 31, 8, true);
        clock.setPin(0, 5, 3, true);
        clock.setPin(1, 7, 2, true);
        clock.setTune(0, 1);
        clock.setTune(13, 0);
        clock.setTune(23, 0);
        clock.setBeat(20, 1);
        clock.pass(45 * 70);
        clock.setSilence(22, 6);
        clock.setQuarters(false);
        clock.setDate(2024, 2, 28);
        clock.setBound(7);
        clock.owe(-40);
        clock.setBeat(7, 20);
        clock.pass(2);
    }

    static int shownBehind(MinsterClock clock, int beats) {
        clock.pass(beats);
        return clock.shown();
    }

    static String time(MinsterClock clock) {
        return clock.hour() + ":" + clock.minute();
    }

    static String date(MinsterClock clock) {
        return clock.year() + "-" + clock.month() + "-" + clock.day() + " " + clock.weekday();
    }
}
