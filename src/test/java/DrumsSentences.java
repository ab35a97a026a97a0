import java.util.NoSuchElementException;

/** The sentences about drums, pins and tunes: promises 27 to 31, and the paragraph 'Tunes'. */
final class DrumsSentences {
    private static final Class<IllegalArgumentException> ARGUMENT = IllegalArgumentException.class;
    private static final Class<IllegalStateException> STATE = IllegalStateException.class;
    private static final Class<IndexOutOfBoundsException> INDEX = IndexOutOfBoundsException.class;
    private static final Class<NoSuchElementException> ELEMENT = NoSuchElementException.class;
    private static final int[] FAR = {Integer.MIN_VALUE, Integer.MAX_VALUE};
    private static final String NO_DRUM = "Throws `IndexOutOfBoundsException` if there is no such drum";
    private static final String DRUM = "`drum`: the number of the drum";
    private static final String PINS = "A drum has pins; a pin has a step from 0 to 31 and a bell from 1 to 8.";

    /** A question about a drum. */
    private interface Question {
        Object ask(MinsterClock clock, int drum);
    }

    private DrumsSentences() {
    }

    static void test(Sentences s) {
        s.terms(27, "At most 4 drums exist, numbered from 0.", DrumsSentences::atMost4Drums);
        s.terms(28, PINS, DrumsSentences::stepsAndBells);
        s.terms(28, PINS, DrumsSentences::allPinsOfADrum);
        s.terms(32, "When its tune is played, each pin gives its bell one stroke.", DrumsSentences::oneStrokeEach);
        s.promise(27, "Adds a drum without pins.", DrumsSentences::withoutPins);
        s.promise(27, "Returns the number of the drum.", DrumsSentences::numberOfAddedDrum);
        s.promise(27, "Throws `IllegalStateException` if there are 4 drums", DrumsSentences::fifthDrum);
        testPins(s);
        s.promise(30, "Returns the bell of a pin of a drum, the pins being ordered by steps, and those of the same step"
                + " by bells.", DrumsSentences::orderOfPins);
        s.promise(30, DRUM, DrumsSentences::bellsOfDrums);
        s.promise(30, "`index`: the index in this order, from 0", DrumsSentences::indexes);
        s.promise(30, "Returns the bell.", DrumsSentences::bellsOfPins);
        s.promise(30, NO_DRUM, () -> noSuchDrum("bellAt", (clock, drum) -> clock.bellAt(drum, 0)));
        s.promise(30, "Throws `NoSuchElementException` if there is no such pin", DrumsSentences::noSuchPin);
        s.promise(31, "Sets the tune for an hour of the day.", DrumsSentences::setsTheTune);
        s.promise(31, "`hour`: the hour, 0 to 23", DrumsSentences::hoursOfTunes);
        s.promise(31, "`drum`: the number of the drum, or -1 for no tune", DrumsSentences::drumsOfTunes);
        s.promise(31, "Returns the number of the drum before, or -1 without a tune.", DrumsSentences::drumBefore);
        s.promise(31, "Throws `IllegalArgumentException` if the hour is out of range", DrumsSentences::noHour);
        s.promise(31, "Throws `IndexOutOfBoundsException` if the drum is neither -1 nor the number of one",
                DrumsSentences::noDrumForTune);
    }

    private static void testPins(Sentences s) {
        s.promise(28, "Sets or takes away a pin.", DrumsSentences::setsOrTakesAway);
        s.promise(28, DRUM, DrumsSentences::drumOfThePin);
        s.promise(28, "`step`: the step", DrumsSentences::stepsOfPins);
        s.promise(28, "`bell`: the bell", DrumsSentences::bellsOfAStep);
        s.promise(28, "`isSet`: whether the pin is there from now on", DrumsSentences::thereFromNowOn);
        s.promise(28, "Returns whether it was there before.", DrumsSentences::wasThereBefore);
        s.promise(28, NO_DRUM, () -> {
            noSuchDrum("setPin", (clock, drum) -> clock.setPin(drum, 0, 1, true));
            noSuchDrum("setPin away", (clock, drum) -> clock.setPin(drum, 0, 1, false));
        });
        s.promise(28, "Throws `IllegalArgumentException` if the step or the bell is out of range",
                DrumsSentences::noStepOrBell);
        s.promise(29, "Returns the number of pins of a drum.", DrumsSentences::pinsAsTheyAre);
        s.promise(29, DRUM, DrumsSentences::pinsOfDrums);
        s.promise(29, "Returns the number of pins.", DrumsSentences::numberOfPins);
        s.promise(29, NO_DRUM, () -> noSuchDrum("pins", MinsterClock::pins));
    }

    private static void atMost4Drums() {
        MinsterClock clock = new MinsterClock();
        for (int drum = 0; drum <= 3; drum++) {
            int next = drum;
            Check.fails("no drum " + drum + " yet", INDEX, () -> clock.pins(next));
            Check.same("the drum " + drum, clock.addDrum(), drum);
            Check.same("it exists", clock.pins(drum), 0);
        }
        Check.fails("a fifth", STATE, clock::addDrum);
        Check.fails("no drum 4", INDEX, () -> clock.pins(4));
        Check.fails("no drum -1", INDEX, () -> clock.pins(-1));
    }

    private static void stepsAndBells() {
        MinsterClock clock = Clocks.withDrums(1);
        int[][] right = {{0, 1}, {0, 8}, {31, 1}, {31, 8}, {1, 2}, {30, 7}};
        for (int[] pin : right) {
            Check.same("step " + pin[0] + ", bell " + pin[1], clock.setPin(0, pin[0], pin[1], true), false);
        }
        Check.same("all of them", clock.pins(0), right.length);
        int[][] wrong = {{-1, 1}, {32, 1}, {0, 0}, {0, 9}, {-1, 8}, {32, 8}, {31, 0}, {31, 9}};
        for (int[] pin : wrong) {
            Check.fails("step " + pin[0] + ", bell " + pin[1], ARGUMENT, () -> clock.setPin(0, pin[0], pin[1], true));
            Check.fails("step " + pin[0] + ", bell " + pin[1] + " away", ARGUMENT,
                    () -> clock.setPin(0, pin[0], pin[1], false));
        }
        Check.same("no more", clock.pins(0), right.length);
    }

    /** Each pin of a full drum is one of its own: taking one away leaves all others. */
    private static void allPinsOfADrum() {
        for (int[] gone : new int[][] {{0, 1}, {0, 8}, {31, 1}, {31, 8}, {15, 4}}) {
            MinsterClock clock = Clocks.withDrums(1);
            Clocks.fill(clock, 0);
            Check.same("a full drum", clock.pins(0), 256);
            Check.same("taken away", clock.setPin(0, gone[0], gone[1], false), true);
            int left = 0;
            for (int step = 0; step <= 31; step++) {
                for (int bell = 1; bell <= 7; bell++) {
                    boolean isGone = step == gone[0] && bell == gone[1];
                    Check.same("step " + step + ", bell " + bell, clock.setPin(0, step, bell, !isGone), !isGone);
                    left += isGone ? 0 : 1;
                }
            }
            Check.same("the others are left", clock.pins(0), left + (gone[1] == 8 ? 31 : 32));
        }
    }

    private static void oneStrokeEach() {
        MinsterClock none = Clocks.withDrums(1);
        none.setTune(1, 0);
        none.setQuarters(false);
        Check.same("no pin, no stroke but the hour's", none.pass(3600), 1);
        Check.same("the log", none.strokesAt(4), 1);
        none.setPin(0, 31, 8, true);
        none.setTune(2, 0);
        Check.same("one pin", none.pass(3600), 2 + 1);
        Check.same("its bell", none.strokes(8), 1);
        MinsterClock full = Clocks.withDrums(1);
        full.setTune(1, 0);
        Clocks.fill(full, 0);
        full.setQuarters(false);
        Check.same("all pins", full.pass(3600), 1 + 256);
        Check.same("the log", full.strokesAt(4), 257);
        for (int bell = 1; bell <= 8; bell++) {
            Check.same("the bell " + bell + ", a stroke for each step", full.strokes(bell), 32);
        }
        Check.same("the bell 0 has no pin", full.strokes(0), 1);
        MinsterClock two = Clocks.withDrums(2);
        two.setPin(0, 0, 2, true);
        two.setPin(0, 1, 2, true);
        two.setPin(1, 0, 3, true);
        two.setTune(1, 0);
        two.setTune(2, 1);
        two.pass(3600);
        Check.same("two pins of a bell", two.strokes(2) + " " + two.strokes(3), "2 0");
        two.setPin(0, 1, 2, false);
        two.pass(3600);
        Check.same("the other drum", two.strokes(2) + " " + two.strokes(3), "2 1");
    }

    private static void withoutPins() {
        MinsterClock clock = new MinsterClock();
        for (int drum = 0; drum <= 3; drum++) {
            clock.addDrum();
            int added = drum;
            Check.same("pins of " + drum, clock.pins(drum), 0);
            Check.fails("the first pin of " + drum, ELEMENT, () -> clock.bellAt(added, 0));
            clock.setPin(drum, 0, 1, true);
            Check.same("a pin of its own", clock.pins(drum), 1);
        }
    }

    private static void numberOfAddedDrum() {
        MinsterClock clock = new MinsterClock();
        for (int drum = 0; drum <= 3; drum++) {
            Check.same("the next drum", clock.addDrum(), drum);
        }
        Check.same("another clock counts by itself", new MinsterClock().addDrum(), 0);
    }

    private static void fifthDrum() {
        MinsterClock clock = Clocks.withDrums(3);
        Check.same("with 3 drums one is added", clock.addDrum(), 3);
        Check.fails("with 4 none", STATE, clock::addDrum);
        Check.fails("nor later", STATE, clock::addDrum);
        Twins.refuses("a fifth drum", four -> {
            Clocks.live(four);
            four.addDrum();
            four.addDrum();
        }, STATE, MinsterClock::addDrum);
    }

    private static void setsOrTakesAway() {
        MinsterClock clock = Clocks.withDrums(1);
        clock.setQuarters(false);
        clock.setTune(1, 0);
        clock.setTune(2, 0);
        clock.setTune(3, 0);
        clock.setPin(0, 4, 6, true);
        clock.setPin(0, 5, 7, true);
        Check.same("set", clock.pins(0) + " " + clock.bellAt(0, 0) + " " + clock.bellAt(0, 1), "2 6 7");
        Check.same("they are played, though the tune was set before them", clock.pass(3600), 1 + 2);
        clock.setPin(0, 4, 6, false);
        Check.same("taken away", clock.pins(0) + " " + clock.bellAt(0, 0), "1 7");
        Check.same("only the other one is played", clock.pass(3600), 2 + 1);
        clock.setPin(0, 4, 6, true);
        Check.same("set anew", clock.pins(0) + " " + clock.bellAt(0, 0) + " " + clock.bellAt(0, 1), "2 6 7");
        Check.same("they are played", clock.pass(3600), 3 + 2);
        Check.same("the bells", clock.strokes(6) + " " + clock.strokes(7), "2 3");
    }

    private static void drumOfThePin() {
        for (int chosen = 0; chosen <= 3; chosen++) {
            MinsterClock clock = Clocks.withDrums(4);
            Check.same("not there yet", clock.setPin(chosen, 9, 4, true), false);
            for (int drum = 0; drum <= 3; drum++) {
                Check.same("set on " + chosen + ", pins of " + drum, clock.pins(drum), drum == chosen ? 1 : 0);
                Check.same("set on " + chosen + ", on " + drum, clock.setPin(drum, 9, 4, true), drum == chosen);
            }
            clock.setPin(chosen, 9, 4, false);
            for (int drum = 0; drum <= 3; drum++) {
                Check.same("taken from " + chosen + ", pins of " + drum, clock.pins(drum), drum == chosen ? 0 : 1);
            }
        }
    }

    private static void stepsOfPins() {
        MinsterClock clock = Clocks.withDrums(1);
        for (int step = 31; step >= 0; step--) {
            Check.same("step " + step, clock.setPin(0, step, 1 + step % 8, true), false);
            Check.same("it comes before those of later steps", clock.bellAt(0, 0), 1 + step % 8);
        }
        for (int step = 0; step <= 31; step++) {
            Check.same("the pin of step " + step, clock.bellAt(0, step), 1 + step % 8);
        }
        MinsterClock same = Clocks.withDrums(1);
        for (int step = 0; step <= 31; step++) {
            Check.same("the same bell, step " + step, same.setPin(0, step, 4, true), false);
            Check.same("with a pin for each step", same.pins(0), step + 1);
        }
        for (int step = 0; step <= 31; step++) {
            Check.same("taken from step " + step, same.setPin(0, step, 4, false), true);
            Check.same("those of other steps are left", same.pins(0), 31 - step);
        }
    }

    private static void bellsOfAStep() {
        MinsterClock clock = Clocks.withDrums(1);
        clock.setQuarters(false);
        clock.setTune(1, 0);
        for (int bell = 8; bell >= 2; bell -= 2) {
            Check.same("bell " + bell, clock.setPin(0, 17, bell, true), false);
            Check.same("it comes before those of greater bells", clock.bellAt(0, 0), bell);
        }
        clock.pass(3600);
        for (int bell = 1; bell <= 8; bell++) {
            Check.same("the strokes of bell " + bell, clock.strokes(bell), bell % 2 == 0 ? 1 : 0);
            Check.same("bell " + bell + " was there", clock.setPin(0, 17, bell, false), bell % 2 == 0);
        }
        Check.same("none is left", clock.pins(0), 0);
    }

    private static void thereFromNowOn() {
        MinsterClock clock = Clocks.withDrums(1);
        clock.setPin(0, 3, 2, true);
        clock.setPin(0, 3, 2, true);
        Check.same("set twice, there once", clock.pins(0), 1);
        clock.pass(3600);
        clock.pass(3600);
        Check.same("still there, hours later", clock.setPin(0, 3, 2, true), true);
        clock.setPin(0, 3, 2, false);
        clock.setPin(0, 3, 2, false);
        Check.same("taken away twice", clock.pins(0), 0);
        Check.fails("no pin any more", ELEMENT, () -> clock.bellAt(0, 0));
        clock.setPin(0, 3, 2, true);
        Check.same("there again after one call", clock.pins(0) + " " + clock.bellAt(0, 0), "1 2");
    }

    private static void pinsAsTheyAre() {
        MinsterClock clock = Clocks.withDrums(1);
        for (int step = 0; step <= 31; step++) {
            clock.setPin(0, step, 1 + step / 4, true);
            Check.same("with each pin one more", clock.pins(0), step + 1);
        }
        Check.same("asking changes none", clock.pins(0), 32);
        clock.setTune(1, 0);
        clock.pass(3600);
        Check.same("nor does playing", clock.pins(0), 32);
        clock.setTune(1, -1);
        Check.same("nor taking the tune away", clock.pins(0), 32);
        for (int step = 0; step <= 31; step++) {
            clock.setPin(0, step, 1 + step / 4, false);
            Check.same("one less with each that is taken away", clock.pins(0), 31 - step);
        }
    }

    /** Four drums, of which each has one pin more than the one before it, all of a bell of their own. */
    private static MinsterClock unlikeDrums() {
        MinsterClock clock = Clocks.withDrums(4);
        for (int drum = 0; drum <= 3; drum++) {
            for (int step = 0; step <= drum; step++) {
                clock.setPin(drum, step, 8 - drum, true);
            }
        }
        return clock;
    }

    private static void pinsOfDrums() {
        MinsterClock clock = unlikeDrums();
        for (int drum = 0; drum <= 3; drum++) {
            Check.same("the drum " + drum, clock.pins(drum), drum + 1);
        }
        for (int drum = 3; drum >= 0; drum--) {
            Check.same("the drum " + drum + " once more", clock.pins(drum), drum + 1);
        }
    }

    private static void bellsOfDrums() {
        MinsterClock clock = unlikeDrums();
        for (int drum = 0; drum <= 3; drum++) {
            int asked = drum;
            Check.same("the first of the drum " + drum, clock.bellAt(drum, 0), 8 - drum);
            Check.same("the last of the drum " + drum, clock.bellAt(drum, drum), 8 - drum);
            Check.fails("no more of the drum " + drum, ELEMENT, () -> clock.bellAt(asked, asked + 1));
        }
    }

    private static void setsTheTune() {
        MinsterClock clock = Clocks.withDrums(2);
        clock.setQuarters(false);
        clock.setPin(0, 0, 2, true);
        clock.setPin(1, 0, 3, true);
        clock.setPin(1, 1, 3, true);
        clock.setTune(1, 0);
        clock.setTune(1, 1);
        clock.setTune(3, 0);
        Check.same("setting plays nothing", clock.strokes(2) + clock.strokes(3), 0);
        Check.same("the latest drum counts for the hour 1", clock.pass(3600), 1 + 2);
        Check.same("the hour 2 has no tune", clock.pass(3600), 2);
        Check.same("the hour 3 has its own", clock.pass(3600), 3 + 1);
        clock.setTune(3, -1);
        clock.setBeat(20, 1);
        Check.same("up to 1:00 of the next day: 4 to 12, 1 to 12, and 1 with its tune", clock.pass(180 * 22),
                72 + 78 + 1 + 2);
        Check.same("the hour 2 still has none", clock.pass(180), 2);
        Check.same("nor the hour 3 any more", clock.pass(180), 3);
        Check.same("a drum for two hours", clock.setTune(22, 1) + clock.setTune(23, 1), -2);
    }

    private static void wasThereBefore() {
        MinsterClock clock = Clocks.withDrums(2);
        Check.same("take away what is not there", clock.setPin(0, 31, 8, false), false);
        Check.same("set", clock.setPin(0, 31, 8, true), false);
        Check.same("set once more", clock.setPin(0, 31, 8, true), true);
        Check.same("the other drum has its own", clock.setPin(1, 31, 8, true), false);
        Check.same("another step", clock.setPin(0, 30, 8, true), false);
        Check.same("another bell", clock.setPin(0, 31, 7, true), false);
        Check.same("take away", clock.setPin(0, 31, 8, false), true);
        Check.same("take away once more", clock.setPin(0, 31, 8, false), false);
        Check.same("set anew", clock.setPin(0, 31, 8, true), false);
    }

    private static void noSuchDrum(String call, Question question) {
        MinsterClock none = new MinsterClock();
        for (int drum : new int[] {0, -1, 1, 3, 4}) {
            Check.fails(call + " of " + drum + ", without drums", INDEX, () -> question.ask(none, drum));
        }
        for (int drums = 1; drums <= 4; drums++) {
            MinsterClock clock = Clocks.withDrums(drums);
            for (int drum = 0; drum < drums; drum++) {
                clock.setPin(drum, 0, 1, true);
                Object answer = question.ask(clock, drum);
                Check.same(call + " of " + drum + " of " + drums, answer.equals(1) || answer.equals(true), true);
            }
            int next = drums;
            Check.fails(call + " of " + next + " of as many", INDEX, () -> question.ask(clock, next));
            Check.fails(call + " of -1", INDEX, () -> question.ask(clock, -1));
        }
        // A living clock has 2 drums.
        for (int drum : new int[] {-1, 2, 3, 4, Integer.MIN_VALUE, Integer.MAX_VALUE}) {
            Twins.refuses(call + " of " + drum, Clocks::live, INDEX, clock -> question.ask(clock, drum));
        }
    }

    private static void noStepOrBell() {
        int[][] wrong = {{-1, 1}, {32, 1}, {0, 0}, {0, 9}, {-1, 0}, {32, 9}, {FAR[0], 1}, {FAR[1], 1}, {0, FAR[0]},
            {0, FAR[1]}, {64, 2}, {-32, 2}, {0, 33}};
        for (int[] pin : wrong) {
            String told = "setPin, step " + pin[0] + ", bell " + pin[1];
            Twins.refuses(told, Clocks::live, ARGUMENT, clock -> clock.setPin(0, pin[0], pin[1], true));
            Twins.refuses(told + " away", Clocks::live, ARGUMENT, clock -> clock.setPin(0, pin[0], pin[1], false));
        }
        // Each pin of the drum stands as it did.
        MinsterClock clock = Clocks.withDrums(1);
        clock.setPin(0, 3, 5, true);
        for (int[] pin : wrong) {
            Check.fails("setPin", ARGUMENT, () -> clock.setPin(0, pin[0], pin[1], true));
        }
        for (int step = 0; step <= 31; step++) {
            for (int bell = 1; bell <= 8; bell++) {
                boolean isThere = step == 3 && bell == 5;
                Check.same("step " + step + ", bell " + bell, clock.setPin(0, step, bell, true), isThere);
            }
        }
    }

    private static void numberOfPins() {
        MinsterClock clock = Clocks.withDrums(2);
        Check.same("none yet", clock.pins(0), 0);
        clock.setPin(0, 0, 1, false);
        Check.same("none taken away", clock.pins(0), 0);
        clock.setPin(0, 0, 1, true);
        Check.same("one", clock.pins(0), 1);
        clock.setPin(0, 0, 1, true);
        Check.same("one, set twice", clock.pins(0), 1);
        Clocks.fill(clock, 0);
        Check.same("as many as there may be, 32 * 8", clock.pins(0), 256);
        clock.setPin(0, 31, 8, true);
        Check.same("not more", clock.pins(0), 256);
        clock.setPin(0, 31, 8, false);
        Check.same("one less", clock.pins(0), 255);
        Check.same("the other drum", clock.pins(1), 0);
    }

    private static void orderOfPins() {
        MinsterClock clock = Clocks.withDrums(2);
        // Set in another order than they are told: by steps, not by bells, and not as they came.
        int[][] pins = {{31, 1}, {30, 8}, {0, 8}, {0, 1}, {1, 7}, {1, 2}, {0, 4}};
        for (int[] pin : pins) {
            clock.setPin(0, pin[0], pin[1], true);
        }
        clock.setPin(1, 0, 6, true);
        int[] due = {1, 4, 8, 2, 7, 8, 1};
        for (int index = 0; index < due.length; index++) {
            Check.same("the pin " + index, clock.bellAt(0, index), due[index]);
        }
        Check.same("the pin of the other drum", clock.bellAt(1, 0), 6);
    }

    private static void indexes() {
        MinsterClock clock = Clocks.withDrums(1);
        for (int pins = 1; pins <= 8; pins++) {
            clock.setPin(0, 31 - pins, pins, true);
            Check.same("the first of " + pins, clock.bellAt(0, 0), pins);
            Check.same("the last of " + pins, clock.bellAt(0, pins - 1), 1);
            int next = pins;
            Check.fails("one more than " + pins, ELEMENT, () -> clock.bellAt(0, next));
            Check.fails("one less than 0", ELEMENT, () -> clock.bellAt(0, -1));
        }
    }

    private static void bellsOfPins() {
        MinsterClock first = Clocks.withDrums(1);
        Clocks.fill(first, 0);
        for (int index = 0; index <= 127; index++) {
            Check.same("a full drum, the pin " + index, first.bellAt(0, index), index % 8 + 1);
        }
        MinsterClock last = Clocks.withDrums(1);
        Clocks.fill(last, 0);
        for (int index = 128; index <= 255; index++) {
            Check.same("a full drum, the pin " + index, last.bellAt(0, index), index % 8 + 1);
        }
        Check.fails("a full drum, one too many", ELEMENT, () -> last.bellAt(0, 256));
    }

    private static void noSuchPin() {
        MinsterClock clock = Clocks.withDrums(1);
        Check.fails("none yet", ELEMENT, () -> clock.bellAt(0, 0));
        clock.setPin(0, 0, 1, true);
        Check.same("the only one", clock.bellAt(0, 0), 1);
        Check.fails("behind it", ELEMENT, () -> clock.bellAt(0, 1));
        clock.setPin(0, 0, 1, false);
        Check.fails("none any more", ELEMENT, () -> clock.bellAt(0, 0));
        // The drum 0 of a living clock has 3 pins.
        for (int index : new int[] {3, -1, 256, FAR[0], FAR[1]}) {
            Twins.refuses("bellAt(0, " + index + ")", Clocks::live, ELEMENT, live -> live.bellAt(0, index));
        }
        Twins.keeps("bellAt(0, 2)", Clocks::live, live -> live.bellAt(0, 2));
    }

    private static void hoursOfTunes() {
        MinsterClock clock = Clocks.withDrums(1);
        for (int hour = 0; hour <= 23; hour++) {
            Check.same("the hour " + hour, clock.setTune(hour, 0), -1);
            Check.same("the hour " + hour + " has it", clock.setTune(hour, -1), 0);
        }
        for (int hour : new int[] {-1, 24}) {
            Check.fails("the hour " + hour, ARGUMENT, () -> clock.setTune(hour, 0));
        }
    }

    private static void drumsOfTunes() {
        MinsterClock clock = Clocks.withDrums(4);
        for (int drum = 0; drum <= 3; drum++) {
            clock.setPin(drum, 0, 2 + drum, true);
            clock.setTune(1 + drum, drum);
        }
        clock.setTune(5, 3);
        clock.setTune(5, -1);
        for (int drum = 0; drum <= 3; drum++) {
            clock.pass(3600);
            Check.same("the drum " + drum + " plays", clock.strokes(2 + drum), 1);
        }
        Check.same("no tune for the hour 5", clock.pass(3600), 6 + 5);
        for (int drum : new int[] {-2, 4}) {
            Check.fails("the drum " + drum, INDEX, () -> clock.setTune(5, drum));
        }
    }

    private static void drumBefore() {
        MinsterClock clock = Clocks.withDrums(4);
        for (int hour = 0; hour <= 23; hour++) {
            Check.same("without a tune, " + hour, clock.setTune(hour, hour % 4), -1);
        }
        for (int hour = 0; hour <= 23; hour++) {
            Check.same("the drum of " + hour, clock.setTune(hour, 3 - hour % 4), hour % 4);
            Check.same("the new drum of " + hour, clock.setTune(hour, -1), 3 - hour % 4);
            Check.same("no drum of " + hour, clock.setTune(hour, -1), -1);
        }
        clock.setTune(7, 2);
        Check.fails("a drum that is refused", INDEX, () -> clock.setTune(7, 4));
        Check.same("is not the one before", clock.setTune(7, 0), 2);
    }

    private static void noHour() {
        for (int hour : new int[] {-1, 24, 25, FAR[0], FAR[1]}) {
            Twins.refuses("setTune(" + hour + ", 0)", Clocks::live, ARGUMENT, clock -> clock.setTune(hour, 0));
            Twins.refuses("setTune(" + hour + ", -1)", Clocks::live, ARGUMENT, clock -> clock.setTune(hour, -1));
        }
    }

    private static void noDrumForTune() {
        MinsterClock none = new MinsterClock();
        Check.fails("the drum 0 of none", INDEX, () -> none.setTune(0, 0));
        Check.same("-1 of none", none.setTune(0, -1), -1);
        for (int drums = 1; drums <= 4; drums++) {
            MinsterClock clock = Clocks.withDrums(drums);
            int next = drums;
            Check.same("the last of " + drums, clock.setTune(23, drums - 1), -1);
            Check.fails("one more than the last of " + drums, INDEX, () -> clock.setTune(23, next));
            Check.fails("-2", INDEX, () -> clock.setTune(23, -2));
            Check.same("it stays", clock.setTune(23, -1), drums - 1);
        }
        for (int drum : new int[] {2, -2, 4, FAR[0], FAR[1]}) {
            Twins.refuses("setTune(13, " + drum + ")", Clocks::live, INDEX, clock -> clock.setTune(13, drum));
        }
    }
}
