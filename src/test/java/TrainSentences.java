/** The sentences about the train: promises 1 to 8, the paragraph 'Train', and how long an object is used. */
final class TrainSentences {
    private static final Class<IllegalArgumentException> ARGUMENT = IllegalArgumentException.class;
    private static final Class<IllegalStateException> STATE = IllegalStateException.class;
    private static final Class<IndexOutOfBoundsException> INDEX = IndexOutOfBoundsException.class;
    private static final int[] NO_WHEELS_OF_6 = {-1, 6, 7, Integer.MIN_VALUE, Integer.MAX_VALUE};
    private static final int[] NO_BEATS = {0, 5001, -1, Integer.MIN_VALUE, Integer.MAX_VALUE};
    private static final String NO_WHEEL = "Throws `IndexOutOfBoundsException` if there is no such wheel";
    private static final String NO_NUMBER = "Throws `IllegalArgumentException` if the number is out of range";
    private static final String BEATS = "`beats`: the number of beats, 1 to 5000";
    private static final String WHEEL = "`wheel`: the number of the wheel";

    /** A question about a wheel, asked for a number of beats if it takes one. */
    private interface Question {
        Object ask(MinsterClock clock, int wheel, int beats);
    }

    // The teeth and leaves of 5 further wheels, and what each of the 6 is behind 3600 beats, and behind as many more.
    private static final int[][] UNLIKE_WHEELS = {{12, 10}, {24, 6}, {20, 8}, {100, 10}, {50, 10}};
    private static final Object[] MOVED = {3600, 1200, 600, 200, 100, 10};
    private static final Object[] TURNS = {120, 100, 25, 10, 1, 0};
    private static final Object[] BEATS_FOR_TURNS = {30.0, 36.0, 144.0, 360.0, 3600.0, 18000.0};
    private static final Object[] MOVED_AHEAD = {7200, 2400, 1200, 400, 200, 20};

    private TrainSentences() {
    }

    static void test(Sentences s) {
        s.whatItIs(4, "An object is used for at most 512 calls after it has been made; what later calls answer is"
                + " free.", TrainSentences::fastestTrainOf512Calls);
        s.terms(2, "At most 6 wheels exist, numbered from 0.", TrainSentences::atMost6Wheels);
        s.terms(4, "The wheel 0 has 30 teeth and moves by one tooth with each beat.", TrainSentences::wheel0);
        s.terms(4, "Each further wheel has its own number of teeth, and a pinion that sits on the wheel before it: when"
                + " the wheel before it has moved by x teeth since this wheel was added, this wheel has moved by x"
                + " times the leaves of the pinion, divided by the teeth of the wheel before it, rounded down.",
                () -> {
                    furtherWheels();
                    wheelsAddedLate();
                });
        s.promise(1, "Creates a clock that shows 0:00 on 1 January 2000, with one wheel, without drums; a beat takes 1"
                + " second.", TrainSentences::newClock);
        s.promise(2, "Adds a wheel at the end of the train.", TrainSentences::addedAtTheEnd);
        s.promise(2, "`teeth`: its teeth, 6 to 120", TrainSentences::teeth);
        s.promise(2, "`leaves`: the leaves of its pinion, 6 to 24", TrainSentences::leaves);
        s.promise(2, "Returns the number of the wheel.", TrainSentences::numberOfAddedWheel);
        s.promise(2, "Throws `IllegalArgumentException` if a number is out of range", TrainSentences::wrongWheel);
        s.promise(2, "Throws `IllegalStateException` if there are 6 wheels", TrainSentences::seventhWheel);
        s.promise(3, "Returns the number of wheels.", TrainSentences::numberOfWheels);
        s.promise(4, "Returns by how many teeth a wheel has moved.", TrainSentences::teethAndNothingElse);
        s.promise(4, WHEEL, () -> ofItsNumber((clock, wheel, beats) -> clock.moved(wheel), MOVED));
        s.promise(4, "Returns the number of teeth.", TrainSentences::teethMoved);
        s.promise(4, NO_WHEEL, () -> noSuchWheel("moved", (clock, wheel, beats) -> clock.moved(wheel)));
        s.promise(5, "Returns how many whole turns a wheel has made.", TrainSentences::turnsMade);
        s.promise(5, WHEEL, () -> ofItsNumber((clock, wheel, beats) -> clock.wholeTurns(wheel), TURNS));
        s.promise(5, "Returns the number of teeth by which it has moved, divided by its teeth, rounded down.",
                TrainSentences::wholeTurns);
        s.promise(5, NO_WHEEL, () -> noSuchWheel("wholeTurns", (clock, wheel, beats) -> clock.wholeTurns(wheel)));
        s.promise(6, "Returns the beats for a turn of a wheel: 30.0 for the wheel 0, and for each further one that of"
                + " the wheel before it times its teeth, divided by the leaves of its pinion, in double arithmetic, in"
                + " this order.", TrainSentences::beatsForTurn);
        s.promise(6, WHEEL, () -> ofItsNumber((clock, wheel, beats) -> clock.beatsForTurn(wheel), BEATS_FOR_TURNS));
        s.promise(6, "Returns the beats.", TrainSentences::beatsForTurnAtTheEnds);
        s.promise(6, NO_WHEEL, () -> noSuchWheel("beatsForTurn", (clock, wheel, beats) -> clock.beatsForTurn(wheel)));
        testAhead(s);
    }

    private static void testAhead(Sentences s) {
        Question ahead = MinsterClock::movedAhead;
        Question byBeats = MinsterClock::movedByBeats;
        s.promise(7, WHEEL, () -> ofItsNumber(ahead, MOVED_AHEAD));
        s.promise(7, BEATS, () -> beatsAtTheEnds(ahead));
        s.promise(7, "Returns by how many teeth a wheel will have moved behind some beats, found by ratios.",
                () -> movedLater(ahead));
        s.promise(7, "Returns the number of teeth.", () -> teethAhead(ahead));
        s.promise(7, NO_WHEEL, () -> noSuchWheel("movedAhead", ahead));
        s.promise(7, NO_NUMBER, () -> noSuchBeats("movedAhead", ahead));
        s.promise(8, WHEEL, () -> ofItsNumber(byBeats, MOVED_AHEAD));
        s.promise(8, BEATS, () -> beatsAtTheEnds(byBeats));
        s.promise(8, "Returns the same number, found beat by beat.", TrainSentences::sameByBothWays);
        s.promise(8, "Returns the number of teeth.", () -> {
            movedLater(byBeats);
            teethAhead(byBeats);
        });
        s.promise(8, NO_WHEEL, () -> noSuchWheel("movedByBeats", byBeats));
        s.promise(8, NO_NUMBER, () -> noSuchBeats("movedByBeats", byBeats));
    }

    private static void fastestTrainOf512Calls() {
        MinsterClock clock = new MinsterClock();
        for (int wheel = 1; wheel <= 5; wheel++) {
            clock.addWheel(6, 24);
        }
        for (int call = 6; call <= 506; call++) {
            clock.pass(5000);
        }
        // 501 calls of 5000 beats; times 24 / 30, and then four times 24 / 6.
        Check.same("call 507, moved(0)", clock.moved(0), 2505000);
        Check.same("call 508, moved(1)", clock.moved(1), 2004000);
        Check.same("call 509, moved(5)", clock.moved(5), 513024000);
        Check.same("call 510, wholeTurns(5)", clock.wholeTurns(5), 85504000);
        Check.same("call 511, movedAhead(5, 5000)", clock.movedAhead(5, 5000), 514048000);
        Check.same("call 512, movedByBeats(5, 5000)", clock.movedByBeats(5, 5000), 514048000);
    }

    private static void atMost6Wheels() {
        MinsterClock clock = new MinsterClock();
        Check.same("the wheel 0 exists at first", clock.moved(0), 0);
        for (int wheel = 1; wheel <= 5; wheel++) {
            int next = wheel;
            Check.fails("no wheel " + wheel + " yet", INDEX, () -> clock.moved(next));
            Check.same("the number of the next wheel", clock.addWheel(60, 10), wheel);
            Check.same("the wheel " + wheel, clock.moved(wheel), 0);
        }
        Check.fails("a seventh wheel", STATE, () -> clock.addWheel(60, 10));
        Check.fails("no wheel 6", INDEX, () -> clock.moved(6));
        Check.same("6 wheels", clock.wheels(), 6);
    }

    private static void wheel0() {
        MinsterClock clock = new MinsterClock();
        clock.addWheel(6, 6);
        Check.same("no beat", clock.moved(0), 0);
        for (int beat = 1; beat <= 61; beat++) {
            clock.pass(1);
            Check.same("teeth behind " + beat + " beats", clock.moved(0), beat);
            Check.same("turns behind " + beat + " beats", clock.wholeTurns(0), beat < 30 ? 0 : beat < 60 ? 1 : 2);
            // 6 leaves on 30 teeth: a tooth for each 5 beats.
            Check.same("30 teeth drive the wheel 1, beat " + beat, clock.moved(1), beat / 5);
        }
        clock.setBeat(1, 20);
        clock.pass(19);
        Check.same("short beats move it as well", clock.moved(0), 80);
        clock.setBeat(20, 1);
        clock.pass(1);
        Check.same("and long ones by no more", clock.moved(0), 81);
    }

    private static void furtherWheels() {
        MinsterClock clock = new MinsterClock();
        clock.pass(7);
        clock.addWheel(60, 10);
        Check.same("x = 0, though the wheel before it had moved by 7", clock.moved(1), 0);
        int[] due = {0, 0, 1, 1, 1, 2};
        for (int x = 1; x <= 6; x++) {
            clock.pass(1);
            Check.same("x = " + x + ": x * 10 / 30", clock.moved(1), due[x - 1]);
        }
        clock.addWheel(12, 7);
        Check.same("the next one begins at 0 too", clock.moved(2), 0);
        // The wheel 1 stands at 2 now; 8 more are 56 / 60, 9 more are 63 / 60.
        clock.pass(26);
        Check.same("the wheel 1, 32 * 10 / 30", clock.moved(1), 10);
        Check.same("x = 8: 8 * 7 / 60", clock.moved(2), 0);
        clock.pass(1);
        Check.same("the wheel 1, 33 * 10 / 30", clock.moved(1), 11);
        Check.same("x = 9: 9 * 7 / 60", clock.moved(2), 1);
        MinsterClock steps = new MinsterClock();
        steps.addWheel(6, 7);
        steps.addWheel(6, 24);
        // Each wheel is rounded down by itself: 4 beats give 28 / 30 = 0 and 0, and not 4 * 7 * 24 / 180 = 3.
        int[] last = {0, 0, 0, 0, 4, 4, 4, 4, 8};
        for (int beat = 1; beat <= last.length; beat++) {
            steps.pass(1);
            Check.same("rounded wheel by wheel, beat " + beat, steps.moved(2), last[beat - 1]);
        }
    }

    /** Each wheel is added when all those before it stand somewhere else. */
    private static void wheelsAddedLate() {
        MinsterClock clock = new MinsterClock();
        int[][] wheels = {{30, 15}, {30, 10}, {20, 6}, {6, 10}, {6, 24}};
        int[] beats = {100, 60, 120, 120, 300};
        int[][] due = {{100, 50}, {160, 80, 10}, {280, 140, 30, 4}, {400, 200, 50, 8, 2}, {700, 350, 100, 18, 7, 20}};
        for (int added = 1; added <= 5; added++) {
            clock.addWheel(wheels[added - 1][0], wheels[added - 1][1]);
            Check.same("the wheel " + added + " begins at 0", clock.moved(added), 0);
            clock.pass(beats[added - 1]);
            for (int wheel = 0; wheel <= added; wheel++) {
                String told = "with " + added + " more wheels, the wheel " + wheel;
                Check.same(told, clock.moved(wheel), due[added - 1][wheel]);
            }
        }
    }

    private static void newClock() {
        MinsterClock clock = new MinsterClock();
        Check.same("the time", clock.shown() + " " + Clocks.time(clock), "0 0:0");
        Check.same("the date, a Saturday", Clocks.date(clock), "2000-1-1 5");
        Check.same("one wheel", clock.wheels(), 1);
        Check.same("it has not moved", clock.moved(0), 0);
        Check.fails("and no other", INDEX, () -> clock.moved(1));
        Check.fails("no drum", INDEX, () -> clock.pins(0));
        Check.fails("no drum for a tune", INDEX, () -> clock.setTune(0, 0));
        Check.same("no beat yet", clock.beats(), 0L);
        Check.same("a beat, a second", Clocks.shownBehind(clock, 1), 1);
        Check.same("58 more", Clocks.shownBehind(clock, 58), 59);
        Check.same("the first drum", clock.addDrum(), 0);
        Check.same("the numerator is 1", clock.setBeat(1, 1), 1);
    }

    private static void addedAtTheEnd() {
        MinsterClock clock = new MinsterClock();
        clock.addWheel(10, 6);
        clock.addWheel(20, 6);
        clock.pass(5);
        Check.same("the wheel 1: 5 * 6 / 30", clock.moved(1), 1);
        Check.same("the wheel 2 on it: 1 * 6 / 10", clock.moved(2), 0);
        clock.pass(5);
        Check.same("the wheel 2 on it: 2 * 6 / 10", clock.moved(2), 1);
        Check.same("it is slower than the one before it", clock.beatsForTurn(2), 30.0 * 10 / 6 * 20 / 6);
    }

    private static void teeth() {
        for (int wrong : new int[] {5, 121, 0, -6, Integer.MIN_VALUE, Integer.MAX_VALUE}) {
            Twins.refuses("addWheel(" + wrong + ", 10)", clock -> { }, ARGUMENT, clock -> clock.addWheel(wrong, 10));
        }
        MinsterClock clock = new MinsterClock();
        Check.same("6 teeth", clock.addWheel(6, 6), 1);
        Check.same("6 teeth: 30 * 6 / 6", clock.beatsForTurn(1), 30.0);
        Check.same("120 teeth", clock.addWheel(120, 6), 2);
        Check.same("120 teeth: 30 * 120 / 6", clock.beatsForTurn(2), 600.0);
        Check.same("7 teeth", clock.addWheel(7, 6), 3);
        Check.same("119 teeth", clock.addWheel(119, 6), 4);
    }

    private static void leaves() {
        for (int wrong : new int[] {5, 25, 0, -6, Integer.MIN_VALUE, Integer.MAX_VALUE}) {
            Twins.refuses("addWheel(10, " + wrong + ")", clock -> { }, ARGUMENT, clock -> clock.addWheel(10, wrong));
        }
        MinsterClock clock = new MinsterClock();
        Check.same("6 leaves", clock.addWheel(24, 6), 1);
        Check.same("6 leaves: 30 * 24 / 6", clock.beatsForTurn(1), 120.0);
        Check.same("24 leaves", clock.addWheel(24, 24), 2);
        Check.same("24 leaves: 120 * 24 / 24", clock.beatsForTurn(2), 120.0);
        Check.same("7 leaves", clock.addWheel(24, 7), 3);
        Check.same("23 leaves", clock.addWheel(24, 23), 4);
    }

    private static void numberOfAddedWheel() {
        MinsterClock clock = new MinsterClock();
        Check.same("the first that is added", clock.addWheel(20, 10), 1);
        Check.fails("one that is refused takes no number", ARGUMENT, () -> clock.addWheel(5, 10));
        Check.same("the second", clock.addWheel(20, 10), 2);
        clock.pass(5000);
        Check.same("the third", clock.addWheel(20, 10), 3);
        Check.same("the fourth", clock.addWheel(20, 10), 4);
        Check.same("the last", clock.addWheel(20, 10), 5);
        Check.same("another clock counts by itself", new MinsterClock().addWheel(20, 10), 1);
    }

    private static void wrongWheel() {
        int[][] wrong = {{5, 6}, {121, 24}, {6, 5}, {120, 25}, {5, 5}, {121, 25}, {0, 0}};
        for (int[] pair : wrong) {
            String call = "addWheel(" + pair[0] + ", " + pair[1] + ")";
            Twins.refuses(call, Clocks::live, ARGUMENT, clock -> clock.addWheel(pair[0], pair[1]));
        }
    }

    private static void seventhWheel() {
        MinsterClock clock = Clocks.withWheels(5);
        Check.same("with 5 wheels one is added", clock.addWheel(60, 10), 5);
        Check.fails("with 6 none", STATE, () -> clock.addWheel(60, 10));
        Check.fails("nor later", STATE, () -> clock.addWheel(6, 24));
        Twins.refuses("a seventh wheel", six -> {
            Clocks.live(six);
            six.addWheel(60, 10);
            six.addWheel(60, 10);
            six.addWheel(60, 10);
        }, STATE, six -> six.addWheel(60, 10));
    }

    private static void numberOfWheels() {
        MinsterClock clock = new MinsterClock();
        for (int wheels = 1; wheels <= 6; wheels++) {
            Check.same("wheels", clock.wheels(), wheels);
            Check.fails("a wrong wheel is not counted", ARGUMENT, () -> clock.addWheel(121, 10));
            Check.same("wheels", clock.wheels(), wheels);
            if (wheels < 6) {
                clock.addWheel(20, 10);
            }
        }
        Check.fails("a seventh is not counted", STATE, () -> clock.addWheel(20, 10));
        Check.same("wheels, at most", clock.wheels(), 6);
    }

    /** Each number asks about a wheel of its own, in whatever order they are asked. */
    private static void ofItsNumber(Question question, Object[] due) {
        MinsterClock clock = new MinsterClock();
        for (int[] wheel : UNLIKE_WHEELS) {
            clock.addWheel(wheel[0], wheel[1]);
        }
        clock.pass(3600);
        for (int wheel = 0; wheel <= 5; wheel++) {
            Check.same("the wheel " + wheel, question.ask(clock, wheel, 3600), due[wheel]);
        }
        for (int wheel = 5; wheel >= 0; wheel--) {
            Check.same("the wheel " + wheel + " once more", question.ask(clock, wheel, 3600), due[wheel]);
        }
    }

    private static void teethAndNothingElse() {
        MinsterClock clock = new MinsterClock();
        clock.addWheel(60, 15);
        clock.pass(359);
        Check.same("359 beats: 359 teeth, and not 11 turns", clock.moved(0), 359);
        Check.same("359 * 15 / 30 teeth, and not 2 turns of 60", clock.moved(1), 179);
        clock.pass(1);
        Check.same("360 * 15 / 30 teeth", clock.moved(1), 180);
        clock.addWheel(6, 24);
        Check.same("another wheel moves none before it", clock.moved(0) + " " + clock.moved(1), "360 180");
        clock.setBeat(20, 1);
        clock.setBound(30);
        clock.owe(600);
        clock.setDate(1999, 12, 31);
        Check.same("nor what is set", clock.moved(0) + " " + clock.moved(1), "360 180");
        clock.pass(4);
        Check.same("teeth are beats, and neither seconds nor corrections", clock.moved(0), 364);
        Check.same("364 * 15 / 30", clock.moved(1), 182);
        Check.same("2 * 24 / 60", clock.moved(2), 0);
    }

    private static void turnsMade() {
        MinsterClock clock = new MinsterClock();
        clock.pass(5000);
        Check.same("5000 / 30", clock.wholeTurns(0), 166);
        clock.addWheel(6, 24);
        clock.addWheel(120, 6);
        Check.same("a wheel that was added late has made none", clock.wholeTurns(1), 0);
        clock.pass(7);
        Check.same("7 * 24 / 30 = 5 of 6", clock.wholeTurns(1), 0);
        clock.pass(1);
        Check.same("8 * 24 / 30 = 6 of 6: sooner than the wheel before it", clock.wholeTurns(1), 1);
        Check.same("the wheel before it: 5008 / 30", clock.wholeTurns(0), 166);
        clock.pass(141);
        Check.same("119 of 6, by whole turns alone", clock.wholeTurns(1), 19);
        clock.pass(1);
        Check.same("120 of 6", clock.wholeTurns(1), 20);
        Check.same("120 of 120, as a tooth drives a tooth", clock.wholeTurns(2), 1);
        Check.same("asking turns nothing", clock.wholeTurns(2), 1);
    }

    private static void teethMoved() {
        MinsterClock clock = new MinsterClock();
        Check.same("nothing yet", clock.moved(0), 0);
        clock.pass(1);
        Check.same("a beat", clock.moved(0), 1);
        clock.pass(5000);
        Check.same("5001 beats: it goes on behind its 30 teeth", clock.moved(0), 5001);
        clock.addWheel(6, 24);
        Check.same("a wheel that was added late", clock.moved(1), 0);
        clock.pass(1);
        Check.same("24 / 30", clock.moved(1), 0);
        clock.pass(1);
        Check.same("48 / 30", clock.moved(1), 1);
        clock.pass(13);
        Check.same("15 * 24 / 30, behind its 6 teeth", clock.moved(1), 12);
    }

    private static void noSuchWheel(String call, Question question) {
        MinsterClock one = new MinsterClock();
        for (int wheel : new int[] {-1, 1, 2, 5, 6, Integer.MIN_VALUE, Integer.MAX_VALUE}) {
            Check.fails(call + " of the wheel " + wheel + " of 1", INDEX, () -> question.ask(one, wheel, 1));
        }
        question.ask(one, 0, 1);
        MinsterClock six = Clocks.withWheels(6);
        for (int wheel = 0; wheel <= 5; wheel++) {
            question.ask(six, wheel, 1);
        }
        for (int wheel : NO_WHEELS_OF_6) {
            Check.fails(call + " of the wheel " + wheel + " of 6", INDEX, () -> question.ask(six, wheel, 1));
        }
        // The wheels of a living clock are 0 to 2.
        for (int wheel : new int[] {-1, 3}) {
            Twins.refuses(call + " of the wheel " + wheel, Clocks::live, INDEX, clock -> question.ask(clock, wheel, 1));
        }
        Twins.keeps(call + " of the wheel 2", Clocks::live, clock -> question.ask(clock, 2, 1));
    }

    private static void wholeTurns() {
        MinsterClock clock = new MinsterClock();
        clock.addWheel(6, 6);
        clock.addWheel(120, 24);
        Check.same("nothing yet", clock.wholeTurns(0) + clock.wholeTurns(1) + clock.wholeTurns(2), 0);
        clock.pass(29);
        Check.same("29 / 30", clock.wholeTurns(0), 0);
        Check.same("29 * 6 / 30 = 5 of 6", clock.wholeTurns(1), 0);
        clock.pass(1);
        Check.same("30 / 30", clock.wholeTurns(0), 1);
        Check.same("30 * 6 / 30 = 6 of 6", clock.wholeTurns(1), 1);
        clock.pass(29);
        Check.same("59 / 30", clock.wholeTurns(0), 1);
        Check.same("11 of 6", clock.wholeTurns(1), 1);
        clock.pass(1);
        Check.same("60 / 30", clock.wholeTurns(0), 2);
        // 4 teeth of the wheel 2 for each tooth of the wheel 1: 29 of them are 116 of 120, 30 are all.
        clock.pass(89);
        Check.same("116 / 120", clock.wholeTurns(2), 0);
        clock.pass(1);
        Check.same("120 / 120", clock.wholeTurns(2), 1);
    }

    private static void beatsForTurn() {
        Check.same("the wheel 0", new MinsterClock().beatsForTurn(0), 30.0);
        MinsterClock clock = new MinsterClock();
        clock.addWheel(7, 17);
        // 210.0 / 17.0; the quotient 7.0 / 17.0 first would give 12.352941176470587, and a float 12.3529415.
        Check.same("times the teeth first", clock.beatsForTurn(1), 12.352941176470589);
        MinsterClock two = new MinsterClock();
        two.addWheel(6, 7);
        two.addWheel(6, 7);
        // All products first, 1080.0 / 49.0, would give 22.040816326530614.
        Check.same("wheel by wheel", two.beatsForTurn(2), 22.04081632653061);
        Check.same("the wheel 0 of a longer train", two.beatsForTurn(0), 30.0);
        two.pass(5000);
        two.setBeat(20, 1);
        Check.same("neither beats nor their length change it", two.beatsForTurn(2), 22.04081632653061);
    }

    private static void beatsForTurnAtTheEnds() {
        MinsterClock fast = new MinsterClock();
        MinsterClock slow = new MinsterClock();
        double[] least = {7.5, 1.875, 0.46875, 0.1171875, 0.029296875};
        double[] most = {600.0, 12000.0, 240000.0, 4800000.0, 96000000.0};
        for (int wheel = 1; wheel <= 5; wheel++) {
            fast.addWheel(6, 24);
            slow.addWheel(120, 6);
            Check.same("the least, wheel " + wheel, fast.beatsForTurn(wheel), least[wheel - 1]);
            Check.same("the most, wheel " + wheel, slow.beatsForTurn(wheel), most[wheel - 1]);
        }
    }

    private static void beatsAtTheEnds(Question question) {
        MinsterClock clock = new MinsterClock();
        Check.same("1 beat", question.ask(clock, 0, 1), 1);
        Check.same("2 beats", question.ask(clock, 0, 2), 2);
        Check.same("4999 beats", question.ask(clock, 0, 4999), 4999);
        Check.same("5000 beats", question.ask(clock, 0, 5000), 5000);
        for (int beats : NO_BEATS) {
            Check.fails(beats + " beats", ARGUMENT, () -> question.ask(clock, 0, beats));
        }
        clock.pass(5000);
        Check.same("1 beat more", question.ask(clock, 0, 1), 5001);
        Check.same("5000 beats more", question.ask(clock, 0, 5000), 10000);
    }

    private static void movedLater(Question question) {
        MinsterClock clock = new MinsterClock();
        clock.pass(4);
        clock.addWheel(60, 10);
        int[] due = {0, 0, 1, 1, 1, 2};
        for (int beats = 1; beats <= due.length; beats++) {
            Check.same(beats + " beats on: " + beats + " * 10 / 30", question.ask(clock, 1, beats), due[beats - 1]);
        }
        Check.same("5000 beats on: 50000 / 30", question.ask(clock, 1, 5000), 1666);
        clock.pass(2);
        // What the wheel has of its next tooth counts: 20 / 30 now.
        Check.same("1 beat on: 30 / 30", question.ask(clock, 1, 1), 1);
        Check.same("3 beats on: 50 / 30", question.ask(clock, 1, 3), 1);
        Check.same("4 beats on: 60 / 30", question.ask(clock, 1, 4), 2);
        Check.same("nothing has moved by asking", clock.moved(1), 0);
        clock.pass(4);
        Check.same("and it comes so", clock.moved(1), 2);
    }

    private static void teethAhead(Question question) {
        MinsterClock clock = new MinsterClock();
        clock.addWheel(120, 6);
        clock.addWheel(120, 6);
        Check.same("none: 4 * 6 / 30", question.ask(clock, 1, 4), 0);
        Check.same("the first: 5 * 6 / 30", question.ask(clock, 1, 5), 1);
        Check.same("none: 19 * 6 / 120", question.ask(clock, 2, 99), 0);
        Check.same("the first: 20 * 6 / 120", question.ask(clock, 2, 100), 1);
        MinsterClock fast = new MinsterClock();
        for (int wheel = 1; wheel <= 5; wheel++) {
            fast.addWheel(6, 24);
        }
        Check.same("the most of one call: 4000 * 4 * 4 * 4 * 4", question.ask(fast, 5, 5000), 1024000);
        Check.same("the least of this train: 0 * 4 * 4 * 4 * 4", question.ask(fast, 5, 1), 0);
        Check.same("the next: 1 * 4 * 4 * 4 * 4", question.ask(fast, 5, 2), 256);
    }

    private static void noSuchBeats(String call, Question question) {
        for (int beats : NO_BEATS) {
            Twins.refuses(call + " of " + beats + " beats", Clocks::live, ARGUMENT,
                    clock -> question.ask(clock, 1, beats));
        }
        Twins.keeps(call + " of 5000 beats", Clocks::live, clock -> question.ask(clock, 2, 5000));
    }

    private static void sameByBothWays() {
        int[][] wheels = {{7, 23}, {11, 19}, {6, 24}, {13, 17}, {120, 6}};
        int[] beats = {1, 2, 29, 30, 31, 59, 60, 61, 4999, 5000};
        for (int ahead : beats) {
            MinsterClock clock = new MinsterClock();
            for (int[] wheel : wheels) {
                clock.pass(37);
                clock.addWheel(wheel[0], wheel[1]);
            }
            clock.pass(1234);
            int[] due = new int[6];
            for (int wheel = 0; wheel <= 5; wheel++) {
                due[wheel] = clock.movedAhead(wheel, ahead);
                Check.same(ahead + " beats, wheel " + wheel, clock.movedByBeats(wheel, ahead), due[wheel]);
            }
            clock.pass(ahead);
            for (int wheel = 0; wheel <= 5; wheel++) {
                Check.same(ahead + " beats have passed, wheel " + wheel, clock.moved(wheel), due[wheel]);
            }
        }
    }
}
