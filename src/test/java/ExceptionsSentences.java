import java.util.NoSuchElementException;

/** The paragraph 'Exceptions'; that each refusal changes nothing is tested with its own promise as well. */
final class ExceptionsSentences {
    private static final Class<IllegalArgumentException> ARGUMENT = IllegalArgumentException.class;
    private static final Class<IllegalStateException> STATE = IllegalStateException.class;
    private static final Class<IndexOutOfBoundsException> INDEX = IndexOutOfBoundsException.class;
    private static final Class<NoSuchElementException> ELEMENT = NoSuchElementException.class;
    private static final String NOTHING = "A method that throws an exception changes nothing.";
    private static final String FIRST = "If several exceptions apply, the one that is documented first is thrown.";

    private ExceptionsSentences() {
    }

    static void test(Sentences s) {
        s.terms(10, NOTHING, ExceptionsSentences::allRefusalsChangeNothing);
        s.terms(2, FIRST, ExceptionsSentences::firstOfAddWheel);
        s.terms(7, FIRST, () -> firstAhead(MinsterClock::movedAhead));
        s.terms(8, FIRST, () -> firstAhead(MinsterClock::movedByBeats));
        s.terms(28, FIRST, ExceptionsSentences::firstOfSetPin);
        s.terms(30, FIRST, ExceptionsSentences::firstOfBellAt);
        s.terms(31, FIRST, ExceptionsSentences::firstOfSetTune);
    }

    /** A living clock with all wheels and drums that there may be, so that every call can be refused. */
    private static void full(MinsterClock clock) {
        Clocks.live(clock);
        clock.addWheel(20, 7);
        clock.addWheel(30, 8);
        clock.addWheel(40, 9);
        clock.addDrum();
        clock.addDrum();
    }

    /** One refused call behind the other: what each spoils by little, all of them together would spoil by more. */
    private static void allRefusalsChangeNothing() {
        Twins.keeps("all refusals together", ExceptionsSentences::full, clock -> {
            refuseGoing(clock);
            refuseBells(clock);
        });
        Twins.keeps("all refusals of a new clock", clock -> { }, clock -> {
            refuseGoing(clock);
            Check.fails("no mark yet", ArithmeticException.class, clock::struckShare);
            Check.fails("no drum yet", INDEX, () -> clock.setPin(0, 0, 1, true));
        });
    }

    private static void refuseGoing(MinsterClock clock) {
        Check.fails("addWheel", ARGUMENT, () -> clock.addWheel(121, 6));
        Check.fails("moved", INDEX, () -> clock.moved(6));
        Check.fails("wholeTurns", INDEX, () -> clock.wholeTurns(6));
        Check.fails("beatsForTurn", INDEX, () -> clock.beatsForTurn(6));
        Check.fails("movedAhead", ARGUMENT, () -> clock.movedAhead(0, 5001));
        Check.fails("movedByBeats", ARGUMENT, () -> clock.movedByBeats(0, 5001));
        Check.fails("setBeat", ARGUMENT, () -> clock.setBeat(20, 21));
        Check.fails("pass", ARGUMENT, () -> clock.pass(5001));
        Check.fails("owe", ARGUMENT, () -> clock.owe(601));
        Check.fails("setBound", ARGUMENT, () -> clock.setBound(31));
        Check.fails("setDate", ARGUMENT, () -> clock.setDate(1599, 12, 31));
        Check.fails("isLeap", ARGUMENT, () -> clock.isLeap(3001));
        Check.fails("numberOf", ARGUMENT, () -> clock.numberOf(3001, 1, 1));
        Check.fails("numberByCounting", ARGUMENT, () -> clock.numberByCounting(3001, 1, 1));
        Check.fails("strokesAhead", ARGUMENT, () -> clock.strokesAhead(5001));
        Check.fails("strokesByBeats", ARGUMENT, () -> clock.strokesByBeats(5001));
    }

    private static void refuseBells(MinsterClock clock) {
        Check.fails("addWheel", STATE, () -> clock.addWheel(120, 6));
        Check.fails("setSilence", ARGUMENT, () -> clock.setSilence(3, 24));
        Check.fails("addDrum", STATE, clock::addDrum);
        Check.fails("setPin", ARGUMENT, () -> clock.setPin(0, 1, 9, true));
        Check.fails("pins", INDEX, () -> clock.pins(4));
        Check.fails("bellAt", ELEMENT, () -> clock.bellAt(0, 3));
        Check.fails("setTune", INDEX, () -> clock.setTune(13, 4));
        Check.fails("strokes", INDEX, () -> clock.strokes(9));
        Check.fails("markAt", ELEMENT, () -> clock.markAt(40));
        Check.fails("strokesAt", ELEMENT, () -> clock.strokesAt(30));
    }

    private static void firstOfAddWheel() {
        MinsterClock clock = Clocks.withWheels(6);
        int[][] wrong = {{5, 6}, {121, 24}, {6, 5}, {120, 25}};
        for (int[] pair : wrong) {
            Check.fails("6 wheels, and " + pair[0] + ", " + pair[1], ARGUMENT, () -> clock.addWheel(pair[0], pair[1]));
        }
        Check.fails("6 wheels alone", STATE, () -> clock.addWheel(6, 24));
    }

    private interface Ahead {
        int ask(MinsterClock clock, int wheel, int beats);
    }

    private static void firstAhead(Ahead call) {
        MinsterClock clock = Clocks.withWheels(2);
        for (int wheel : new int[] {-1, 2}) {
            for (int beats : new int[] {0, 5001}) {
                Check.fails("the wheel " + wheel + " and " + beats + " beats", INDEX,
                        () -> call.ask(clock, wheel, beats));
            }
            Check.fails("the wheel " + wheel + " alone", INDEX, () -> call.ask(clock, wheel, 1));
        }
        for (int beats : new int[] {0, 5001}) {
            Check.fails(beats + " beats alone", ARGUMENT, () -> call.ask(clock, 1, beats));
        }
    }

    private static void firstOfSetPin() {
        MinsterClock clock = Clocks.withDrums(1);
        int[][] wrong = {{-1, 1}, {32, 1}, {0, 0}, {0, 9}, {32, 9}};
        for (int[] pin : wrong) {
            for (int drum : new int[] {-1, 1}) {
                Check.fails("the drum " + drum + ", step " + pin[0] + ", bell " + pin[1], INDEX,
                        () -> clock.setPin(drum, pin[0], pin[1], true));
            }
            Check.fails("step " + pin[0] + ", bell " + pin[1] + " alone", ARGUMENT,
                    () -> clock.setPin(0, pin[0], pin[1], true));
        }
    }

    private static void firstOfBellAt() {
        MinsterClock clock = Clocks.withDrums(1);
        clock.setPin(0, 0, 1, true);
        for (int index : new int[] {-1, 1}) {
            for (int drum : new int[] {-1, 1}) {
                Check.fails("the drum " + drum + ", the pin " + index, INDEX, () -> clock.bellAt(drum, index));
            }
            Check.fails("the pin " + index + " alone", ELEMENT, () -> clock.bellAt(0, index));
        }
    }

    private static void firstOfSetTune() {
        MinsterClock clock = Clocks.withDrums(1);
        for (int hour : new int[] {-1, 24}) {
            for (int drum : new int[] {-2, 1}) {
                Check.fails("the hour " + hour + ", the drum " + drum, ARGUMENT, () -> clock.setTune(hour, drum));
            }
            Check.fails("the hour " + hour + " alone", ARGUMENT, () -> clock.setTune(hour, -1));
        }
        for (int drum : new int[] {-2, 1}) {
            Check.fails("the drum " + drum + " alone", INDEX, () -> clock.setTune(23, drum));
        }
    }
}
