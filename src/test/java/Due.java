import java.util.function.Consumer;
import java.util.function.IntSupplier;
import java.util.function.Supplier;

/** What the tests share: each answer is compared with the one that is due, and a failure is counted. */
final class Due {
    static final String ARGUMENT = "IllegalArgumentException";
    static final String STATE = "IllegalStateException";
    static final String INDEX = "IndexOutOfBoundsException";
    static final String NOTHING = "nothing";

    private static final int MOST_TOLD = 20;

    private static int asDue = 0;
    private static int wrong = 0;

    private Due() {
    }

    static void is(String what, long got, long want) {
        same(what, Long.toString(got), Long.toString(want));
    }

    static void is(String what, boolean got, boolean want) {
        same(what, Boolean.toString(got), Boolean.toString(want));
    }

    static void same(String what, String got, String want) {
        if (got.equals(want)) {
            asDue++;
            return;
        }
        wrong++;
        if (wrong <= MOST_TOLD) {
            System.out.println(what + ": " + got + ", due is " + want);
        }
    }

    /**
     * The call has to throw just this exception, and afterwards the house has to be like another one
     * that was made in the same way and never had the call.
     */
    static void isThrown(String what, String want, Supplier<SignOnHouse> made, Consumer<SignOnHouse> call) {
        SignOnHouse called = made.get();
        same(what + " throws", nameOfThrown(() -> call.accept(called)), want);
        same(what + " changes nothing", Sight.of(() -> called(made, call)), Sight.of(made));
    }

    private static SignOnHouse called(Supplier<SignOnHouse> made, Consumer<SignOnHouse> call) {
        SignOnHouse house = made.get();
        nameOfThrown(() -> call.accept(house));
        return house;
    }

    static String nameOfThrown(Runnable call) {
        try {
            call.run();
            return NOTHING;
        } catch (RuntimeException e) {
            return e.getClass().getSimpleName();
        }
    }

    /** The number that the call answers, or throws. and the name of what it throws. */
    static String answer(IntSupplier call) {
        try {
            return Integer.toString(call.getAsInt());
        } catch (RuntimeException e) {
            return "throws." + e.getClass().getSimpleName();
        }
    }

    static void end() {
        System.out.println(asDue + " answers as due, " + wrong + " wrong");
        if (wrong != 0) {
            System.exit(1);
        }
    }
}
