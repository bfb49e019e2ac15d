import java.util.List;
import java.util.function.Consumer;
import java.util.function.ObjIntConsumer;
import java.util.function.Supplier;

/**
 * What all tests use: answers that are due, calls that are refused, and lands
 * that must be alike. Lands are given by how they are made, since an object
 * answers as promised for 512 calls alone: what takes more calls takes more
 * lands, made alike.
 */
final class Check {
    /** A test of this project ends within seconds; one that does not end at all is not as due. */
    private static final int LONGEST_SECONDS = 300;

    private static int wrong;

    static {
        Thread guard = new Thread(Check::endLate);
        guard.setDaemon(true);
        guard.start();
    }

    private Check() {
    }

    private static void endLate() {
        try {
            Thread.sleep(1000L * LONGEST_SECONDS);
        } catch (InterruptedException e) {
            return;
        }
        System.out.println("the test did not end");
        Runtime.getRuntime().halt(1);
    }

    /** An answer must be the one that is due. */
    static void due(String what, long got, long want) {
        if (got != want) {
            say(what + " answered " + Questions.told(got) + ", due is " + Questions.told(want));
        }
    }

    /** Something must be so; where a test needs a land of a certain kind. */
    static void so(String what, boolean is) {
        if (!is) {
            say("not so: " + what);
        }
    }

    private static void say(String what) {
        wrong++;
        System.out.println(what);
    }

    /**
     * A call must throw just this exception, by a throw of the class itself, and change
     * nothing: all that can be asked answers as it did, at once and when more has happened.
     */
    static void refused(String what, Class<?> want, Supplier<Wakeground> land, Consumer<Wakeground> call) {
        throwsJust(what, want, land.get(), call);
        Supplier<Wakeground> tried = () -> {
            Wakeground made = land.get();
            Questions.attempt(made, call);
            return made;
        };
        alike(what + ", at once", tried, land);
        alike(what + ", later", () -> Lands.goneOn(tried.get()), () -> Lands.goneOn(land.get()));
    }

    private static void throwsJust(String what, Class<?> want, Wakeground land, Consumer<Wakeground> call) {
        Class<?> got = null;
        String thrower = "Wakeground";
        try {
            call.accept(land);
        } catch (RuntimeException e) {
            got = e.getClass();
            thrower = e.getStackTrace().length > 0 ? e.getStackTrace()[0].getClassName() : "nobody";
        }
        so(what + ": it was the class that threw, not " + thrower, thrower.startsWith("Wakeground"));
        if (got != want) {
            say(what + " threw " + got + ", due is " + want);
        }
    }

    static void noIndex(String what, Supplier<Wakeground> land, Consumer<Wakeground> call) {
        refused(what, IndexOutOfBoundsException.class, land, call);
    }

    static void noArgument(String what, Supplier<Wakeground> land, Consumer<Wakeground> call) {
        refused(what, IllegalArgumentException.class, land, call);
    }

    static void noState(String what, Supplier<Wakeground> land, Consumer<Wakeground> call) {
        refused(what, IllegalStateException.class, land, call);
    }

    /** A call must be taken. */
    static void taken(String what, Wakeground land, Consumer<Wakeground> call) {
        throwsJust(what, null, land, call);
    }

    /** Of an index the least and the most are taken, with those beside them; those outside are refused. */
    static void indexes(String what, int least, int most, Supplier<Wakeground> land,
            ObjIntConsumer<Wakeground> call) {
        range(what, IndexOutOfBoundsException.class, least, most, land, call);
    }

    /** The same of another argument. */
    static void arguments(String what, int least, int most, Supplier<Wakeground> land,
            ObjIntConsumer<Wakeground> call) {
        range(what, IllegalArgumentException.class, least, most, land, call);
    }

    private static void range(String what, Class<?> want, int least, int most, Supplier<Wakeground> land,
            ObjIntConsumer<Wakeground> call) {
        for (int inside : new int[] {least, Math.min(least + 1, most), Math.max(most - 1, least), most}) {
            taken(what + " " + inside, land.get(), made -> call.accept(made, inside));
        }
        for (int outside : new int[] {least - 1, most + 1, Integer.MIN_VALUE, Integer.MAX_VALUE}) {
            refused(what + " " + outside, want, land, made -> call.accept(made, outside));
        }
    }

    /** Two lands must answer all that can be asked alike. */
    static void alike(String what, Supplier<Wakeground> one, Supplier<Wakeground> other) {
        List<Questions.Question> all = Questions.all(other.get());
        long[] got = Questions.answers(all, one);
        long[] want = Questions.answers(all, other);
        for (int i = 0; i < got.length; i++) {
            if (got[i] != want[i]) {
                due(what + ": " + all.get(i).name(), got[i], want[i]);
                return;
            }
        }
    }

    /** Heat, water and carbon must balance. */
    static void balanced(String what, Wakeground land) {
        for (int kind = 0; kind < 3; kind++) {
            due(what + ": balance(" + kind + ", 3)", land.balance(kind, 3), 0);
            due(what + ": balance(" + kind + ", 1) in parts", land.balance(kind, 1),
                    land.balance(kind, 0) + land.balance(kind, 2));
        }
    }

    /** The last call of a test: says how it went. */
    static void end(String test) {
        System.out.println(test + (wrong == 0 ? ": all as due" : ": " + wrong + " not as due"));
        if (wrong != 0) {
            System.exit(1);
        }
    }
}
