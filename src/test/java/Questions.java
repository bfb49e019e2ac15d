import java.util.ArrayList;
import java.util.List;
import java.util.function.Consumer;
import java.util.function.Supplier;
import java.util.function.ToLongFunction;

/** All that can be asked of a land, as a list of questions; an exception is an answer too. */
final class Questions {
    static final long NO_INDEX = Long.MIN_VALUE;
    static final long NO_ARGUMENT = Long.MIN_VALUE + 1;
    static final long NO_STATE = Long.MIN_VALUE + 2;
    static final long ANOTHER = Long.MIN_VALUE + 3;

    /** How many are asked of one object, so that its calls stay below 512 with those that made it. */
    private static final int OF_ONE_LAND = 360;

    record Question(String name, ToLongFunction<Wakeground> ask) {
    }

    private Questions() {
    }

    /** All that can be asked of a land, with some beyond what there is. */
    static List<Question> all(Wakeground other) {
        int month = other.month();
        List<Question> all = new ArrayList<>();
        add(all, "month()", land -> land.month());
        add(all, "lakes()", land -> land.lakes());
        for (int i = 0; i < 25; i++) {
            addCell(all, i);
        }
        for (int i = 0; i < 12; i++) {
            int kind = i / 4;
            int what = i % 4;
            add(all, "balance(" + kind + ", " + what + ")", land -> land.balance(kind, what));
        }
        add(all, "air(SMOKE)", land -> land.air(Wakeground.SMOKE));
        add(all, "air(MARSH)", land -> land.air(Wakeground.MARSH));
        for (int i = 0; i <= 10; i++) {
            addHouse(all, i);
            int borehole = i;
            boolean hasRead = answer(other, land -> land.reading(borehole, month - 1, 0)) != NO_INDEX;
            addBorehole(all, i, hasRead ? 0 : month - 1, month);
        }
        for (int i = 0; i <= 40; i++) {
            int claim = i;
            add(all, "claimOf(" + i + ")", land -> land.claimOf(claim));
            add(all, "claimAnew(" + i + ")", land -> land.claimAnew(claim));
        }
        return all;
    }

    private static void add(List<Question> all, String name, ToLongFunction<Wakeground> ask) {
        all.add(new Question(name, ask));
    }

    private static void addCell(List<Question> all, int cell) {
        for (int i = 0; i < 8; i++) {
            int what = i;
            add(all, "cellOf(" + cell + ", " + what + ")", land -> land.cellOf(cell, what));
        }
        for (int i = 0; i < 30; i++) {
            int layer = i / 6;
            int what = i % 6;
            add(all, "layerOf(" + cell + ", " + layer + ", " + what + ")",
                    land -> land.layerOf(cell, layer, what));
        }
        for (int i = 0; i < 5; i++) {
            int at = i;
            add(all, "neighbour(" + cell + ", " + at + ")", land -> land.neighbour(cell, at));
        }
    }

    private static void addHouse(List<Question> all, int house) {
        for (int i = 0; i < 5; i++) {
            int what = i;
            add(all, "houseOf(" + house + ", " + what + ")", land -> land.houseOf(house, what));
        }
    }

    private static void addBorehole(List<Question> all, int borehole, int from, int to) {
        for (int i = from; i <= to; i++) {
            for (int j = 0; j < 5; j++) {
                int month = i;
                int layer = j;
                add(all, "reading(" + borehole + ", " + month + ", " + layer + ")",
                        land -> land.reading(borehole, month, layer));
            }
        }
    }

    /** Asks all, so many of each land; all of the lands are made alike. */
    static long[] answers(List<Question> all, Supplier<Wakeground> lands) {
        long[] answers = new long[all.size()];
        Wakeground land = null;
        for (int i = 0; i < answers.length; i++) {
            if (i % OF_ONE_LAND == 0) {
                land = lands.get();
            }
            answers[i] = answer(land, all.get(i).ask());
        }
        return answers;
    }

    static long answer(Wakeground land, ToLongFunction<Wakeground> ask) {
        try {
            return ask.applyAsLong(land);
        } catch (RuntimeException e) {
            return code(e.getClass());
        }
    }

    /** Lets something happen, if it is taken. */
    static void attempt(Wakeground land, Consumer<Wakeground> call) {
        answer(land, made -> {
            call.accept(made);
            return 0;
        });
    }

    private static long code(Class<?> thrown) {
        if (thrown == IndexOutOfBoundsException.class) {
            return NO_INDEX;
        }
        if (thrown == IllegalArgumentException.class) {
            return NO_ARGUMENT;
        }
        return thrown == IllegalStateException.class ? NO_STATE : ANOTHER;
    }

    /** An answer, as it is printed. */
    static String told(long answer) {
        String[] exceptions = {"IndexOutOfBoundsException", "IllegalArgumentException",
            "IllegalStateException", "another exception"};
        long which = answer - NO_INDEX;
        return which >= 0 && which < exceptions.length ? exceptions[(int) which] : "" + answer;
    }
}
