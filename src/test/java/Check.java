/** What all tests use: answers that are due, calls that are refused, and the whole picture of a land. */
final class Check {
    private static int wrong;

    private Check() {
    }

    /** An answer must be the one that is due. */
    static void due(String what, long got, long want) {
        if (got != want) {
            wrong++;
            System.out.println(what + " answered " + got + ", due is " + want);
        }
    }

    /** A call must throw just this exception, by a throw of the class itself, and change nothing. */
    static void refused(String what, Class<? extends RuntimeException> want, Wakeground land, Runnable call) {
        String before = picture(land);
        Class<?> got = null;
        String thrower = "Wakeground";
        try {
            call.run();
        } catch (RuntimeException e) {
            got = e.getClass();
            thrower = e.getStackTrace()[0].getClassName();
        }
        if (!thrower.equals("Wakeground")) {
            wrong++;
            System.out.println(what + ": it was not the class that threw, but " + thrower);
        }
        if (got != want) {
            wrong++;
            System.out.println(what + " threw " + got + ", due is " + want);
        }
        if (!picture(land).equals(before)) {
            wrong++;
            System.out.println(what + " changed the land, though it threw");
        }
    }

    static void noIndex(String what, Wakeground land, Runnable call) {
        refused(what, IndexOutOfBoundsException.class, land, call);
    }

    static void noArgument(String what, Wakeground land, Runnable call) {
        refused(what, IllegalArgumentException.class, land, call);
    }

    static void noState(String what, Wakeground land, Runnable call) {
        refused(what, IllegalStateException.class, land, call);
    }

    /** Two lands must answer all that can be asked alike. */
    static void alike(String what, Wakeground one, Wakeground other) {
        if (!picture(one).equals(picture(other))) {
            wrong++;
            System.out.println(what + ": the lands are not alike");
        }
    }

    /** Heat, water and carbon must balance. */
    static void balanced(String what, Wakeground land) {
        for (int kind = 0; kind < 3; kind++) {
            due(what + ": balance(" + kind + ", 3)", land.balance(kind, 3), 0);
            due(what + ": balance(" + kind + ", 1) in parts", land.balance(kind, 1),
                    land.balance(kind, 0) + land.balance(kind, 2));
        }
    }

    /** All that can be asked of a land, as a text. */
    static String picture(Wakeground land) {
        StringBuilder text = new StringBuilder();
        text.append(land.month()).append(' ').append(land.lakes());
        for (int cell = 0; cell < 25; cell++) {
            text.append('\n');
            for (int what = 0; what < 8; what++) {
                text.append(' ').append(land.cellOf(cell, what));
            }
            for (int layer = 0; layer < 5; layer++) {
                for (int what = 0; what < 6; what++) {
                    text.append(' ').append(land.layerOf(cell, layer, what));
                }
            }
        }
        for (int kind = 0; kind < 3; kind++) {
            for (int what = 0; what < 4; what++) {
                text.append(' ').append(land.balance(kind, what));
            }
        }
        text.append(' ').append(land.air(0)).append(' ').append(land.air(1));
        addHouses(text, land);
        addBoreholes(text, land);
        addClaims(text, land);
        return text.toString();
    }

    private static void addHouses(StringBuilder text, Wakeground land) {
        for (int house = 0; house < 12; house++) {
            for (int what = 0; what < 5; what++) {
                try {
                    text.append(" h").append(land.houseOf(house, what));
                } catch (IndexOutOfBoundsException e) {
                    return;
                }
            }
        }
    }

    private static void addBoreholes(StringBuilder text, Wakeground land) {
        for (int borehole = 0; borehole < 12; borehole++) {
            text.append(" b");
            for (int month = 0; month < land.month(); month++) {
                try {
                    for (int layer = 0; layer < 5; layer++) {
                        text.append(' ').append(land.reading(borehole, month, layer));
                    }
                } catch (IndexOutOfBoundsException e) {
                    text.append('-');
                }
            }
        }
    }

    private static void addClaims(StringBuilder text, Wakeground land) {
        for (int claim = 0; claim < 42; claim++) {
            try {
                text.append(" c").append(land.claimOf(claim)).append(' ').append(land.claimAnew(claim));
            } catch (IndexOutOfBoundsException e) {
                return;
            }
        }
    }

    /** The last call of a test: says how it went. */
    static void end(String test) {
        System.out.println(test + (wrong == 0 ? ": all as due" : ": " + wrong + " not as due"));
        if (wrong != 0) {
            System.exit(1);
        }
    }
}
