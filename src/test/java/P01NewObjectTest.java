import java.lang.reflect.Modifier;

/** Promise 1, and the face: the class, its constants, and the land as at first. */
public final class P01NewObjectTest {
    public static void main(String[] args) {
        Check.due("NONE", Wakeground.NONE, -1);
        Check.due("SMOKE", Wakeground.SMOKE, 0);
        Check.due("MARSH", Wakeground.MARSH, 1);
        face();
        landAsAtFirst();
        landsApart();
        Check.end("P01NewObjectTest");
    }

    private static void face() {
        int modifiers = Wakeground.class.getModifiers();
        Check.due("public final", Modifier.isPublic(modifiers) && Modifier.isFinal(modifiers) ? 1 : 0, 1);
        Check.due("public methods", publicMembers(Wakeground.class.getDeclaredMethods()), 19);
        Check.due("public fields", publicMembers(Wakeground.class.getDeclaredFields()), 3);
        Check.due("constructors", publicMembers(Wakeground.class.getDeclaredConstructors()), 1);
    }

    private static int publicMembers(java.lang.reflect.Member[] members) {
        int count = 0;
        for (java.lang.reflect.Member member : members) {
            if (!Modifier.isPrivate(member.getModifiers()) && !member.isSynthetic()) {
                Check.due(member.getName() + " is public",
                        Modifier.isPublic(member.getModifiers()) ? 1 : 0, 1);
                count++;
            }
        }
        return count;
    }

    private static void landAsAtFirst() {
        Wakeground land = new Wakeground();
        int[] excess = {0, 2, 3, 2, 0};
        int[] cellAtFirst = {100, 0, 0, 2, 0, Wakeground.NONE, 0, 0};
        Check.due("month", land.month(), 0);
        Check.due("lakes", land.lakes(), 0);
        for (int cell = 0; cell < 25; cell++) {
            for (int what = 0; what < 8; what++) {
                Check.due("cellOf(" + cell + ", " + what + ")", land.cellOf(cell, what), cellAtFirst[what]);
            }
            for (int layer = 0; layer < 5; layer++) {
                int[] layerAtFirst = {-10, -1000, 5, excess[layer], 400, 0};
                for (int what = 0; what < 6; what++) {
                    Check.due("layerOf(" + cell + ", " + layer + ", " + what + ")",
                            land.layerOf(cell, layer, what), layerAtFirst[what]);
                }
            }
        }
        long[] inLand = {-125000, 800, 50000};
        for (int kind = 0; kind < 3; kind++) {
            Check.due("balance(" + kind + ", 0)", land.balance(kind, 0), inLand[kind]);
            Check.due("balance(" + kind + ", 1)", land.balance(kind, 1), inLand[kind]);
            Check.due("balance(" + kind + ", 2)", land.balance(kind, 2), 0);
            Check.due("balance(" + kind + ", 3)", land.balance(kind, 3), 0);
        }
        Check.due("air(SMOKE)", land.air(Wakeground.SMOKE), 0);
        Check.due("air(MARSH)", land.air(Wakeground.MARSH), 0);
        Check.noIndex("houseOf(0, 0)", land, () -> land.houseOf(0, 0));
        Check.noIndex("reading(0, 0, 0)", land, () -> land.reading(0, 0, 0));
        Check.noIndex("claimOf(0)", land, () -> land.claimOf(0));
    }

    /** What happens in one land does not happen in another one. */
    private static void landsApart() {
        Wakeground one = new Wakeground();
        Wakeground other = new Wakeground();
        one.ground(3, 0, 0, 9, 30000, 1000);
        one.pass(5, 20, 0);
        one.house(1, 2, true);
        one.borehole(1, 3);
        one.claim(0);
        Check.alike("another land", other, new Wakeground());
    }
}
