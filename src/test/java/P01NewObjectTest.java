import java.lang.reflect.Member;
import java.lang.reflect.Modifier;

/** Promise 1, and the face: the class, its constants, and the land as at first. */
public final class P01NewObjectTest {
    public static void main(String[] args) {
        constants();
        face();
        monthAndLakes();
        cells();
        layers();
        amounts();
        nothingBuilt();
        landsApart();
        Check.end("P01NewObjectTest");
    }

    private static void constants() {
        Check.due("NONE", Wakeground.NONE, -1);
        Check.due("SMOKE", Wakeground.SMOKE, 0);
        Check.due("MARSH", Wakeground.MARSH, 1);
    }

    private static void face() {
        int modifiers = Wakeground.class.getModifiers();
        Check.so("public and final", Modifier.isPublic(modifiers) && Modifier.isFinal(modifiers));
        Check.due("public methods", publicMembers(Wakeground.class.getDeclaredMethods()), 19);
        Check.due("public fields", publicMembers(Wakeground.class.getDeclaredFields()), 3);
        Check.due("constructors", publicMembers(Wakeground.class.getDeclaredConstructors()), 1);
    }

    private static int publicMembers(Member[] members) {
        int count = 0;
        for (Member member : members) {
            if (!Modifier.isPrivate(member.getModifiers()) && !member.isSynthetic()) {
                Check.so(member.getName() + " is public", Modifier.isPublic(member.getModifiers()));
                count++;
            }
        }
        return count;
    }

    /** "the month 0" */
    private static void monthAndLakes() {
        Wakeground land = new Wakeground();
        Check.due("month", land.month(), 0);
        Check.due("lakes", land.lakes(), 0);
    }

    /** "a height, 100 at first, a pond of water, in units, 0 at first, snow, .. 0 at first, and moss, .. 2 at first" */
    private static void cells() {
        Wakeground land = new Wakeground();
        int[] atFirst = {100, 0, 0, 2, 0, Wakeground.NONE, 0, 0};
        for (int cell = 0; cell < 25; cell++) {
            for (int what = 0; what < 8; what++) {
                Check.due("cellOf(" + cell + ", " + what + ")", land.cellOf(cell, what), atFirst[what]);
            }
        }
    }

    /** "5 units of pore ice, the energy -1000, and 400 of carbon; the excess is 0, 2, 3, 2 and 0 from above" */
    private static void layers() {
        int[] excess = {0, 2, 3, 2, 0};
        for (int cell = 0; cell < 25; cell++) {
            Wakeground land = new Wakeground();
            for (int layer = 0; layer < 5; layer++) {
                int[] atFirst = {-10, -1000, 5, excess[layer], 400, 0};
                for (int what = 0; what < 6; what++) {
                    Check.due("layerOf(" + cell + ", " + layer + ", " + what + ")",
                            land.layerOf(cell, layer, what), atFirst[what]);
                }
            }
        }
    }

    private static void amounts() {
        Wakeground land = new Wakeground();
        long[] inLand = {-125000, 800, 50000};
        for (int kind = 0; kind < 3; kind++) {
            Check.due("balance(" + kind + ", 0)", land.balance(kind, 0), inLand[kind]);
            Check.due("balance(" + kind + ", 1)", land.balance(kind, 1), inLand[kind]);
            Check.due("balance(" + kind + ", 2)", land.balance(kind, 2), 0);
            Check.due("balance(" + kind + ", 3)", land.balance(kind, 3), 0);
        }
        Check.due("air(SMOKE)", land.air(Wakeground.SMOKE), 0);
        Check.due("air(MARSH)", land.air(Wakeground.MARSH), 0);
    }

    /** "there is no such cell, layer, house, borehole, month that was read, or claim": of what is numbered, none */
    private static void nothingBuilt() {
        Check.noIndex("houseOf(0, 0)", Wakeground::new, land -> land.houseOf(0, 0));
        Check.noIndex("reading(0, 0, 0)", Wakeground::new, land -> land.reading(0, 0, 0));
        Check.noIndex("claimOf(0)", Wakeground::new, land -> land.claimOf(0));
        Check.noIndex("claimAnew(0)", Wakeground::new, land -> land.claimAnew(0));
    }

    /** What happens in one land does not happen in another one. */
    private static void landsApart() {
        Check.alike("a land beside another one", () -> {
            Wakeground land = new Wakeground();
            Lands.goneOn(Lands.rich());
            return land;
        }, Wakeground::new);
    }
}
