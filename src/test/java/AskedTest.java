import java.util.List;
import java.util.function.Supplier;

/** What is asked (promises 10 to 20) changes nothing, whatever it answers. */
public final class AskedTest {
    /** So many are asked ahead, that those asked behind them stay within the 512 calls. */
    private static final int AHEAD = 90;

    public static void main(String[] args) {
        asked("a new land", Wakeground::new);
        asked("a rich land", Lands::rich);
        asked("a land with ten boreholes", Lands::boreholes);
        Check.end("AskedTest");
    }

    private static void asked(String what, Supplier<Wakeground> land) {
        List<Questions.Question> all = Questions.all(land.get());
        for (int i = 0; i < all.size(); i += AHEAD) {
            List<Questions.Question> ahead = all.subList(i, Math.min(i + AHEAD, all.size()));
            Check.alike(what + ", asked from " + i, () -> {
                Wakeground made = land.get();
                for (Questions.Question question : ahead) {
                    Questions.answer(made, question.ask());
                }
                return made;
            }, land);
        }
    }
}
