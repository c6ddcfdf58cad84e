import java.util.function.Consumer;

/**
 * All that can be seen of an object after a run of calls. One object may not be asked for all of it, so the
 * same calls are made on several, and each is asked for a part.
 */
final class View {
    private static final int PARTS_OF_MEMORY = 4;

    private View() {
    }

    static String after(Consumer<Warden> calls) {
        StringBuilder text = new StringBuilder();
        for (int part = 0; part < PARTS_OF_MEMORY; part++) {
            Warden warden = new Warden();
            calls.accept(warden);
            memory(text, warden, 64 * part);
        }
        Warden warden = new Warden();
        calls.accept(warden);
        row(text, "counts", 10, warden::count);
        row(text, "registers", 16, i -> warden.register(i / 2, i % 2));
        row(text, "leaks", 4, i -> warden.leaks(i + 1));
        row(text, "findings", 4 * warden.count(3), i -> warden.finding(i / 4, i % 4));
        row(text, "blocks", 4 * warden.count(7), i -> warden.block(i / 4 + 1, i % 4));
        return text.toString();
    }

    private interface Asked {
        int answer(int i);
    }

    private static void memory(StringBuilder text, Warden warden, int from) {
        row(text, "bytes from " + from, 64, i -> warden.memory(from + i, 0));
        row(text, "open from " + from, 64, i -> warden.memory(from + i, 1));
        row(text, "known from " + from, 64, i -> warden.memory(from + i, 2));
    }

    private static void row(StringBuilder text, String name, int many, Asked asked) {
        text.append(name);
        for (int i = 0; i < many; i++) {
            int index = i;
            text.append(' ').append(Check.outcome(() -> asked.answer(index)));
        }
        text.append('\n');
    }

    /** What comes after makes visible what an object only shows when it runs. */
    static void staysAfterRefusal(String what, Consumer<Warden> before, Consumer<Warden> refused, Consumer<Warden> then) {
        String without = after(before.andThen(then));
        String with = after(before.andThen(warden -> Check.outcome(() -> refused.accept(warden))).andThen(then));
        Check.same(what + " leaves all as it was", with, without);
    }
}
