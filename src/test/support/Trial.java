import java.util.ArrayList;
import java.util.List;

/** A desk under test, with the calls that it has had, so that more of its like can be made. */
final class Trial {
    /** What a desk answers behind that many calls is free. */
    private static final int MOST_CALLS = 512;

    private final List<Call> kept = new ArrayList<>();
    private final WallDesk desk = new WallDesk();
    private int calls;

    /** Calls that must not be refused, whatever else they answer. */
    Trial does(String... texts) {
        for (String text : texts) {
            Call call = Call.of(text);
            long got = ask(call);
            Edges.due(got >= 0, () -> text + " answered " + got + ", and should be granted");
            kept.add(call);
        }
        return this;
    }

    Trial times(int n, String text) {
        for (int i = 0; i < n; i++) {
            does(text);
        }
        return this;
    }

    Trial gives(String text, long want) {
        Call call = Call.of(text);
        answers(call, want);
        if (!call.isLook()) {
            kept.add(call);
        }
        return this;
    }

    /** The call is refused, and a desk that had it is held against one that had not. */
    Trial refuses(String text, long want) {
        Call call = Call.of(text);
        answers(call, want);
        for (List<Call> probes : Probes.of(again())) {
            int room = MOST_CALLS - kept.size() - 1;
            for (int from = 0; from < probes.size(); from += room) {
                sameOn(call, probes.subList(from, Math.min(probes.size(), from + room)));
            }
        }
        return this;
    }

    long ask(Call call) {
        calls++;
        Edges.due(calls <= MOST_CALLS, () -> "the test makes more calls than a desk has");
        return call.on(desk);
    }

    private void answers(Call call, long want) {
        long got = ask(call);
        Edges.due(got == want, () -> call + " answered " + got + ", due is " + want + told());
    }

    private String told() {
        int from = Math.max(0, kept.size() - 12);
        return " behind" + (from > 0 ? " .. " : " ") + kept.subList(from, kept.size());
    }

    private WallDesk again() {
        WallDesk x = new WallDesk();
        for (Call call : kept) {
            call.on(x);
        }
        return x;
    }

    private void sameOn(Call refused, List<Call> probes) {
        WallDesk with = again();
        WallDesk without = again();
        refused.on(with);
        for (Call probe : probes) {
            long got = probe.on(with);
            long want = probe.on(without);
            Edges.due(got == want, () -> refused + " is refused, and yet " + probe + " answered " + got
                    + " behind it, and " + want + " without it" + told());
            if (got != want) {
                return;
            }
        }
    }
}
