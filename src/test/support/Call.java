import java.util.Arrays;

/** One call of a desk, told as its text is: "read(3, 0)". */
final class Call {
    private final String text;
    private final String name;
    private final int[] a;

    private Call(String text, String name, int[] a) {
        this.text = text;
        this.name = name;
        this.a = a;
    }

    static Call of(String text) {
        int bracket = text.indexOf('(');
        String inside = text.substring(bracket + 1, text.length() - 1);
        int[] a = inside.isEmpty()
                ? new int[0]
                : Arrays.stream(inside.split(", ")).mapToInt(Integer::parseInt).toArray();
        return new Call(text, text.substring(0, bracket), a);
    }

    @Override
    public String toString() {
        return text;
    }

    /** Whether the call only tells; a desk is the same before and behind it. */
    boolean isLook() {
        switch (name) {
            case "canEnd": case "doer": case "told": case "glassTold":
            case "entry": case "link": case "check": case "count":
                return true;
            default:
                return false;
        }
    }

    long on(WallDesk x) {
        switch (name) {
            case "tick": return x.tick(a[0]);
            case "roles": return x.roles(a[0], a[1]);
            case "firm": return x.firm(a[0]);
            case "object": return x.object(a[0]);
            case "read": return x.read(a[0], a[1]);
            case "write": return x.write(a[0], a[1]);
            case "glass": return x.glass(a[0], a[1], a[2]);
            case "takeOff": return x.takeOff(a[0], a[1]);
            case "kind": return x.kind();
            case "task": return x.task(a[0], a[1], a[2]);
            case "apart": return x.apart(a[0], a[1], a[2]);
            case "bound": return x.bound(a[0], a[1], a[2]);
            case "most": return x.most(a[0], a[1]);
            case "open": return x.open(a[0]);
            case "perform": return x.perform(a[0], a[1], a[2]);
            case "canEnd": return x.canEnd(a[0]);
            case "doer": return x.doer(a[0], a[1]);
            case "told": return x.told(a[0], a[1]);
            case "glassTold": return x.glassTold(a[0], a[1]);
            case "entry": return x.entry(a[0], a[1]);
            case "link": return x.link(a[0]);
            case "alter": return x.alter(a[0], a[1], a[2]);
            case "check": return x.check();
            case "count": return x.count(a[0]);
            default: throw new IllegalArgumentException("no such call: " + text);
        }
    }
}
