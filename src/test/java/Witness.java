import java.util.ArrayList;
import java.util.List;

/** Makes the same object again and again, so that one that refused a call can be compared with one that was not asked. */
final class Witness {
    interface Maker {
        ShareMover make();
    }

    interface Act {
        long on(ShareMover x);
    }

    private final String name;
    private final Maker maker;
    private final int folders;
    private final List<String> untouched = new ArrayList<>();

    Witness(String name, Maker maker) {
        this.name = name;
        this.maker = maker;
        this.folders = maker.make().folders();
        for (int part = 0; part <= folders; part++) {
            untouched.add(told(part, maker.make()));
        }
    }

    int folders() {
        return folders;
    }

    void noSuch(String what, Act act) {
        refuses("IndexOutOfBoundsException", what, act);
    }

    void badArgument(String what, Act act) {
        refuses("IllegalArgumentException", what, act);
    }

    void badState(String what, Act act) {
        refuses("IllegalStateException", what, act);
    }

    void refuses(String due, String what, Act act) {
        String call = name + ": " + what;
        for (int part = 0; part <= folders; part++) {
            ShareMover x = maker.make();
            Check.note(call, due, Check.outcome(() -> act.on(x)));
            String after = told(part, x);
            if (!after.equals(untouched.get(part))) {
                Check.note(call + " changed", firstDifference(untouched.get(part), after), "");
            }
        }
    }

    /** For the witness itself: a change that a call makes has to be seen. */
    void sees(String what, Act act) {
        boolean seen = false;
        for (int part = 0; part <= folders; part++) {
            ShareMover x = maker.make();
            act.on(x);
            seen |= !told(part, x).equals(untouched.get(part));
        }
        Check.is(name + ": a witness sees " + what, true, seen);
    }

    private static String firstDifference(String before, String after) {
        String[] was = before.split("\n");
        String[] is = after.split("\n");
        int line = 0;
        while (line < was.length && line < is.length && was[line].equals(is[line])) {
            line++;
        }
        return (line < was.length ? was[line] : "nothing") + " to " + (line < is.length ? is[line] : "nothing");
    }

    /** An object is used for 512 calls at most: so each part is asked of an object of its own, and may be spoilt. */
    private static String told(int part, ShareMover x) {
        StringBuilder text = new StringBuilder();
        if (part == 0) {
            tellGroups(text, x);
        } else {
            tellFolder(text, x, part - 1);
        }
        return text.toString();
    }

    private static void tell(StringBuilder text, String what, Check.Call call) {
        text.append(what).append(": ").append(Check.outcome(call)).append('\n');
    }

    private static void tellGroups(StringBuilder text, ShareMover x) {
        tell(text, "folders", x::folders);
        for (int group = 0; group < 6; group++) {
            int g = group;
            tell(text, "members " + g, () -> x.members(g));
        }
        for (int group = 0; group < 6; group++) {
            for (int person = 0; person < 8; person++) {
                int g = group;
                int p = person;
                tell(text, g + " had " + p, () -> Check.bit(x.setMember(g, p, false)));
            }
        }
        for (int outer = 0; outer < 6; outer++) {
            for (int inner = 0; inner < 6; inner++) {
                int o = outer;
                int i = inner;
                tell(text, "nest " + o + " " + i, () -> Check.bit(x.nest(o, i)));
                tell(text, "nest back " + o + " " + i, () -> Check.bit(x.nest(o, i)));
            }
        }
    }

    private static void tellFolder(StringBuilder text, ShareMover x, int folder) {
        tellRightsByEntries(text, x, folder);
        tellMapping(text, x, folder);
        tellSwitch(text, x, folder);
        tell(text, "owner", () -> x.setOwner(folder, 0));
        tell(text, "inherits", () -> Check.bit(x.setInherits(folder, true)));
        tellEntries(text, x, folder);
        tell(text, "pass", x::pass);
    }

    private static void tellRightsByEntries(StringBuilder text, ShareMover x, int folder) {
        for (int person = 0; person < 8; person++) {
            int p = person;
            tell(text, "rights " + p + " " + folder, () -> x.rights(p, folder));
            tell(text, "rightsBackwards " + p + " " + folder, () -> x.rightsBackwards(p, folder));
        }
    }

    private static void tellMapping(StringBuilder text, ShareMover x, int folder) {
        tell(text, "groupOf", () -> x.groupOf(folder));
        tell(text, "bits", () -> x.bits(folder));
        tell(text, "named", () -> x.named(folder));
        tell(text, "loss", () -> x.loss(folder));
        for (int group = ShareMover.NONE; group < 6; group++) {
            int g = group;
            tell(text, "lossWith " + g, () -> x.lossWith(folder, g));
        }
        for (int person = 0; person < 8; person++) {
            int p = person;
            tell(text, "mapped " + p, () -> x.mapped(p, folder));
        }
    }

    /** Both ways: by entries and by what is kept. */
    private static void tellSwitch(StringBuilder text, ShareMover x, int folder) {
        tell(text, "isFresh", () -> Check.bit(x.isFresh(folder)));
        for (int way = 0; way < 2; way++) {
            tell(text, "gainers", () -> x.gainers(folder));
            for (int person = 0; person < 8; person++) {
                int p = person;
                tell(text, "rightsNow " + p, () -> x.rightsNow(p, folder));
            }
            tell(text, "turn", () -> Check.bit(x.turn(folder)));
        }
    }

    /** Takes the entries away one by one; those for below show on a folder that inherits from this one. */
    private static void tellEntries(StringBuilder text, ShareMover x, int folder) {
        String added = Check.outcome(() -> x.addFolder(folder, 0));
        text.append("addFolder: ").append(added).append('\n');
        int last = x.folders() - 1;
        for (int entry = 0; entry <= 6; entry++) {
            tell(text, "drop", () -> x.drop(folder, 0));
            for (int person = 0; person < 8; person++) {
                int p = person;
                tell(text, "then rights " + p, () -> x.rights(p, folder));
                tell(text, "then rights below " + p, () -> x.rights(p, last));
            }
        }
    }
}
