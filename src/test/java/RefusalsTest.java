import java.util.List;

/**
 * What the calls throw: each exception of each promise alone and with others that apply, on a new
 * object, on one with a few folders and on a full one; and that nothing has changed behind it.
 */
public final class RefusalsTest {
    // 32 is a shift's wrap-around, 256 a byte's; 65536 a short's.
    private static final int[] NO_PERSONS = {-1, 8, 13, 32, 256, Integer.MIN_VALUE, Integer.MAX_VALUE};
    private static final int[] NO_GROUPS = {-1, 6, 8, 13, 32, 256, Integer.MIN_VALUE, Integer.MAX_VALUE};
    private static final int[] NEITHER_GROUP_NOR_NONE =
            {-2, 6, 8, 13, 32, 256, Integer.MIN_VALUE, Integer.MAX_VALUE};
    private static final int[] NOBODY = {-1, 14, 32, 256, Integer.MIN_VALUE, Integer.MAX_VALUE};
    private static final int[] NO_RIGHTS = {-1, 0, 8, 15, 256, 65536, Integer.MIN_VALUE, Integer.MAX_VALUE};
    private static final int[] NO_SCOPES = {-1, 3, 4, 256, 65536, Integer.MIN_VALUE, Integer.MAX_VALUE};

    private final Witness state;
    private final int last;
    private final int[] noFolders;

    private RefusalsTest(Witness state) {
        this.state = state;
        this.last = state.folders() - 1;
        this.noFolders = new int[] {-1, last + 1, 20, 32, 256, Integer.MIN_VALUE, Integer.MAX_VALUE};
    }

    public static void main(String[] args) {
        Witness none = new Witness("new", ShareMover::new);
        Witness few = new Witness("few", States::few);
        Witness full = new Witness("full", States::full);
        theWitnessSeesWhatIsChanged(few);
        for (Witness state : List.of(none, few, full)) {
            new RefusalsTest(state).whatIsNotThere();
        }
        promise3SameOrInTheInnerOne(none, few, full);
        promise5TwentyFolders(full);
        promise8RightsAndScopes(none, few);
        promise8SixEntries(full);
        promise8TheFirstListedIsThrown(few, full);
        promise9NoEntry(none, few, full);
        promise21NothingKept(none, few, full);
        Check.end();
    }

    private static void theWitnessSeesWhatIsChanged(Witness few) {
        few.sees("setMember", x -> Check.bit(x.setMember(5, 7, true)));
        few.sees("setMember of one that is in it deeper", x -> Check.bit(x.setMember(0, 5, true)));
        few.sees("nest", x -> Check.bit(x.nest(4, 5)));
        few.sees("addFolder", x -> x.addFolder(2, 0));
        few.sees("setOwner", x -> x.setOwner(2, 6));
        few.sees("setInherits", x -> Check.bit(x.setInherits(0, true)));
        few.sees("allow here", x -> x.allow(2, 7, true, 7, ShareMover.HERE));
        few.sees("allow below", x -> x.allow(2, 4, true, 1, ShareMover.BELOW));
        few.sees("drop", x -> x.drop(1, 1));
        few.sees("pass", ShareMover::pass);
        few.sees("turn", x -> Check.bit(x.turn(0)));
    }

    /** The calls that take a person, a group or a folder, by their promises. */
    private void whatIsNotThere() {
        promise2SetMember();
        promise3Nest();
        promise4Members();
        promise5AddFolder();
        promise6SetOwner();
        promise7SetInherits();
        promise8Allow();
        promise9Drop();
        promises11And12Rights();
        promises13To17Mapping();
        promise18LossWith();
        promise20IsFresh();
        promise21Turn();
        promise22RightsNow();
        promise23Gainers();
    }

    private void promise2SetMember() {
        for (int group : NO_GROUPS) {
            state.noSuch("2 group " + group, x -> Check.bit(x.setMember(group, 0, true)));
            state.noSuch("2 group " + group + " off", x -> Check.bit(x.setMember(group, 7, false)));
        }
        for (int person : NO_PERSONS) {
            state.noSuch("2 person " + person, x -> Check.bit(x.setMember(0, person, true)));
            state.noSuch("2 person " + person + " off", x -> Check.bit(x.setMember(5, person, false)));
        }
        state.noSuch("2 neither", x -> Check.bit(x.setMember(6, 8, true)));
    }

    private void promise3Nest() {
        for (int group : NO_GROUPS) {
            state.noSuch("3 group " + group, x -> Check.bit(x.nest(group, 5)));
            state.noSuch("3 inner " + group, x -> Check.bit(x.nest(0, group)));
            // Both are the same as well, which is listed behind.
            state.noSuch("3 both " + group, x -> Check.bit(x.nest(group, group)));
        }
    }

    private void promise4Members() {
        for (int group : NO_GROUPS) {
            state.noSuch("4 group " + group, x -> x.members(group));
        }
    }

    private void promise5AddFolder() {
        // On the full object there are 20 folders as well, which is listed behind.
        for (int parent : noFolders) {
            state.noSuch("5 parent " + parent, x -> x.addFolder(parent, 0));
        }
        for (int owner : NO_PERSONS) {
            state.noSuch("5 owner " + owner, x -> x.addFolder(last, owner));
        }
        state.noSuch("5 neither", x -> x.addFolder(last + 1, 8));
    }

    private void promise6SetOwner() {
        for (int folder : noFolders) {
            state.noSuch("6 folder " + folder, x -> x.setOwner(folder, 7));
        }
        for (int owner : NO_PERSONS) {
            state.noSuch("6 owner " + owner, x -> x.setOwner(last, owner));
        }
        state.noSuch("6 neither", x -> x.setOwner(last + 1, 8));
    }

    private void promise7SetInherits() {
        for (int folder : noFolders) {
            state.noSuch("7 folder " + folder, x -> Check.bit(x.setInherits(folder, false)));
            state.noSuch("7 folder " + folder + " on", x -> Check.bit(x.setInherits(folder, true)));
        }
    }

    private void promise8Allow() {
        for (int folder : noFolders) {
            state.noSuch("8 folder " + folder, x -> x.allow(folder, 1, true, 7, ShareMover.HERE));
        }
        for (int who : NOBODY) {
            state.noSuch("8 who " + who, x -> x.allow(last, who, true, 7, ShareMover.HERE));
        }
        state.noSuch("8 neither", x -> x.allow(last + 1, 14, true, 7, ShareMover.HERE));
    }

    private void promise9Drop() {
        for (int folder : noFolders) {
            state.noSuch("9 folder " + folder, x -> x.drop(folder, 0));
        }
        for (int entry : new int[] {-1, 6, 32, Integer.MIN_VALUE, Integer.MAX_VALUE}) {
            state.noSuch("9 entry " + entry, x -> x.drop(last, entry));
        }
        state.noSuch("9 neither", x -> x.drop(last + 1, -1));
    }

    private void promises11And12Rights() {
        for (int person : NO_PERSONS) {
            state.noSuch("11 person " + person, x -> x.rights(person, last));
            state.noSuch("12 person " + person, x -> x.rightsBackwards(person, last));
        }
        for (int folder : noFolders) {
            state.noSuch("11 folder " + folder, x -> x.rights(7, folder));
            state.noSuch("12 folder " + folder, x -> x.rightsBackwards(7, folder));
        }
        state.noSuch("11 neither", x -> x.rights(8, last + 1));
        state.noSuch("12 neither", x -> x.rightsBackwards(8, last + 1));
    }

    private void promises13To17Mapping() {
        for (int folder : noFolders) {
            state.noSuch("13 folder " + folder, x -> x.groupOf(folder));
            state.noSuch("14 folder " + folder, x -> x.bits(folder));
            state.noSuch("15 folder " + folder, x -> x.named(folder));
            state.noSuch("16 folder " + folder, x -> x.mapped(0, folder));
            state.noSuch("17 folder " + folder, x -> x.loss(folder));
        }
        for (int person : NO_PERSONS) {
            state.noSuch("16 person " + person, x -> x.mapped(person, last));
        }
        state.noSuch("16 neither", x -> x.mapped(8, last + 1));
    }

    private void promise18LossWith() {
        for (int folder : noFolders) {
            state.noSuch("18 folder " + folder, x -> x.lossWith(folder, 5));
            state.noSuch("18 folder " + folder + " with NONE", x -> x.lossWith(folder, ShareMover.NONE));
        }
        for (int group : NEITHER_GROUP_NOR_NONE) {
            state.noSuch("18 group " + group, x -> x.lossWith(last, group));
        }
        state.noSuch("18 neither", x -> x.lossWith(last + 1, 6));
    }

    private void promise20IsFresh() {
        for (int folder : noFolders) {
            state.noSuch("20 folder " + folder, x -> Check.bit(x.isFresh(folder)));
        }
    }

    private void promise21Turn() {
        // A folder that is not there has no kept mapping either, which is listed behind.
        for (int folder : noFolders) {
            state.noSuch("21 folder " + folder, x -> Check.bit(x.turn(folder)));
        }
    }

    private void promise22RightsNow() {
        for (int person : NO_PERSONS) {
            state.noSuch("22 person " + person, x -> x.rightsNow(person, last));
            state.noSuch("22 person " + person + " on 0", x -> x.rightsNow(person, 0));
        }
        for (int folder : noFolders) {
            state.noSuch("22 folder " + folder, x -> x.rightsNow(7, folder));
        }
        state.noSuch("22 neither", x -> x.rightsNow(8, last + 1));
    }

    private void promise23Gainers() {
        for (int folder : noFolders) {
            state.noSuch("23 folder " + folder, x -> x.gainers(folder));
        }
    }

    private static void promise3SameOrInTheInnerOne(Witness none, Witness few, Witness full) {
        for (int group = 0; group < 6; group++) {
            int same = group;
            none.badState("3 in itself " + same, x -> Check.bit(x.nest(same, same)));
            few.badState("3 in itself " + same, x -> Check.bit(x.nest(same, same)));
        }
        few.badState("3 in the one that is in it", x -> Check.bit(x.nest(4, 0)));
        for (int outer = 1; outer < 6; outer++) {
            for (int inner = 0; inner <= outer; inner++) {
                int o = outer;
                int i = inner;
                full.badState("3 nest " + o + " " + i, x -> Check.bit(x.nest(o, i)));
            }
        }
    }

    private static void promise5TwentyFolders(Witness full) {
        for (int parent = 0; parent < 20; parent++) {
            int p = parent;
            full.badState("5 the 21st below " + p, x -> x.addFolder(p, p % 8));
        }
    }

    private static void promise8RightsAndScopes(Witness none, Witness few) {
        for (int rights : NO_RIGHTS) {
            none.badArgument("8 rights " + rights, x -> x.allow(0, 0, true, rights, ShareMover.HERE));
            few.badArgument("8 rights " + rights, x -> x.allow(2, 13, false, rights, ShareMover.BOTH));
        }
        for (int scope : NO_SCOPES) {
            none.badArgument("8 scope " + scope, x -> x.allow(0, 0, true, 7, scope));
            few.badArgument("8 scope " + scope, x -> x.allow(2, 13, false, 1, scope));
        }
        few.badArgument("8 neither", x -> x.allow(1, 1, true, 0, 3));
    }

    private static void promise8SixEntries(Witness full) {
        for (int folder = 0; folder < 20; folder++) {
            int f = folder;
            full.badState("8 the 7th in " + f, x -> x.allow(f, f % 14, true, 7, f % 3));
        }
    }

    /** All ways to combine what is out of range; on the full object the row is full as well. */
    private static void promise8TheFirstListedIsThrown(Witness few, Witness full) {
        for (int faults = 1; faults < 16; faults++) {
            int who = (faults & 2) != 0 ? 14 : 1;
            int rights = (faults & 4) != 0 ? 0 : 7;
            int scope = (faults & 8) != 0 ? 3 : ShareMover.BOTH;
            boolean notThere = (faults & 3) != 0;
            for (Witness state : List.of(few, full)) {
                int folder = (faults & 1) != 0 ? state.folders() : 1;
                state.refuses(notThere ? "IndexOutOfBoundsException" : "IllegalArgumentException",
                        "8 faults " + faults, x -> x.allow(folder, who, true, rights, scope));
            }
        }
    }

    private static void promise9NoEntry(Witness none, Witness few, Witness full) {
        none.noSuch("9 the first of none", x -> x.drop(0, 0));
        few.noSuch("9 the first of none", x -> x.drop(2, 0));
        few.noSuch("9 the third of two", x -> x.drop(0, 2));
        few.noSuch("9 the fourth of three", x -> x.drop(1, 3));
        full.noSuch("9 the seventh of six", x -> x.drop(0, 6));
        full.noSuch("9 ahead of the first", x -> x.drop(0, -1));
    }

    private static void promise21NothingKept(Witness none, Witness few, Witness full) {
        none.badState("21 no pass was made", x -> Check.bit(x.turn(0)));
        few.badState("21 added behind the pass", x -> Check.bit(x.turn(2)));
        full.badState("21 added behind the pass", x -> Check.bit(x.turn(19)));
    }
}
