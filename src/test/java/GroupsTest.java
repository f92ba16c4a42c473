/** Promises 2 to 4: setMember, nest and members. */
public final class GroupsTest {
    private static final int[] NO_GROUPS = {-1, 6, 8, Integer.MIN_VALUE, Integer.MAX_VALUE};
    private static final int[] NO_PERSONS = {-1, 8, 13, Integer.MIN_VALUE, Integer.MAX_VALUE};

    public static void main(String[] args) {
        promise2SetMember();
        promise2WrongInputs();
        promise3Nest();
        promise3NestRefusesCircles();
        promise3WrongInputs();
        promise4Members();
        promise4WrongInputs();
        Check.end();
    }

    private static void promise2SetMember() {
        ShareMover x = new ShareMover();
        Check.is("had 7 first", false, x.setMember(5, 7, true));
        Check.is("had 7 again", true, x.setMember(5, 7, true));
        Check.is("has 7", 1 << 7, x.members(5));
        Check.is("had 7 before it went", true, x.setMember(5, 7, false));
        Check.is("had 7 after it went", false, x.setMember(5, 7, false));
        Check.is("has nobody", 0, x.members(5));
        Check.is("had 0", false, x.setMember(0, 0, true));
        Check.is("had 1", false, x.setMember(0, 1, true));
        Check.is("has 0 and 1", 3, x.members(0));
        Check.is("others are left alone", 0, x.members(1));
        x.nest(1, 0);
        Check.is("a person of an inner group is not had", false, x.setMember(1, 0, false));
        Check.is("but is in the group", 3, x.members(1));
    }

    private static void promise2WrongInputs() {
        ShareMover x = new ShareMover();
        for (int group : NO_GROUPS) {
            Check.noSuch("setMember of group " + group, () -> Check.bit(x.setMember(group, 0, true)));
        }
        for (int person : NO_PERSONS) {
            Check.noSuch("setMember of person " + person, () -> Check.bit(x.setMember(0, person, true)));
        }
        for (int group = 0; group < 6; group++) {
            Check.is("nothing changed in " + group, 0, x.members(group));
        }
    }

    private static void promise3Nest() {
        ShareMover x = new ShareMover();
        x.setMember(1, 4, true);
        x.setMember(2, 5, true);
        Check.is("nest 0 1", true, x.nest(0, 1));
        Check.is("nest 1 2", true, x.nest(1, 2));
        Check.is("4 and 5 are in 0", 48, x.members(0));
        Check.is("2 goes into 0 itself, too, though it was in it deeper", true, x.nest(0, 2));
        Check.is("1 is taken out of 0", false, x.nest(0, 1));
        Check.is("5 stays in 0", 32, x.members(0));
        Check.is("4 and 5 stay in 1", 48, x.members(1));
        Check.is("2 is taken out of 0", false, x.nest(0, 2));
        Check.is("0 is empty", 0, x.members(0));
        Check.is("1 can have 0 now", true, x.nest(2, 0));
        Check.is("5 goes", true, x.setMember(2, 5, false));
        Check.is("2 has what 0 has", 0, x.members(2));
    }

    private static void promise3NestRefusesCircles() {
        ShareMover x = new ShareMover();
        for (int group = 0; group < 6; group++) {
            int same = group;
            Check.badState("nest of " + same + " in itself", () -> Check.bit(x.nest(same, same)));
        }
        for (int group = 0; group < 5; group++) {
            Check.is("nest " + group, true, x.nest(group, group + 1));
        }
        for (int outer = 1; outer < 6; outer++) {
            for (int inner = 0; inner < outer; inner++) {
                int below = outer;
                int above = inner;
                Check.badState("nest " + below + " " + above, () -> Check.bit(x.nest(below, above)));
            }
        }
        x.setMember(5, 3, true);
        Check.is("at five levels", 8, x.members(0));
        Check.is("cut in the middle", false, x.nest(2, 3));
        Check.is("5 can have 0 then", true, x.nest(5, 0));
        Check.is("and 3 has what 5 has", 8, x.members(3));
        Check.is("0 has it no more", 0, x.members(0));
        Check.badState("2 can't have 3 now", () -> Check.bit(x.nest(2, 3)));
    }

    private static void promise3WrongInputs() {
        ShareMover x = new ShareMover();
        for (int group : NO_GROUPS) {
            Check.noSuch("nest in " + group, () -> Check.bit(x.nest(group, 0)));
            Check.noSuch("nest of " + group, () -> Check.bit(x.nest(0, group)));
            Check.noSuch("no such group goes ahead of the same", () -> Check.bit(x.nest(group, group)));
        }
        x.setMember(0, 1, true);
        x.nest(3, 0);
        Check.badState("nest 0 3", () -> Check.bit(x.nest(0, 3)));
        Check.is("3 is as before", 2, x.members(3));
        Check.is("0 is as before", 2, x.members(0));
        Check.is("0 was in 3 still", false, x.nest(3, 0));
    }

    private static void promise4Members() {
        ShareMover x = new ShareMover();
        for (int group = 0; group < 6; group++) {
            Check.is("empty at first", 0, x.members(group));
        }
        for (int person = 0; person < 8; person++) {
            x.setMember(3, person, true);
        }
        Check.is("all", 255, x.members(3));
        x.setMember(1, 2, true);
        x.setMember(0, 6, true);
        x.nest(5, 1);
        x.nest(5, 0);
        x.nest(1, 0);
        Check.is("of two groups, by two ways", 68, x.members(5));
        x.setMember(0, 6, false);
        Check.is("gone from below", 4, x.members(5));
        x.setMember(5, 2, true);
        x.nest(5, 1);
        Check.is("its own one stays", 4, x.members(5));
    }

    private static void promise4WrongInputs() {
        ShareMover x = new ShareMover();
        for (int group : NO_GROUPS) {
            Check.noSuch("members of " + group, () -> x.members(group));
        }
    }
}
