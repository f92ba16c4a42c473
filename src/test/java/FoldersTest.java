/** Promises 1 and 5 to 12: a new object, the folders, their entries and the rights by them. */
public final class FoldersTest {
    private static final int[] NO_FOLDERS = {-1, 1, 20, Integer.MIN_VALUE, Integer.MAX_VALUE};
    private static final int[] NO_PERSONS = {-1, 8, 13, Integer.MIN_VALUE, Integer.MAX_VALUE};
    private static final int[] NOBODY = {-1, 14, Integer.MIN_VALUE, Integer.MAX_VALUE};
    private static final int[] NO_RIGHTS = {-1, 0, 8, Integer.MIN_VALUE, Integer.MAX_VALUE};
    private static final int[] NO_SCOPES = {-1, 3, Integer.MIN_VALUE, Integer.MAX_VALUE};

    public static void main(String[] args) {
        promise1NewObject();
        promise5AddFolder();
        promise5WrongInputs();
        promise6SetOwner();
        promise6WrongInputs();
        promise7SetInherits();
        promise7WrongInputs();
        promise8Allow();
        promise8WrongInputs();
        promise8WhichExceptionComesFirst();
        promise9Drop();
        promise9WrongInputs();
        promise10Folders();
        promises11And12TheFirstDecides();
        promises11And12ScopesAndLevels();
        promises11And12Groups();
        promises11And12WrongInputs();
        Check.end();
    }

    private static void rightsAre(ShareMover x, String what, int due, int person, int folder) {
        Check.is(what, due, x.rights(person, folder));
        Check.is(what + ", backwards", due, x.rightsBackwards(person, folder));
    }

    private static void promise1NewObject() {
        ShareMover x = new ShareMover();
        Check.is("NONE", -1, ShareMover.NONE);
        Check.is("HERE", 0, ShareMover.HERE);
        Check.is("BELOW", 1, ShareMover.BELOW);
        Check.is("BOTH", 2, ShareMover.BOTH);
        Check.is("one folder", 1, x.folders());
        rightsAre(x, "its owner is 0", 7, 0, 0);
        for (int person = 1; person < 8; person++) {
            rightsAre(x, "no rights of " + person, 0, person, 0);
        }
        for (int group = 0; group < 6; group++) {
            Check.is("empty group", 0, x.members(group));
        }
        Check.is("inherits", true, x.setInherits(0, true));
        Check.noSuch("has no entries", () -> x.drop(0, 0));
        Check.badState("has no kept mapping", () -> Check.bit(x.turn(0)));
        ShareMover other = new ShareMover();
        x.setMember(0, 1, true);
        x.addFolder(0, 1);
        Check.is("objects share no folders", 1, other.folders());
        Check.is("objects share no groups", 0, other.members(0));
    }

    private static void promise5AddFolder() {
        ShareMover x = new ShareMover();
        Check.is("first", 1, x.addFolder(0, 7));
        Check.is("below it", 2, x.addFolder(1, 0));
        Check.is("beside it", 3, x.addFolder(0, 3));
        rightsAre(x, "owner of 1", 7, 7, 1);
        rightsAre(x, "owner of 2", 7, 0, 2);
        rightsAre(x, "the owner of the parent is nobody here", 0, 7, 2);
        x.allow(1, 5, true, 4, ShareMover.BELOW);
        rightsAre(x, "2 is below 1", 4, 5, 2);
        rightsAre(x, "3 is not below 1", 0, 5, 3);
        Check.is("inherits at first", true, x.setInherits(2, true));
        Check.noSuch("has no entries at first", () -> x.drop(2, 0));
        Check.badState("has no kept mapping", () -> Check.bit(x.turn(2)));
        for (int number = 4; number < 20; number++) {
            Check.is("more", number, x.addFolder(number - 1, number % 8));
        }
        Check.badState("the 21st", () -> x.addFolder(0, 0));
        Check.noSuch("no such parent goes ahead", () -> x.addFolder(20, 0));
        Check.noSuch("no such owner goes ahead", () -> x.addFolder(19, 8));
        Check.is("20 stay", 20, x.folders());
    }

    private static void promise5WrongInputs() {
        ShareMover x = new ShareMover();
        for (int parent : NO_FOLDERS) {
            Check.noSuch("addFolder in " + parent, () -> x.addFolder(parent, 0));
        }
        for (int owner : NO_PERSONS) {
            Check.noSuch("addFolder of " + owner, () -> x.addFolder(0, owner));
        }
        Check.is("none was added", 1, x.folders());
    }

    private static void promise6SetOwner() {
        ShareMover x = new ShareMover();
        Check.is("0 was it", 0, x.setOwner(0, 7));
        Check.is("7 was it", 7, x.setOwner(0, 7));
        rightsAre(x, "7 is it", 7, 7, 0);
        rightsAre(x, "0 is not", 0, 0, 0);
        x.allow(0, 7, false, 7, ShareMover.HERE);
        rightsAre(x, "nothing is denied to the owner", 7, 7, 0);
        Check.is("7 was it still", 7, x.setOwner(0, 1));
        rightsAre(x, "it is denied then", 0, 7, 0);
    }

    private static void promise6WrongInputs() {
        ShareMover x = new ShareMover();
        for (int folder : NO_FOLDERS) {
            Check.noSuch("setOwner of " + folder, () -> x.setOwner(folder, 1));
        }
        for (int owner : NO_PERSONS) {
            Check.noSuch("setOwner to " + owner, () -> x.setOwner(0, owner));
        }
        rightsAre(x, "0 is the owner still", 7, 0, 0);
    }

    private static void promise7SetInherits() {
        ShareMover x = new ShareMover();
        x.addFolder(0, 0);
        x.addFolder(1, 0);
        x.allow(0, 1, true, 4, ShareMover.BELOW);
        x.allow(1, 1, true, 2, ShareMover.BOTH);
        x.allow(2, 1, true, 1, ShareMover.BOTH);
        rightsAre(x, "of three levels", 7, 1, 2);
        Check.is("1 did inherit", true, x.setInherits(1, false));
        Check.is("1 does not", false, x.setInherits(1, false));
        rightsAre(x, "cut above 1", 3, 1, 2);
        rightsAre(x, "1 itself", 2, 1, 1);
        Check.is("2 did inherit", true, x.setInherits(2, false));
        rightsAre(x, "cut above 2", 1, 1, 2);
        Check.is("1 did not", false, x.setInherits(1, true));
        rightsAre(x, "2 is cut still", 1, 1, 2);
        Check.is("2 did not", false, x.setInherits(2, true));
        rightsAre(x, "all again", 7, 1, 2);
        Check.is("0 has no parent, and inherits", true, x.setInherits(0, false));
        rightsAre(x, "from 0 it comes all the same", 7, 1, 2);
        Check.is("0 does not any more", false, x.setInherits(0, true));
    }

    private static void promise7WrongInputs() {
        ShareMover x = new ShareMover();
        for (int folder : NO_FOLDERS) {
            Check.noSuch("setInherits of " + folder, () -> Check.bit(x.setInherits(folder, false)));
        }
        Check.is("nothing changed", true, x.setInherits(0, true));
    }

    private static void promise8Allow() {
        ShareMover x = new ShareMover();
        for (int rights = 1; rights <= 6; rights++) {
            Check.is("entry " + rights, rights, x.allow(0, rights, true, rights, ShareMover.BOTH));
        }
        for (int person = 1; person <= 6; person++) {
            rightsAre(x, "person " + person, person, person, 0);
        }
        Check.badState("the 7th", () -> x.allow(0, 7, true, 7, ShareMover.HERE));
        rightsAre(x, "it is not there", 0, 7, 0);
        x.addFolder(0, 0);
        Check.is("other folders have their own", 1, x.allow(1, 13, false, 7, ShareMover.BELOW));
        Check.is("a second one", 2, x.allow(1, 0, false, 1, ShareMover.HERE));
        Check.is("the last is behind the others", 1, x.drop(1, 1));
    }

    private static void promise8WrongInputs() {
        ShareMover x = new ShareMover();
        for (int folder : NO_FOLDERS) {
            Check.noSuch("allow in " + folder, () -> x.allow(folder, 1, true, 7, ShareMover.HERE));
        }
        for (int who : NOBODY) {
            Check.noSuch("allow to " + who, () -> x.allow(0, who, true, 7, ShareMover.HERE));
        }
        for (int rights : NO_RIGHTS) {
            Check.badArgument("allow of " + rights, () -> x.allow(0, 1, true, rights, ShareMover.HERE));
        }
        for (int scope : NO_SCOPES) {
            Check.badArgument("allow for " + scope, () -> x.allow(0, 1, true, 7, scope));
        }
        rightsAre(x, "nothing changed", 0, 1, 0);
        Check.is("it is the first entry", 1, x.allow(0, 1, true, 7, ShareMover.HERE));
    }

    private static void promise8WhichExceptionComesFirst() {
        ShareMover x = new ShareMover();
        Check.noSuch("folder, rights", () -> x.allow(1, 1, true, 0, ShareMover.HERE));
        Check.noSuch("who, scope", () -> x.allow(0, 14, true, 1, 3));
        for (int i = 0; i < 6; i++) {
            x.allow(0, 1, true, 1, ShareMover.HERE);
        }
        Check.noSuch("who, full", () -> x.allow(0, -1, true, 1, ShareMover.HERE));
        Check.noSuch("who, rights, scope, full", () -> x.allow(0, 14, true, 8, -1));
        Check.badArgument("rights, full", () -> x.allow(0, 1, true, 8, ShareMover.HERE));
        Check.badArgument("scope, full", () -> x.allow(0, 1, true, 1, -1));
        Check.badState("full", () -> x.allow(0, 1, true, 1, ShareMover.HERE));
    }

    private static void promise9Drop() {
        ShareMover x = new ShareMover();
        for (int rights = 1; rights <= 6; rights++) {
            x.allow(0, rights, rights % 2 == 0, rights, ShareMover.BOTH);
        }
        Check.is("the last", 6, x.drop(0, 5));
        Check.is("the first, which denies", 1, x.drop(0, 0));
        Check.is("the one behind moved up", 2, x.drop(0, 0));
        Check.is("the middle one", 4, x.drop(0, 1));
        rightsAre(x, "its right is gone", 0, 4, 0);
        Check.is("behind it", 5, x.drop(0, 1));
        Check.is("what is left", 3, x.drop(0, 0));
        Check.noSuch("none is left", () -> x.drop(0, 0));
        Check.is("there is room again", 1, x.allow(0, 1, true, 7, ShareMover.HERE));
    }

    private static void promise9WrongInputs() {
        ShareMover x = new ShareMover();
        x.allow(0, 1, true, 7, ShareMover.HERE);
        for (int folder : NO_FOLDERS) {
            Check.noSuch("drop in " + folder, () -> x.drop(folder, 0));
        }
        for (int entry : new int[] {-1, 1, 6, Integer.MIN_VALUE, Integer.MAX_VALUE}) {
            Check.noSuch("drop of " + entry, () -> x.drop(0, entry));
        }
        rightsAre(x, "it is there", 7, 1, 0);
    }

    private static void promise10Folders() {
        ShareMover x = new ShareMover();
        for (int number = 1; number < 20; number++) {
            Check.is("folders", number, x.folders());
            x.addFolder(0, 0);
        }
        Check.is("folders", 20, x.folders());
    }

    private static void promises11And12TheFirstDecides() {
        ShareMover x = new ShareMover();
        x.allow(0, 1, false, 2, ShareMover.HERE);
        x.allow(0, 1, true, 6, ShareMover.BOTH);
        rightsAre(x, "denied first", 4, 1, 0);
        x.allow(0, 1, false, 7, ShareMover.BOTH);
        rightsAre(x, "what is behind decides what is left", 4, 1, 0);
        x.allow(0, 1, true, 1, ShareMover.BOTH);
        rightsAre(x, "1 is denied", 4, 1, 0);
        x.drop(0, 2);
        rightsAre(x, "1 is not denied", 5, 1, 0);
        x.drop(0, 0);
        rightsAre(x, "2 is not denied", 7, 1, 0);
        rightsAre(x, "others have nothing", 0, 2, 0);
        rightsAre(x, "the owner has all", 7, 0, 0);
    }

    private static void promises11And12ScopesAndLevels() {
        ShareMover x = new ShareMover();
        for (int number = 1; number < 20; number++) {
            x.addFolder(number - 1, 0);
        }
        x.allow(0, 1, true, 4, ShareMover.HERE);
        x.allow(0, 1, true, 2, ShareMover.BELOW);
        x.allow(0, 1, true, 1, ShareMover.BOTH);
        rightsAre(x, "HERE and BOTH", 5, 1, 0);
        rightsAre(x, "BELOW and BOTH", 3, 1, 1);
        rightsAre(x, "at nineteen levels", 3, 1, 19);
        x.allow(10, 1, false, 2, ShareMover.BELOW);
        rightsAre(x, "not on 10 itself", 3, 1, 10);
        rightsAre(x, "the nearer one decides", 1, 1, 19);
        x.allow(19, 1, true, 6, ShareMover.HERE);
        rightsAre(x, "its own one decides first", 7, 1, 19);
        x.allow(18, 1, true, 4, ShareMover.HERE);
        x.drop(19, 0);
        rightsAre(x, "HERE of the parent does not count", 1, 1, 19);
        x.allow(19, 1, true, 4, ShareMover.BELOW);
        rightsAre(x, "BELOW of its own does not count", 1, 1, 19);
        x.setInherits(15, false);
        rightsAre(x, "cut on the way", 0, 1, 19);
        x.allow(15, 1, true, 4, ShareMover.BOTH);
        rightsAre(x, "the one that is cut gives its own", 4, 1, 19);
    }

    private static void promises11And12Groups() {
        ShareMover x = new ShareMover();
        x.setMember(5, 7, true);
        x.nest(0, 5);
        x.allow(0, 8, false, 4, ShareMover.HERE);
        x.allow(0, 13, true, 6, ShareMover.HERE);
        x.allow(0, 7, true, 5, ShareMover.HERE);
        rightsAre(x, "denied by the outer group", 3, 7, 0);
        x.nest(0, 5);
        rightsAre(x, "taken out of it", 7, 7, 0);
        x.setMember(5, 7, false);
        rightsAre(x, "in no group", 5, 7, 0);
        x.setMember(0, 0, true);
        rightsAre(x, "the owner", 7, 0, 0);
        x.setMember(5, 5, true);
        rightsAre(x, "13 is the group 5, not a person", 6, 5, 0);
    }

    private static void promises11And12WrongInputs() {
        ShareMover x = new ShareMover();
        for (int folder : NO_FOLDERS) {
            Check.noSuch("rights on " + folder, () -> x.rights(0, folder));
            Check.noSuch("rightsBackwards on " + folder, () -> x.rightsBackwards(0, folder));
        }
        for (int person : NO_PERSONS) {
            Check.noSuch("rights of " + person, () -> x.rights(person, 0));
            Check.noSuch("rightsBackwards of " + person, () -> x.rightsBackwards(person, 0));
        }
    }
}
