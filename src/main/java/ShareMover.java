import java.util.ArrayList;

/**
 * A mover of file shares from rights by entries to a second scheme of three sets of bits with some
 * named persons. A set of persons, of groups or of rights is an int with a bit for each.
 */
public final class ShareMover {
    public static final int NONE = -1;
    public static final int HERE = 0, BELOW = 1, BOTH = 2;

    private static final int PERSONS = 8;
    private static final int GROUPS = 6;
    private static final int MOST_FOLDERS = 20;
    private static final int MOST_ENTRIES = 6;
    private static final int MOST_NAMED = 3;
    private static final int EVERYBODY = (1 << PERSONS) - 1;
    private static final int ALL_RIGHTS = 7;

    private final Groups groups = new Groups();
    private final ArrayList<Folder> tree = new ArrayList<>();
    // Made once and filled anew by each call that asks for a mapping: a call makes no objects for it.
    private final Mapping mapping = new Mapping();

    public ShareMover() {
        tree.add(new Folder(null, 0));
    }

    // ---- groups

    public boolean setMember(int group, int person, boolean has) throws IndexOutOfBoundsException {
        refuseNoGroup(group);
        refuseNoPerson(person);
        return groups.put(group, person, has);
    }

    public boolean nest(int group, int inner) throws IndexOutOfBoundsException, IllegalStateException {
        refuseNoGroup(group);
        refuseNoGroup(inner);
        // A group reaches itself, so this refuses two that are the same as well.
        if (contains(groups.reachedFrom(inner), group)) {
            throw new IllegalStateException("the outer group is in the inner one");
        }
        return groups.toggleInner(group, inner);
    }

    public int members(int group) throws IndexOutOfBoundsException {
        refuseNoGroup(group);
        return groups.everyoneIn(group);
    }

    // ---- folders

    public int addFolder(int parent, int owner) throws IndexOutOfBoundsException, IllegalStateException {
        Folder above = folderAt(parent);
        refuseNoPerson(owner);
        if (tree.size() >= MOST_FOLDERS) {
            throw new IllegalStateException("there are 20 folders");
        }
        tree.add(new Folder(above, owner));
        return tree.size() - 1;
    }

    public int setOwner(int folder, int owner) throws IndexOutOfBoundsException {
        Folder at = folderAt(folder);
        refuseNoPerson(owner);
        int before = at.owner;
        at.owner = owner;
        return before;
    }

    public boolean setInherits(int folder, boolean inherits) throws IndexOutOfBoundsException {
        Folder at = folderAt(folder);
        boolean before = at.inherits;
        at.inherits = inherits;
        return before;
    }

    public int allow(int folder, int who, boolean allows, int rights, int scope)
            throws IndexOutOfBoundsException, IllegalArgumentException, IllegalStateException {
        Folder at = folderAt(folder);
        if (who < 0 || who >= PERSONS + GROUPS) {
            throw new IndexOutOfBoundsException("no such person or group");
        }
        if (rights < 1 || rights > ALL_RIGHTS || scope < HERE || scope > BOTH) {
            throw new IllegalArgumentException("rights or scope out of range");
        }
        if (at.row.size() >= MOST_ENTRIES) {
            throw new IllegalStateException("the folder has 6 entries");
        }
        at.row.add(new Entry(who, allows, rights, scope));
        return at.row.size();
    }

    public int drop(int folder, int entry) throws IndexOutOfBoundsException {
        Folder at = folderAt(folder);
        if (entry < 0 || entry >= at.row.size()) {
            throw new IndexOutOfBoundsException("no such entry");
        }
        return at.row.remove(entry).rights;
    }

    public int folders() {
        return tree.size();
    }

    public int rights(int person, int folder) throws IndexOutOfBoundsException {
        refuseNoPerson(person);
        return rightsByEntries(person, folderAt(folder));
    }

    public int rightsBackwards(int person, int folder) throws IndexOutOfBoundsException {
        refuseNoPerson(person);
        return rightsByOverruling(person, folderAt(folder));
    }

    // ---- the mapping of now

    public int groupOf(int folder) throws IndexOutOfBoundsException {
        return mappingOf(folderAt(folder)).group;
    }

    public int bits(int folder) throws IndexOutOfBoundsException {
        Mapping now = mappingOf(folderAt(folder));
        return 10 * now.groupBits + now.otherBits;
    }

    public int named(int folder) throws IndexOutOfBoundsException {
        return mappingOf(folderAt(folder)).namedPersons;
    }

    public int mapped(int person, int folder) throws IndexOutOfBoundsException {
        refuseNoPerson(person);
        return mappingOf(folderAt(folder)).given[person];
    }

    public int loss(int folder) throws IndexOutOfBoundsException {
        return mappingOf(folderAt(folder)).lost;
    }

    public int lossWith(int folder, int group) throws IndexOutOfBoundsException {
        Folder at = folderAt(folder);
        if (group != NONE) {
            refuseNoGroup(group);
        }
        findHeld(at);
        mapWith(at, group);
        return mapping.lost;
    }

    // ---- passes and the switch

    public int pass() {
        int changed = 0;
        for (int i = 0; i < tree.size(); i++) {
            Folder at = tree.get(i);
            if (at.keep(mappingOf(at).given)) {
                changed++;
            }
        }
        return changed;
    }

    public boolean isFresh(int folder) throws IndexOutOfBoundsException {
        Folder at = folderAt(folder);
        return at.keeps(mappingOf(at).given);
    }

    public boolean turn(int folder) throws IndexOutOfBoundsException, IllegalStateException {
        Folder at = folderAt(folder);
        if (!at.hasKept) {
            throw new IllegalStateException("the folder has no kept mapping");
        }
        at.switched = !at.switched;
        return at.switched;
    }

    public int rightsNow(int person, int folder) throws IndexOutOfBoundsException {
        refuseNoPerson(person);
        return currentRights(person, folderAt(folder));
    }

    public int gainers(int folder) throws IndexOutOfBoundsException {
        Folder at = folderAt(folder);
        int gaining = 0;
        for (int person = 0; person < PERSONS; person++) {
            if ((currentRights(person, at) & ~rightsByEntries(person, at)) != 0) {
                gaining |= 1 << person;
            }
        }
        return gaining;
    }

    // ---- what the calls share

    private static void refuseNoPerson(int person) {
        if (person < 0 || person >= PERSONS) {
            throw new IndexOutOfBoundsException("no such person");
        }
    }

    private static void refuseNoGroup(int group) {
        if (group < 0 || group >= GROUPS) {
            throw new IndexOutOfBoundsException("no such group");
        }
    }

    private Folder folderAt(int folder) {
        if (folder < 0 || folder >= tree.size()) {
            throw new IndexOutOfBoundsException("no such folder");
        }
        return tree.get(folder);
    }

    private static boolean contains(int set, int number) {
        return (set >> number & 1) != 0;
    }

    private boolean isFor(Entry entry, int person) {
        if (entry.who < PERSONS) {
            return entry.who == person;
        }
        return contains(groups.everyoneIn(entry.who - PERSONS), person);
    }

    /** The first entry that has a right decides it, so a decided right is not looked at again. */
    private int rightsByEntries(int person, Folder folder) {
        if (person == folder.owner) {
            return ALL_RIGHTS;
        }
        int undecided = ALL_RIGHTS;
        int allowed = 0;
        for (Folder from = folder; from != null; from = from.inheritsFrom()) {
            for (int i = 0; i < from.row.size(); i++) {
                Entry entry = from.row.get(i);
                if (entry.counts(from == folder) && isFor(entry, person)) {
                    if (entry.allows) {
                        allowed |= entry.rights & undecided;
                    }
                    undecided &= ~entry.rights;
                }
            }
        }
        return allowed;
    }

    private int rightsByOverruling(int person, Folder folder) {
        if (person == folder.owner) {
            return ALL_RIGHTS;
        }
        int allowed = 0;
        for (int level = folder.levelsInherited(); level >= 0; level--) {
            Folder from = folder.above(level);
            for (int i = from.row.size() - 1; i >= 0; i--) {
                Entry entry = from.row.get(i);
                if (entry.counts(level == 0) && isFor(entry, person)) {
                    allowed = entry.allows ? allowed | entry.rights : allowed & ~entry.rights;
                }
            }
        }
        return allowed;
    }

    private int currentRights(int person, Folder folder) {
        return folder.switched ? folder.kept[person] : rightsByEntries(person, folder);
    }

    private void findHeld(Folder folder) {
        for (int person = 0; person < PERSONS; person++) {
            mapping.held[person] = rightsByEntries(person, folder);
        }
    }

    /** What the persons hold must have been found for this folder. */
    private void mapWith(Folder folder, int group) {
        int members = group == NONE ? 0 : groups.everyoneIn(group);
        mapping.make(folder.owner, group, members);
    }

    /** What it hands out holds until the next mapping is made. */
    private Mapping mappingOf(Folder folder) {
        findHeld(folder);
        mapWith(folder, NONE);
        int least = mapping.lost;
        int best = NONE;
        for (int group = 0; group < GROUPS; group++) {
            mapWith(folder, group);
            if (mapping.lost < least) {
                least = mapping.lost;
                best = group;
            }
        }
        mapWith(folder, best);
        return mapping;
    }

    private static final class Groups {
        private final int[] ownPersons = new int[GROUPS];
        private final int[] ownGroups = new int[GROUPS];
        // Kept beside the two, for it is asked far more often than they change.
        private final int[] everyone = new int[GROUPS];

        boolean put(int group, int person, boolean has) {
            boolean had = contains(ownPersons[group], person);
            if (had != has) {
                ownPersons[group] ^= 1 << person;
                findEveryone();
            }
            return had;
        }

        boolean toggleInner(int group, int inner) {
            ownGroups[group] ^= 1 << inner;
            findEveryone();
            return contains(ownGroups[group], inner);
        }

        int everyoneIn(int group) {
            return everyone[group];
        }

        /** The group itself and the groups in it, at any depth. */
        int reachedFrom(int group) {
            int reached = 1 << group;
            // Each round goes at least one level deeper, and there are fewer levels than groups.
            for (int round = 1; round < GROUPS; round++) {
                for (int outer = 0; outer < GROUPS; outer++) {
                    if (contains(reached, outer)) {
                        reached |= ownGroups[outer];
                    }
                }
            }
            return reached;
        }

        private void findEveryone() {
            for (int group = 0; group < GROUPS; group++) {
                int reached = reachedFrom(group);
                int persons = 0;
                for (int inner = 0; inner < GROUPS; inner++) {
                    if (contains(reached, inner)) {
                        persons |= ownPersons[inner];
                    }
                }
                everyone[group] = persons;
            }
        }
    }

    private static final class Entry {
        final int who;
        final boolean allows;
        final int rights;
        final int scope;

        Entry(int who, boolean allows, int rights, int scope) {
            this.who = who;
            this.allows = allows;
            this.rights = rights;
            this.scope = scope;
        }

        /** Whether it counts for its own folder, or else for the folders that inherit from that. */
        boolean counts(boolean forItsOwnFolder) {
            return scope != (forItsOwnFolder ? BELOW : HERE);
        }
    }

    private static final class Folder {
        final Folder parent;
        final ArrayList<Entry> row = new ArrayList<>();
        final int[] kept = new int[PERSONS];
        int owner;
        boolean inherits = true;
        boolean hasKept = false;
        boolean switched = false;

        /** The parent is null for the folder 0 alone. */
        Folder(Folder parent, int owner) {
            this.parent = parent;
            this.owner = owner;
        }

        /** The folder whose entries count next; null if there is none. */
        Folder inheritsFrom() {
            return inherits ? parent : null;
        }

        int levelsInherited() {
            int levels = 0;
            for (Folder from = inheritsFrom(); from != null; from = from.inheritsFrom()) {
                levels++;
            }
            return levels;
        }

        Folder above(int levels) {
            Folder at = this;
            for (int level = 0; level < levels && at.parent != null; level++) {
                at = at.parent;
            }
            return at;
        }

        boolean keeps(int[] rights) {
            if (!hasKept) {
                return false;
            }
            for (int person = 0; person < PERSONS; person++) {
                if (kept[person] != rights[person]) {
                    return false;
                }
            }
            return true;
        }

        /** Returns whether that is new for somebody, or for the folder. */
        boolean keep(int[] rights) {
            boolean isNew = !keeps(rights);
            System.arraycopy(rights, 0, kept, 0, PERSONS);
            hasKept = true;
            return isNew;
        }
    }

    /** What the persons hold is put in; what they are given is found from it, for one group at a time. */
    private static final class Mapping {
        final int[] held = new int[PERSONS];
        final int[] given = new int[PERSONS];
        int group = NONE;
        int groupBits = 0;
        int otherBits = 0;
        int namedPersons = 0;
        int lost = 0;

        void make(int owner, int withGroup, int members) {
            group = withGroup;
            namedPersons = 0;
            findBits(owner, members);
            for (int round = 0; round < MOST_NAMED && lost > 0; round++) {
                namedPersons |= 1 << greatestLoser();
                findBits(owner, members);
            }
        }

        private void findBits(int owner, int members) {
            int unnamed = EVERYBODY & ~namedPersons & ~(1 << owner);
            groupBits = sharedBy(unnamed & members);
            otherBits = sharedBy(unnamed & ~members);
            lost = 0;
            for (int person = 0; person < PERSONS; person++) {
                if (!contains(unnamed, person)) {
                    // The owner holds all rights, which are the owner's bits too.
                    given[person] = held[person];
                } else {
                    given[person] = contains(members, person) ? groupBits : otherBits;
                }
                lost += lossOf(person);
            }
        }

        private int sharedBy(int persons) {
            if (persons == 0) {
                return 0;
            }
            int shared = ALL_RIGHTS;
            for (int person = 0; person < PERSONS; person++) {
                if (contains(persons, person)) {
                    shared &= held[person];
                }
            }
            return shared;
        }

        private int lossOf(int person) {
            return Integer.bitCount(held[person] & ~given[person]);
        }

        private int greatestLoser() {
            int loser = 0;
            for (int person = 1; person < PERSONS; person++) {
                if (lossOf(person) > lossOf(loser)) {
                    loser = person;
                }
            }
            return loser;
        }
    }
}
