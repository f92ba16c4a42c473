import java.util.ArrayList;
import java.util.List;
import java.util.Set;
import java.util.TreeMap;
import java.util.TreeSet;

/**
 * Long runs of calls, made by a fixed rule, against a slow model of the document that is written in
 * another way (sets and maps; one right at a time).
 */
public final class ModelTest {
    private static final int RUNS = 200;
    // An object is used for at most so many calls.
    private static final int CALLS = 512;

    private long seed;
    private int calls = 0;

    private ModelTest(long seed) {
        this.seed = seed;
    }

    public static void main(String[] args) {
        for (int run = 0; run < RUNS; run++) {
            new ModelTest(run).go("run " + run);
        }
        Check.end();
    }

    private void go(String run) {
        ShareMover x = new ShareMover();
        Model model = new Model();
        // Some runs ask wrongly often, some never, so that they come far.
        int wrongInPercent = pick(3) * 3;
        while (calls < CALLS - 16) {
            oneCall(run + ", call " + calls, x, model, wrongInPercent);
        }
        nobodyGains(run, x, pick(model.folders.size()));
    }

    private int pick(int below) {
        seed = seed * 6364136223846793005L + 1442695040888963407L;
        return (int) ((seed >>> 33) % below);
    }

    /** A number from low to high, or sometimes one that is just out of the range, or far out. */
    private int arg(int low, int high, int wrongInPercent) {
        if (pick(100) < wrongInPercent) {
            int[] wrong = {low - 1, high + 1, Integer.MIN_VALUE, Integer.MAX_VALUE};
            return wrong[pick(4)];
        }
        return low + pick(high - low + 1);
    }

    private void oneCall(String where, ShareMover x, Model m, int wrong) {
        int folder = arg(0, m.folders.size() - 1, wrong);
        int person = arg(0, 7, wrong);
        int group = arg(0, 5, wrong);
        int inner = arg(0, 5, wrong);
        boolean yes = pick(3) != 0;
        int rights = pick(3) == 0 ? 7 : arg(1, 7, wrong);
        int scope = arg(0, 2, wrong);
        switch (pick(27)) {
            case 0, 1 -> same(where + " setMember", () -> Check.bit(x.setMember(group, person, yes)),
                    () -> Check.bit(m.setMember(group, person, yes)));
            case 2 -> same(where + " nest", () -> Check.bit(x.nest(group, inner)),
                    () -> Check.bit(m.nest(group, inner)));
            case 3 -> same(where + " members", () -> x.members(group), () -> m.members(group));
            case 4 -> same(where + " addFolder", () -> x.addFolder(folder, person),
                    () -> m.addFolder(folder, person));
            case 5 -> same(where + " setOwner", () -> x.setOwner(folder, person),
                    () -> m.setOwner(folder, person));
            case 6 -> same(where + " setInherits", () -> Check.bit(x.setInherits(folder, yes)),
                    () -> Check.bit(m.setInherits(folder, yes)));
            case 7, 8, 9, 10, 11 -> {
                int who = arg(0, 13, wrong);
                same(where + " allow", () -> x.allow(folder, who, yes, rights, scope),
                        () -> m.allow(folder, who, yes, rights, scope));
            }
            case 12 -> {
                int entry = arg(0, 5, wrong);
                same(where + " drop", () -> x.drop(folder, entry), () -> m.drop(folder, entry));
            }
            case 13 -> same(where + " folders", () -> x.folders(), () -> m.folders.size());
            case 14 -> same(where + " rights", () -> x.rights(person, folder), () -> m.rights(person, folder));
            case 15 -> same(where + " rightsBackwards", () -> x.rightsBackwards(person, folder),
                    () -> m.rights(person, folder));
            case 16 -> same(where + " groupOf", () -> x.groupOf(folder), () -> m.mapping(folder).group);
            case 17 -> same(where + " bits", () -> x.bits(folder), () -> m.mapping(folder).bits());
            case 18 -> same(where + " named", () -> x.named(folder), () -> m.mapping(folder).namedSet());
            case 19 -> same(where + " mapped", () -> x.mapped(person, folder), () -> m.mapped(person, folder));
            case 20 -> same(where + " loss", () -> x.loss(folder), () -> m.mapping(folder).loss());
            case 21 -> {
                int with = arg(-1, 5, wrong);
                same(where + " lossWith", () -> x.lossWith(folder, with), () -> m.lossWith(folder, with));
            }
            case 22 -> same(where + " pass", () -> x.pass(), () -> m.pass());
            case 23 -> same(where + " isFresh", () -> Check.bit(x.isFresh(folder)),
                    () -> Check.bit(m.isFresh(folder)));
            case 24 -> same(where + " turn", () -> Check.bit(x.turn(folder)), () -> Check.bit(m.turn(folder)));
            case 25 -> same(where + " rightsNow", () -> x.rightsNow(person, folder),
                    () -> m.rightsNow(person, folder));
            default -> same(where + " gainers", () -> x.gainers(folder), () -> m.gainers(folder));
        }
    }

    private void same(String what, Check.Call got, Check.Call due) {
        // The model's own exceptions stand for those that are due, wherever they come from.
        String expected;
        try {
            expected = String.valueOf(due.answer());
        } catch (RuntimeException e) {
            expected = e.getClass().getSimpleName();
        }
        Check.note(what, expected, Check.outcome(got));
        calls++;
    }

    /** Takes 16 calls. */
    private static void nobodyGains(String run, ShareMover x, int folder) {
        for (int person = 0; person < 8; person++) {
            Check.is(run + ", gained by " + person, 0, x.mapped(person, folder) & ~x.rights(person, folder));
        }
    }

    private record Rule(int who, boolean allows, int rights, int scope) {
    }

    private static final class Node {
        final int parent;
        int owner;
        boolean inherits = true;
        boolean switched = false;
        final List<Rule> rules = new ArrayList<>();
        List<Integer> kept = null;

        Node(int parent, int owner) {
            this.parent = parent;
            this.owner = owner;
        }
    }

    private static final class Model {
        final List<Node> folders = new ArrayList<>();
        private final List<Set<Integer>> persons = new ArrayList<>();
        private final List<Set<Integer>> inners = new ArrayList<>();

        Model() {
            folders.add(new Node(-1, 0));
            for (int group = 0; group < 6; group++) {
                persons.add(new TreeSet<>());
                inners.add(new TreeSet<>());
            }
        }

        private static void within(int number, int low, int high) {
            if (number < low || number > high) {
                throw new IndexOutOfBoundsException();
            }
        }

        private Node node(int folder) {
            within(folder, 0, folders.size() - 1);
            return folders.get(folder);
        }

        boolean isIn(int person, int group) {
            if (persons.get(group).contains(person)) {
                return true;
            }
            for (int inner : inners.get(group)) {
                if (isIn(person, inner)) {
                    return true;
                }
            }
            return false;
        }

        private boolean hasGroup(int outer, int sought) {
            for (int inner : inners.get(outer)) {
                if (inner == sought || hasGroup(inner, sought)) {
                    return true;
                }
            }
            return false;
        }

        boolean setMember(int group, int person, boolean has) {
            within(group, 0, 5);
            within(person, 0, 7);
            return has ? !persons.get(group).add(person) : persons.get(group).remove(person);
        }

        boolean nest(int group, int inner) {
            within(group, 0, 5);
            within(inner, 0, 5);
            if (group == inner || hasGroup(inner, group)) {
                throw new IllegalStateException();
            }
            return inners.get(group).add(inner) || !inners.get(group).remove(inner);
        }

        int members(int group) {
            within(group, 0, 5);
            int set = 0;
            for (int person = 0; person < 8; person++) {
                set += isIn(person, group) ? 1 << person : 0;
            }
            return set;
        }

        int addFolder(int parent, int owner) {
            node(parent);
            within(owner, 0, 7);
            if (folders.size() == 20) {
                throw new IllegalStateException();
            }
            folders.add(new Node(parent, owner));
            return folders.size() - 1;
        }

        int setOwner(int folder, int owner) {
            Node at = node(folder);
            within(owner, 0, 7);
            int before = at.owner;
            at.owner = owner;
            return before;
        }

        boolean setInherits(int folder, boolean inherits) {
            boolean before = node(folder).inherits;
            node(folder).inherits = inherits;
            return before;
        }

        int allow(int folder, int who, boolean allows, int rights, int scope) {
            Node at = node(folder);
            within(who, 0, 13);
            if (rights < 1 || rights > 7 || scope < 0 || scope > 2) {
                throw new IllegalArgumentException();
            }
            if (at.rules.size() == 6) {
                throw new IllegalStateException();
            }
            at.rules.add(new Rule(who, allows, rights, scope));
            return at.rules.size();
        }

        int drop(int folder, int entry) {
            Node at = node(folder);
            within(entry, 0, at.rules.size() - 1);
            return at.rules.remove(entry).rights();
        }

        private List<Rule> counting(int folder, boolean own) {
            Node at = node(folder);
            List<Rule> all = new ArrayList<>();
            for (Rule rule : at.rules) {
                if (rule.scope() == ShareMover.BOTH || rule.scope() == (own ? ShareMover.HERE : ShareMover.BELOW)) {
                    all.add(rule);
                }
            }
            if (at.inherits && at.parent >= 0) {
                all.addAll(counting(at.parent, false));
            }
            return all;
        }

        private boolean has(int person, int right, int folder) {
            if (node(folder).owner == person) {
                return true;
            }
            for (Rule rule : counting(folder, true)) {
                boolean meant = rule.who() < 8 ? rule.who() == person : isIn(person, rule.who() - 8);
                if (meant && (rule.rights() & right) != 0) {
                    return rule.allows();
                }
            }
            return false;
        }

        int rights(int person, int folder) {
            within(person, 0, 7);
            int all = 0;
            for (int right : new int[] {4, 2, 1}) {
                all += has(person, right, folder) ? right : 0;
            }
            return all;
        }

        private Plan plan(int folder, int group) {
            List<Integer> has = new ArrayList<>();
            Set<Integer> inGroup = new TreeSet<>();
            for (int person = 0; person < 8; person++) {
                has.add(rights(person, folder));
                if (group != ShareMover.NONE && isIn(person, group)) {
                    inGroup.add(person);
                }
            }
            return new Plan(group, node(folder).owner, has, inGroup);
        }

        Plan mapping(int folder) {
            Plan best = plan(folder, ShareMover.NONE);
            for (int group = 0; group < 6; group++) {
                Plan plan = plan(folder, group);
                best = plan.loss() < best.loss() ? plan : best;
            }
            return best;
        }

        int mapped(int person, int folder) {
            within(person, 0, 7);
            return mapping(folder).gives(person);
        }

        int lossWith(int folder, int group) {
            node(folder);
            within(group, -1, 5);
            return plan(folder, group).loss();
        }

        int pass() {
            int changed = 0;
            for (int folder = 0; folder < folders.size(); folder++) {
                List<Integer> now = mapping(folder).givesAll();
                changed += now.equals(node(folder).kept) ? 0 : 1;
                node(folder).kept = now;
            }
            return changed;
        }

        boolean isFresh(int folder) {
            return mapping(folder).givesAll().equals(node(folder).kept);
        }

        boolean turn(int folder) {
            Node at = node(folder);
            if (at.kept == null) {
                throw new IllegalStateException();
            }
            return at.switched = !at.switched;
        }

        int rightsNow(int person, int folder) {
            within(person, 0, 7);
            return node(folder).switched ? node(folder).kept.get(person) : rights(person, folder);
        }

        int gainers(int folder) {
            int set = 0;
            for (int person = 0; person < 8; person++) {
                int now = rightsNow(person, folder);
                set += (now | rights(person, folder)) == rights(person, folder) ? 0 : 1 << person;
            }
            return set;
        }
    }

    /** A mapping: who is named with which rights, and what is left for the group and the others. */
    private static final class Plan {
        final int group;
        private final int owner;
        private final List<Integer> has;
        private final Set<Integer> inGroup;
        private final TreeMap<Integer, Integer> named = new TreeMap<>();

        Plan(int group, int owner, List<Integer> has, Set<Integer> inGroup) {
            this.group = group;
            this.owner = owner;
            this.has = has;
            this.inGroup = inGroup;
            for (int time = 0; time < 3; time++) {
                nameOne();
            }
        }

        private void nameOne() {
            for (int loss = 3; loss > 0; loss--) {
                for (int person = 0; person < 8; person++) {
                    if (lossOf(person) == loss) {
                        named.put(person, has.get(person));
                        return;
                    }
                }
            }
        }

        private int shared(boolean ofTheGroup) {
            int rights = 0;
            for (int right : new int[] {4, 2, 1}) {
                int with = 0;
                int without = 0;
                for (int person = 0; person < 8; person++) {
                    if (person == owner || named.containsKey(person) || inGroup.contains(person) != ofTheGroup) {
                        continue;
                    }
                    if ((has.get(person) & right) != 0) {
                        with++;
                    } else {
                        without++;
                    }
                }
                rights += with > 0 && without == 0 ? right : 0;
            }
            return rights;
        }

        int gives(int person) {
            if (person == owner) {
                return 7;
            }
            return named.containsKey(person) ? named.get(person) : shared(inGroup.contains(person));
        }

        List<Integer> givesAll() {
            List<Integer> all = new ArrayList<>();
            for (int person = 0; person < 8; person++) {
                all.add(gives(person));
            }
            return all;
        }

        private int lossOf(int person) {
            int lost = 0;
            for (int right : new int[] {4, 2, 1}) {
                lost += (has.get(person) & right) != 0 && (gives(person) & right) == 0 ? 1 : 0;
            }
            return lost;
        }

        int loss() {
            int lost = 0;
            for (int person = 0; person < 8; person++) {
                lost += lossOf(person);
            }
            return lost;
        }

        int bits() {
            return 10 * shared(true) + shared(false);
        }

        int namedSet() {
            int set = 0;
            for (int person : named.keySet()) {
                set += 1 << person;
            }
            return set;
        }
    }
}
