import java.util.ArrayList;
import java.util.List;
import java.util.TreeSet;
import java.util.regex.Matcher;
import java.util.regex.Pattern;

/** The document once more, written with the Java library and another way of holding the state. */
public final class Model {
    private static final Pattern DAY = Pattern.compile(
        "O(i[0-9][0-9]|c[0-9]|r[0-9][0-3]|t[0-7](0[1-9]|[1-9][0-9])|[duo][0-3]|m(0[1-9]|[1-5][0-9]|60))*");
    private static final Pattern COMMAND = Pattern.compile("[a-z][0-9]+");
    private static final int[] MOST = {50, 30, 1, 99};

    private static final class Account {
        int balance;
        int waits;
        boolean marked;
        TreeSet<Integer> settled = new TreeSet<>();

        boolean blocked() {
            return balance < 0 || marked;
        }

        Account twin() {
            Account t = new Account();
            t.balance = balance;
            t.waits = waits;
            t.marked = marked;
            t.settled = new TreeSet<>(settled);
            return t;
        }
    }

    private record Card(int account, int money, int count, Integer latest) {
    }

    private record Ride(int account, int count, int fare) {
    }

    private static final class Gate {
        int fare = 2;
        boolean up = true;
        boolean open;
        int list;
        List<Ride> log = new ArrayList<>();

        Gate twin() {
            Gate t = new Gate();
            t.fare = fare;
            t.up = up;
            t.open = open;
            t.list = list;
            t.log = new ArrayList<>(log);
            return t;
        }
    }

    private static final class World {
        List<Account> accounts = new ArrayList<>();
        List<Card> cards = new ArrayList<>();
        List<Gate> gates = new ArrayList<>(List.of(new Gate(), new Gate(), new Gate(), new Gate()));
        int[] settings = {10, 5, 0, 20};
        int now;
        int refused;
        int unwritten;
        List<Ride> settled = new ArrayList<>();
        List<Ride> doubles = new ArrayList<>();

        World twin() {
            World t = new World();
            accounts.forEach(a -> t.accounts.add(a.twin()));
            t.cards.addAll(cards);
            for (int g = 0; g < 4; g++) {
                t.gates.set(g, gates.get(g).twin());
            }
            t.settings = settings.clone();
            t.now = now;
            t.refused = refused;
            t.unwritten = unwritten;
            t.settled.addAll(settled);
            t.doubles.addAll(doubles);
            return t;
        }

        int blocked() {
            int set = 0;
            for (int a = 0; a < accounts.size(); a++) {
                set |= accounts.get(a).blocked() ? 1 << a : 0;
            }
            return set;
        }

        void settle(Ride r) {
            Account a = accounts.get(r.account);
            if (a.settled.add(r.count)) {
                a.balance -= r.fare;
                settled.add(r);
            } else {
                a.balance -= settings[3];
                a.marked = true;
                doubles.add(r);
            }
        }

        int ride(int c, int g) {
            there(c, cards.size());
            there(g, 4);
            Gate gate = gates.get(g);
            if (gate.open) {
                unwritten++;
                return 2;
            }
            Account owner = accounts.get(cards.get(c).account);
            if (gate.up) {
                Card k = cards.get(c);
                cards.set(c, new Card(k.account, k.money + owner.waits, k.count, k.latest));
                owner.waits = 0;
            }
            Card card = cards.get(c);
            int list = gate.up ? blocked() : gate.list;
            int refusal = 0;
            if ((list & 1 << card.account) != 0) {
                refusal = 3;
            } else if (card.latest != null && now - card.latest < settings[1]) {
                refusal = 4;
            } else if (gate.up && card.money < gate.fare
                || !gate.up && card.money - gate.fare + settings[0] < 0) {
                refusal = 5;
            } else if (!gate.up && gate.log.size() == 12) {
                if (settings[2] == 1) {
                    unwritten++;
                    return 7;
                }
                refusal = 6;
            }
            if (refusal != 0) {
                refused++;
                return refusal;
            }
            Ride ride = new Ride(card.account, card.count + 1, gate.fare);
            cards.set(c, new Card(card.account, card.money - gate.fare, ride.count, now));
            if (gate.up) {
                settle(ride);
                return 0;
            }
            gate.log.add(ride);
            return 1;
        }

        int issue(int money) {
            within(money, 0, 99);
            fit(accounts.size() < 8 && cards.size() < 10);
            Account a = new Account();
            a.balance = money;
            accounts.add(a);
            cards.add(new Card(accounts.size() - 1, money, 0, null));
            return cards.size() - 1;
        }

        int copy(int c) {
            there(c, cards.size());
            fit(cards.size() < 10);
            cards.add(cards.get(c));
            return cards.size() - 1;
        }

        int pay(int a, int money) {
            there(a, accounts.size());
            within(money, 1, 99);
            accounts.get(a).waits += money;
            return accounts.get(a).balance += money;
        }

        int pardon(int a) {
            there(a, accounts.size());
            fit(accounts.get(a).marked);
            accounts.get(a).marked = false;
            return accounts.get(a).balance;
        }

        int down(int g) {
            there(g, 4);
            fit(gates.get(g).up);
            gates.get(g).list = blocked();
            gates.get(g).up = false;
            return gates.get(g).list;
        }

        int up(int g) {
            there(g, 4);
            Gate gate = gates.get(g);
            fit(!gate.up);
            int before = doubles.size();
            gate.log.forEach(this::settle);
            gate.log.clear();
            gate.up = true;
            return doubles.size() - before;
        }

        int open(int g) {
            there(g, 4);
            gates.get(g).open ^= true;
            return gates.get(g).open ? 1 : 0;
        }

        int fare(int g, int v) {
            there(g, 4);
            within(v, 1, 9);
            int previous = gates.get(g).fare;
            gates.get(g).fare = v;
            return previous;
        }

        int run(int n) {
            within(n, 1, 60);
            return now += n;
        }

        int set(int what, int v) {
            within(what, 0, 3);
            within(v, 0, MOST[what]);
            int previous = settings[what];
            settings[what] = v;
            return previous;
        }
    }

    private World world = new World();
    private final List<World> remembered = new ArrayList<>();
    private final World[] slots = new World[2];
    private String text = "";

    private static void there(int i, int count) {
        if (i < 0 || i >= count) {
            throw new IndexOutOfBoundsException();
        }
    }

    private static void within(long v, long least, long most) {
        if (v < least || v > most) {
            throw new IllegalArgumentException();
        }
    }

    private static void fit(boolean fits) {
        if (!fits) {
            throw new IllegalStateException();
        }
    }

    private interface Deed {
        int on(World w);
    }

    /** An action: done on a twin, which becomes the world if nothing was thrown. */
    private int act(Deed deed) {
        World next = world.twin();
        int answer = deed.on(next);
        remembered.add(world);
        if (remembered.size() > 14) {
            remembered.remove(0);
        }
        world = next;
        return answer;
    }

    private static boolean works(World w, Deed deed) {
        try {
            deed.on(w);
            return true;
        } catch (IndexOutOfBoundsException | IllegalArgumentException | IllegalStateException e) {
            return false;
        }
    }

    public int append(int c) {
        within(c, 0, 255);
        fit(text.length() < 120);
        text += (char) c;
        return text.length();
    }

    public int clearText() {
        int n = text.length();
        text = "";
        return n;
    }

    public int errorPosition() {
        if (DAY.matcher(text).matches()) {
            return -1;
        }
        for (int n = 1; n <= text.length(); n++) {
            Matcher m = DAY.matcher(text.substring(0, n));
            if (!m.matches() && !m.hitEnd()) {
                return n - 1;
            }
        }
        return text.length();
    }

    public int load() {
        fit(errorPosition() == -1);
        world = new World();
        remembered.clear();
        slots[0] = null;
        slots[1] = null;
        int leftOut = 0;
        Matcher m = COMMAND.matcher(text);
        while (m.find()) {
            leftOut += works(world, deedOf(m.group())) ? 0 : 1;
        }
        return leftOut;
    }

    private static Deed deedOf(String command) {
        int number = Integer.parseInt(command.substring(1));
        switch (command.charAt(0)) {
            case 'i': return w -> w.issue(number);
            case 'c': return w -> w.copy(number);
            case 'r': return w -> w.ride(number / 10, number % 10);
            case 't': return w -> w.pay(number / 100, number % 100);
            case 'd': return w -> w.down(number);
            case 'u': return w -> w.up(number);
            case 'o': return w -> w.open(number);
            default: return w -> w.run(number);
        }
    }

    private static int fares(List<Ride> rides) {
        return rides.stream().mapToInt(Ride::fare).sum();
    }

    private List<Ride> inLogs(int account) {
        List<Ride> all = new ArrayList<>();
        for (Gate g : world.gates) {
            for (Ride r : g.log) {
                if (account < 0 || r.account == account) {
                    all.add(r);
                }
            }
        }
        return all;
    }

    public int about(int what) {
        within(what, 0, 10);
        return new int[] {world.cards.size(), world.accounts.size(), world.now, world.settled.size(),
            fares(world.settled), world.doubles.size(), inLogs(-1).size(), fares(inLogs(-1)), world.refused,
            world.unwritten, world.blocked()}[what];
    }

    public int card(int c, int what) {
        there(c, world.cards.size());
        within(what, 0, 3);
        Card k = world.cards.get(c);
        return new int[] {k.account, k.money, k.count, k.latest == null ? -1 : k.latest}[what];
    }

    public int account(int a, int what) {
        there(a, world.accounts.size());
        within(what, 0, 7);
        Account k = world.accounts.get(a);
        int cards = (int) world.cards.stream().filter(c -> c.account == a).count();
        return new int[] {k.balance, k.waits, k.settled.size(), k.marked ? 1 : 0, k.blocked() ? 1 : 0, cards,
            inLogs(a).size(), fares(inLogs(a))}[what];
    }

    public int gate(int g, int what) {
        there(g, 4);
        within(what, 0, 4);
        Gate k = world.gates.get(g);
        return new int[] {k.fare, k.up ? 1 : 0, k.open ? 1 : 0, k.log.size(),
            k.up ? world.blocked() : k.list}[what];
    }

    public int logged(int g, int k, int what) {
        there(g, 4);
        there(k, world.gates.get(g).log.size());
        within(what, 0, 2);
        Ride r = world.gates.get(g).log.get(k);
        return new int[] {r.account, r.count, r.fare}[what];
    }

    public int setting(int what) {
        within(what, 0, 3);
        return world.settings[what];
    }

    public int issue(int money) {
        return act(w -> w.issue(money));
    }

    public int copy(int c) {
        return act(w -> w.copy(c));
    }

    public int ride(int c, int g) {
        return act(w -> w.ride(c, g));
    }

    public int pay(int a, int money) {
        return act(w -> w.pay(a, money));
    }

    public int pardon(int a) {
        return act(w -> w.pardon(a));
    }

    public int down(int g) {
        return act(w -> w.down(g));
    }

    public int up(int g) {
        return act(w -> w.up(g));
    }

    public int open(int g) {
        return act(w -> w.open(g));
    }

    public int fare(int g, int v) {
        return act(w -> w.fare(g, v));
    }

    public int run(int n) {
        return act(w -> w.run(n));
    }

    public int set(int what, int v) {
        return act(w -> w.set(what, v));
    }

    public int undo() {
        fit(!remembered.isEmpty());
        world = remembered.remove(remembered.size() - 1);
        return remembered.size();
    }

    public int would(int c, int g) {
        return world.twin().ride(c, g);
    }

    public int rides(int c, int g) {
        World w = world.twin();
        for (int i = 0; i < 100; i++) {
            w.now += w.settings[1];
            int outcome = w.ride(c, g);
            if (outcome >= 3 && outcome <= 6) {
                return i;
            }
        }
        return 100;
    }

    public int ifUp(int g, int what) {
        there(g, 4);
        within(what, 0, 3);
        World w = world.twin();
        works(w, x -> x.up(g));
        int before = world.settled.size();
        List<Ride> fresh = w.settled.subList(before, w.settled.size());
        return new int[] {fresh.size(), w.doubles.size() - world.doubles.size(), w.blocked(), fares(fresh)}[what];
    }

    public int bestUp() {
        int best = -1;
        for (int g = 3; g >= 0; g--) {
            if (!world.gates.get(g).up && (best == -1 || ifUp(g, 3) >= ifUp(best, 3))) {
                best = g;
            }
        }
        return best;
    }

    public int worst() {
        int worst = -1;
        for (int a = world.accounts.size() - 1; a >= 0; a--) {
            if (worst == -1 || account(a, 0) - account(a, 7) <= account(worst, 0) - account(worst, 7)) {
                worst = a;
            }
        }
        return worst;
    }

    public int owes(int a) {
        there(a, world.accounts.size());
        int paid = 0;
        while (true) {
            World w = world.twin();
            w.accounts.get(a).balance += paid;
            for (int g = 0; g < 4; g++) {
                int gate = g;
                works(w, x -> x.up(gate));
            }
            if (w.accounts.get(a).balance >= 0) {
                return paid;
            }
            paid++;
        }
    }

    public int runScript(int n, long script) {
        within(n, 1, 3);
        within(script, 0, new long[] {9999L, 99999999L, 999999999999L}[n - 1]);
        String digits = String.format("%0" + 4 * n + "d", script);
        World w = world.twin();
        for (int i = 0; i < n; i++) {
            if (!succeeds(w, digits.substring(4 * i, 4 * i + 4))) {
                return i;
            }
        }
        return -1;
    }

    private static boolean succeeds(World w, String s) {
        int d2 = s.charAt(1) - '0';
        int d3 = s.charAt(2) - '0';
        int two = Integer.parseInt(s.substring(2));
        if (s.matches("1..0")) {
            return d2 < w.cards.size() && d3 < 4 && List.of(0, 1, 2, 7).contains(w.ride(d2, d3));
        } else if (s.matches("2...")) {
            return works(w, x -> x.pay(d2, two));
        } else if (s.matches("3.01")) {
            return works(w, x -> x.up(d2));
        } else if (s.matches("3.00")) {
            return works(w, x -> x.down(d2));
        } else if (s.matches("40..")) {
            return works(w, x -> x.run(two));
        } else if (s.matches("5.00")) {
            return works(w, x -> x.copy(d2));
        } else if (s.matches("6.0[01]")) {
            return d2 < w.accounts.size() && w.accounts.get(d2).blocked() == s.endsWith("1");
        } else if (s.matches("7...")) {
            return d2 < 4 && w.gates.get(d2).log.size() <= two;
        } else if (s.matches("8...")) {
            return d2 < w.cards.size() && w.cards.get(d2).money >= two;
        }
        return s.matches("90..") && w.doubles.size() <= two;
    }

    public int simulate(long seed, int m) {
        within(m, 1, 80);
        World w = world.twin();
        long x = seed;
        for (int i = 0; i < m; i++) {
            x = x * 6364136223846793005L + 1442695040888963407L;
            int r = (int) (x >>> 33);
            works(w, turnOf(r));
        }
        return 1000 * (w.settled.size() - world.settled.size()) + w.doubles.size() - world.doubles.size();
    }

    private static Deed turnOf(int r) {
        int q = r / 16;
        switch (r % 16) {
            case 0: return w -> w.issue(q % 40);
            case 1: return w -> w.copy(q % 10);
            case 2: return w -> w.down(q % 4);
            case 3: return w -> w.up(q % 4);
            case 4: return w -> w.pay(q % 8, 1 + r / 128 % 30);
            case 5: return w -> w.open(q % 4);
            case 6: return w -> w.pardon(q % 8);
            case 7: case 8: return w -> w.run(1 + q % 20);
            default: return w -> w.ride(q % 10, r / 256 % 4);
        }
    }

    public int save(int slot) {
        there(slot, 2);
        slots[slot] = world.twin();
        return world.now;
    }

    public int restore(int slot) {
        there(slot, 2);
        fit(slots[slot] != null);
        world = slots[slot].twin();
        remembered.clear();
        return world.now;
    }
}
