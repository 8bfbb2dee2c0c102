import java.util.ArrayDeque;
import java.util.ArrayList;
import java.util.Arrays;
import java.util.List;
import java.util.regex.Matcher;
import java.util.regex.Pattern;

/** The document once more, by other means: plain search over everything, nothing kept between calls. */
final class Model {
    static final int NONE = -1000000, BAD = -1000001, STATE = -1000002, FULL = -1000003;
    private static final Pattern TOKEN = Pattern.compile("[ \n]*([a-z]+|[0-9]+|;|[^ \n]|$)", Pattern.DOTALL);
    private static final List<String> KINDS = List.of("person", "plain", "driver", "stranger", "sick", "child");

    private record Row(int lane, int[] items) {
    }

    private record Guest(int kind, int home, int glasses) {
        boolean isSick() {
            return kind >= 4;
        }
    }

    private record Car(int owner, int seats, int snow) {
    }

    private record Drink(int person, int n) {
    }

    private static final class Night {
        int limit, rate;
        List<int[]> ways = new ArrayList<>();
        List<Integer> hills = new ArrayList<>();
        List<Guest> guests = new ArrayList<>();
        List<Car> cars = new ArrayList<>();
        List<int[]> quarrels = new ArrayList<>();

        Night twin() {
            Night t = new Night();
            t.limit = limit;
            t.rate = rate;
            t.ways.addAll(ways);
            t.hills.addAll(hills);
            t.guests.addAll(guests);
            t.cars.addAll(cars);
            t.quarrels.addAll(quarrels);
            return t;
        }
    }

    private static final class Fault extends Exception {
        final int place, number;

        Fault(int place, int number) {
            this.place = place;
            this.number = number;
        }
    }

    private final Row[] rows = new Row[8];
    private final Night[] images = new Night[2];
    private final StringBuilder tape = new StringBuilder();
    private final ArrayDeque<Drink> drinks = new ArrayDeque<>();
    private final List<Integer> trace = new ArrayList<>();
    private Night night = null;
    private int fault = 0, status = 0;

    private boolean noPerson(int p) {
        return night == null || p < 0 || p >= night.guests.size();
    }

    private boolean noCar(int c) {
        return night == null || c < 0 || c >= night.cars.size();
    }

    private static boolean outside(int v, int least, int most) {
        return v < least || v > most;
    }

    private int found(int number) {
        status = number;
        return -1000010 - number;
    }

    private int good(int answer) {
        status = 0;
        return answer;
    }

    int row(int row, int lane, int n) {
        if (outside(row, 0, 7) || outside(lane, 0, 2) || n > 40) {
            return BAD;
        }
        if (n < 0) {
            return found(4);
        }
        rows[row] = new Row(lane, new int[n]);
        return good(n);
    }

    int set(int row, int i, int v) {
        if (outside(row, 0, 7)) {
            return BAD;
        }
        if (rows[row] == null) {
            return found(1);
        }
        if (outside(i, 0, rows[row].items.length - 1)) {
            return found(2);
        }
        int bits = 8 << rows[row].lane;
        long low = v & (1L << bits) - 1;
        long value = low >= 1L << bits - 1 ? low - (1L << bits) : low;
        rows[row].items[i] = (int) value;
        return good((int) value);
    }

    int copy(int a, int i, int b, int j, int n) {
        if (outside(a, 0, 7) || outside(b, 0, 7)) {
            return BAD;
        }
        if (rows[a] == null || rows[b] == null) {
            return found(1);
        }
        if (rows[a].lane != rows[b].lane) {
            return found(5);
        }
        if (i < 0 || j < 0 || n < 0 || (long) i + n > rows[a].items.length || (long) j + n > rows[b].items.length) {
            return found(2);
        }
        int[] before = rows[a].items.clone();
        for (int k = 0; k < n; k++) {
            rows[b].items[j + k] = before[i + k];
        }
        return good(n);
    }

    int drop(int row) {
        if (outside(row, 0, 7)) {
            return BAD;
        }
        if (rows[row] == null) {
            return found(1);
        }
        int n = rows[row].items.length;
        rows[row] = null;
        return good(n);
    }

    int feed(long w, int n) {
        if (outside(n, 1, 8)) {
            return BAD;
        }
        if (tape.length() + n > 500) {
            return FULL;
        }
        for (int i = n - 1; i >= 0; i--) {
            tape.append((char) (w >>> 8 * i & 255));
        }
        return tape.length();
    }

    int evening() {
        String text = tape.toString();
        tape.setLength(0);
        try {
            night = read(text);
        } catch (Fault f) {
            fault = f.number;
            return -1000100 - f.place;
        }
        drinks.clear();
        return night.guests.size();
    }

    int fault() {
        return fault;
    }

    /** The text as tokens, then statement by statement. */
    private static final class Tokens {
        final Matcher m;
        String now;
        int place;

        Tokens(String text) {
            m = TOKEN.matcher(text);
            next();
        }

        void next() {
            if (m.find()) {
                now = m.group(1);
                place = m.start(1);
            }
        }

        void take(String want) throws Fault {
            if (!now.equals(want)) {
                throw new Fault(place, 1);
            }
            next();
        }

        int number(int least, int most, List<Integer> not) throws Fault {
            if (!now.matches("[0-9]{1,3}")) {
                throw new Fault(place, 1);
            }
            int v = Integer.parseInt(now);
            if (outside(v, least, most) || not.contains(v)) {
                throw new Fault(place, 2);
            }
            next();
            return v;
        }

        boolean begins(String word, int told, int most) throws Fault {
            if (!now.equals(word)) {
                return false;
            }
            if (told == most) {
                throw new Fault(place, 3);
            }
            next();
            return true;
        }
    }

    private static Night read(String text) throws Fault {
        Night n = new Night();
        Tokens t = new Tokens(text);
        List<Integer> any = List.of();
        t.take("law");
        n.limit = t.number(0, 50, any);
        n.rate = t.number(1, 20, any);
        t.take(";");
        while (t.begins("way", n.ways.size(), 16)) {
            int a = t.number(0, 7, any);
            int b = t.number(0, 7, List.of(a));
            n.ways.add(new int[] {a, b, t.number(1, 99, any)});
            t.take(";");
        }
        while (t.begins("hill", n.hills.size(), 7)) {
            n.hills.add(t.number(1, 7, any));
            t.take(";");
        }
        while (t.begins("person", n.guests.size(), 7)) {
            int kind = KINDS.indexOf(t.now);
            if (kind < 1) {
                throw new Fault(t.place, 1);
            }
            t.next();
            int home = t.number(1, 7, any);
            n.guests.add(new Guest(kind, home, t.number(0, 9, any)));
            t.take(";");
        }
        List<Integer> owners = new ArrayList<>();
        while (t.begins("car", n.cars.size(), 3)) {
            int owner = t.number(0, n.guests.size() - 1, owners);
            owners.add(owner);
            int seats = t.number(1, 4, any);
            n.cars.add(new Car(owner, seats, t.number(0, 1, any)));
            t.take(";");
        }
        while (t.begins("quarrel", n.quarrels.size(), 6)) {
            int a = t.number(0, n.guests.size() - 1, any);
            n.quarrels.add(new int[] {a, t.number(0, n.guests.size() - 1, List.of(a))});
            t.take(";");
        }
        t.take("");
        return n;
    }

    private void addGlasses(int p, int n) {
        Guest g = night.guests.get(p);
        night.guests.set(p, new Guest(g.kind, g.home, g.glasses + n));
    }

    int drink(int p, int n) {
        if (noPerson(p) || outside(n, 1, 9)) {
            return BAD;
        }
        if (night.guests.get(p).glasses + n > 99) {
            return FULL;
        }
        addGlasses(p, n);
        drinks.addLast(new Drink(p, n));
        if (drinks.size() > 24) {
            drinks.removeFirst();
        }
        return night.guests.get(p).glasses;
    }

    int undo() {
        if (drinks.isEmpty()) {
            return STATE;
        }
        Drink d = drinks.removeLast();
        addGlasses(d.person, -d.n);
        return drinks.size();
    }

    int person(int p, int what) {
        if (noPerson(p) || outside(what, 0, 3)) {
            return BAD;
        }
        if (what < 2) {
            return what == 0 ? night.guests.get(p).home : night.guests.get(p).glasses;
        }
        int cars = NONE, bits = 0;
        for (Car c : night.cars) {
            cars = c.owner == p ? night.cars.indexOf(c) : cars;
        }
        for (int q = 0; q < night.guests.size(); q++) {
            bits += quarrel(p, q) ? 1 << q : 0;
        }
        return what == 2 ? cars : bits;
    }

    private boolean quarrel(int p, int q) {
        for (int[] two : night.quarrels) {
            if (two[0] == p && two[1] == q || two[0] == q && two[1] == p) {
                return true;
            }
        }
        return false;
    }

    int car(int c, int what) {
        if (noCar(c) || outside(what, 0, 2)) {
            return BAD;
        }
        Car one = night.cars.get(c);
        return what == 0 ? one.owner : what == 1 ? one.seats : one.snow;
    }

    /** By rounds over the ways, till nothing gets nearer. */
    private int away(int a, int b) {
        int[] far = new int[8];
        Arrays.fill(far, 100000);
        far[a] = 0;
        for (int round = 0; round < 8; round++) {
            for (int[] w : night.ways) {
                far[w[0]] = Math.min(far[w[0]], far[w[1]] + w[2]);
                far[w[1]] = Math.min(far[w[1]], far[w[0]] + w[2]);
            }
        }
        return far[b] >= 100000 ? NONE : far[b];
    }

    int far(int a, int b) {
        if (night == null) {
            return STATE;
        }
        return outside(a, 0, 7) || outside(b, 0, 7) ? BAD : away(a, b);
    }

    private int drunk(int glasses, int minute) {
        int d = 10 * glasses;
        for (int over = 60; over <= minute; over += 60) {
            d -= night.rate;
        }
        return d < 0 ? 0 : d;
    }

    private boolean mayDrive(int p, int more, int minute) {
        Guest g = night.guests.get(p);
        if (g.kind == 4 || g.kind == 5) {
            return false;
        }
        if (g.kind == 2 && g.glasses + more != 0) {
            return false;
        }
        return drunk(g.glasses + more, minute) <= night.limit;
    }

    int may(int p, int minute, int what) {
        if (noPerson(p) || outside(minute, 0, 600) || outside(what, 0, 1)) {
            return BAD;
        }
        return what == 0 ? drunk(night.guests.get(p).glasses, minute) : mayDrive(p, 0, minute) ? 1 : 0;
    }

    int soon(int p) {
        if (noPerson(p)) {
            return BAD;
        }
        int minute = 0;
        while (minute <= 600 && !mayDrive(p, 0, minute)) {
            minute++;
        }
        return minute > 600 ? NONE : minute;
    }

    int odds(int p, int minute, int n, int what) {
        if (noPerson(p) || outside(minute, 0, 600) || outside(n, 0, 9) || outside(what, 0, 1)) {
            return BAD;
        }
        int above = 0, below = n + 1;
        for (int more = 0; more <= n; more++) {
            above += mayDrive(p, more, minute) ? 1 : 0;
        }
        for (int d = 2; d <= 10; d++) {
            while (above % d == 0 && below % d == 0) {
                above /= d;
                below /= d;
            }
        }
        return what == 0 ? above : below;
    }

    private boolean comesTo(Car c, int p) {
        int home = night.guests.get(p).home;
        return away(0, home) != NONE && (c.snow == 1 || !night.hills.contains(home));
    }

    private boolean doesGo(int c, int minute) {
        Car one = night.cars.get(c);
        return mayDrive(one.owner, 0, minute) && comesTo(one, one.owner);
    }

    int goes(int minute) {
        if (night == null) {
            return STATE;
        }
        if (outside(minute, 0, 600)) {
            return BAD;
        }
        int bits = 0;
        for (int c = 0; c < night.cars.size(); c++) {
            bits += doesGo(c, minute) ? 1 << c : 0;
        }
        return bits;
    }

    private List<List<Integer>> orders(List<Integer> all) {
        List<List<Integer>> out = new ArrayList<>();
        if (all.isEmpty()) {
            out.add(new ArrayList<>());
        }
        for (Integer first : all) {
            List<Integer> rest = new ArrayList<>(all);
            rest.remove(first);
            for (List<Integer> tail : orders(rest)) {
                tail.add(0, first);
                out.add(tail);
            }
        }
        return out;
    }

    private boolean sickAhead(List<Integer> order) {
        boolean other = false;
        for (int p : order) {
            if (night.guests.get(p).isSick() && other) {
                return false;
            }
            other |= !night.guests.get(p).isSick();
        }
        return true;
    }

    private int underWay(Car c, List<Integer> order) {
        int site = 0, sum = 0;
        for (int p : order) {
            sum += away(site, night.guests.get(p).home);
            site = night.guests.get(p).home;
        }
        return sum + away(site, night.guests.get(c.owner).home);
    }

    private List<Integer> bestOrder(Car c, List<Integer> riders) {
        List<Integer> best = null;
        for (List<Integer> order : orders(riders)) {
            if (sickAhead(order) && (best == null || underWay(c, order) < underWay(c, best))) {
                best = order;
            }
        }
        return best;
    }

    private boolean fits(Car c, List<Integer> riders) {
        if (riders.size() > c.seats) {
            return false;
        }
        for (int p : riders) {
            if (quarrel(p, c.owner) || !comesTo(c, p)) {
                return false;
            }
            for (int q : riders) {
                if (quarrel(p, q)) {
                    return false;
                }
            }
        }
        return true;
    }

    /** Riders by car; the last list is the couch. */
    private List<List<Integer>> plan(int minute) {
        List<Integer> riders = new ArrayList<>();
        List<Integer> cars = new ArrayList<>();
        for (int p = 0; p < night.guests.size(); p++) {
            riders.add(p);
        }
        for (int c = 0; c < night.cars.size(); c++) {
            if (doesGo(c, minute)) {
                cars.add(c);
                riders.remove((Integer) night.cars.get(c).owner);
            }
        }
        int ways = (int) Math.pow(cars.size() + 1, riders.size());
        List<List<Integer>> best = null;
        int fewest = 0, least = 0;
        // Counted with the first rider's figure as the highest, so the rows come in their order.
        for (int w = 0; w < ways; w++) {
            List<List<Integer>> tried = split(riders, cars, w);
            int sum = 0;
            boolean good = true;
            for (int c : cars) {
                good = good && fits(night.cars.get(c), tried.get(c));
            }
            if (!good) {
                continue;
            }
            for (int c : cars) {
                sum += underWay(night.cars.get(c), bestOrder(night.cars.get(c), tried.get(c)));
            }
            int stay = tried.get(night.cars.size()).size();
            if (best == null || stay < fewest || stay == fewest && sum < least) {
                best = tried;
                fewest = stay;
                least = sum;
            }
        }
        return best;
    }

    private List<List<Integer>> split(List<Integer> riders, List<Integer> cars, int w) {
        List<List<Integer>> out = new ArrayList<>();
        for (int c = 0; c <= night.cars.size(); c++) {
            out.add(new ArrayList<>());
        }
        int rest = w;
        for (int i = riders.size() - 1; i >= 0; i--) {
            int figure = rest % (cars.size() + 1);
            rest /= cars.size() + 1;
            int where = figure == cars.size() ? night.cars.size() : cars.get(figure);
            out.get(where).add(0, riders.get(i));
        }
        return out;
    }

    private static int bits(List<Integer> all) {
        int bits = 0;
        for (int p : all) {
            bits += 1 << p;
        }
        return bits;
    }

    int home(int minute, int what) {
        if (night == null) {
            return STATE;
        }
        if (outside(minute, 0, 600) || outside(what, 0, 2 + night.cars.size())) {
            return BAD;
        }
        List<List<Integer>> plan = plan(minute);
        if (what >= 3) {
            return bits(plan.get(what - 3));
        }
        List<Integer> couch = plan.get(night.cars.size());
        if (what != 1) {
            return what == 0 ? couch.size() : bits(couch);
        }
        int sum = 0;
        for (int c = 0; c < night.cars.size(); c++) {
            sum += doesGo(c, minute) ? underWay(night.cars.get(c), bestOrder(night.cars.get(c), plan.get(c))) : 0;
        }
        return sum;
    }

    int order(int minute, int c, int k) {
        if (outside(minute, 0, 600) || noCar(c) || k < -1) {
            return BAD;
        }
        if (!doesGo(c, minute)) {
            return NONE;
        }
        List<Integer> best = bestOrder(night.cars.get(c), plan(minute).get(c));
        if (k == -1) {
            return underWay(night.cars.get(c), best);
        }
        return k < best.size() ? best.get(k) : NONE;
    }

    int detour(int minute, int p) {
        if (outside(minute, 0, 600) || noPerson(p)) {
            return BAD;
        }
        List<List<Integer>> plan = plan(minute);
        for (int c = 0; c < night.cars.size(); c++) {
            if (plan.get(c).contains(p)) {
                Car one = night.cars.get(c);
                int with = underWay(one, bestOrder(one, plan.get(c)));
                plan.get(c).remove((Integer) p);
                return with - underWay(one, bestOrder(one, plan.get(c)));
            }
        }
        return NONE;
    }

    int fetch(int minute) {
        if (night == null) {
            return STATE;
        }
        if (outside(minute, 0, 600)) {
            return BAD;
        }
        int left = 0, seats = 0, drivers = 0, owner = -1;
        for (int c = 0; c < night.cars.size(); c++) {
            if (!doesGo(c, minute)) {
                left++;
            } else if (night.cars.get(c).seats > seats) {
                seats = night.cars.get(c).seats;
                owner = night.cars.get(c).owner;
            }
        }
        for (int p = 0; p < night.guests.size(); p++) {
            drivers += p != owner && night.guests.get(p).kind != 5 ? 1 : 0;
        }
        int trips = 0;
        while (left > 0) {
            if (owner < 0 || drivers == 0) {
                return NONE;
            }
            left -= Math.min(seats, drivers);
            trips++;
        }
        return trips;
    }

    int house(int what) {
        if (night == null) {
            return STATE;
        }
        if (outside(what, 0, 1)) {
            return BAD;
        }
        int whose = NONE, least = NONE;
        for (int p = 0; p < night.guests.size(); p++) {
            int sum = 0;
            for (Guest g : night.guests) {
                int one = away(night.guests.get(p).home, g.home);
                sum = one == NONE || sum == NONE ? NONE : sum + one;
            }
            if (sum != NONE && (least == NONE || sum < least)) {
                whose = p;
                least = sum;
            }
        }
        return what == 0 ? whose : least;
    }

    int turn(int row, int n, int what) {
        if (night == null || night.guests.isEmpty()) {
            return STATE;
        }
        if (outside(row, 0, 7) || outside(n, 0, 40) || outside(what, 0, 2)) {
            return BAD;
        }
        if (rows[row] == null) {
            return found(1);
        }
        if (n > rows[row].items.length) {
            return found(2);
        }
        List<Integer> drove = new ArrayList<>();
        for (int p = 0; p < night.guests.size(); p++) {
            drove.add(0);
        }
        for (int i = 0; i < n; i++) {
            int p = rows[row].items[i];
            if (noPerson(p)) {
                return BAD;
            }
            drove.set(p, drove.get(p) + 1);
        }
        int least = drove.stream().min(Integer::compare).get();
        int whose = drove.indexOf(least);
        int more = 0;
        while (drove.stream().distinct().count() > 1) {
            int next = drove.indexOf(drove.stream().min(Integer::compare).get());
            drove.set(next, drove.get(next) + 1);
            more++;
        }
        return good(what == 0 ? whose : what == 1 ? least : more);
    }

    int gloves(int row, int n, int what) {
        if (night == null || night.guests.isEmpty()) {
            return STATE;
        }
        if (outside(row, 0, 7) || outside(n, 1, 40) || outside(what, 0, 1)) {
            return BAD;
        }
        if (rows[row] == null) {
            return found(1);
        }
        if (n > rows[row].items.length) {
            return found(2);
        }
        int people = night.guests.size();
        for (int i = 0; i < n; i++) {
            if (outside(rows[row].items[i], 0, (1 << people) - 1)) {
                return BAD;
            }
        }
        int all = 0, most = -1, whose = -1;
        for (int p = 0; p < people; p++) {
            int times = 0;
            for (int i = 0; i < n; i++) {
                times += rows[row].items[i] / (1 << p) % 2;
            }
            all += times == n ? 1 << p : 0;
            if (times > most) {
                most = times;
                whose = p;
            }
        }
        return good(what == 0 ? all : whose);
    }

    int image(int k) {
        if (outside(k, 0, 1)) {
            return BAD;
        }
        if (night == null) {
            return STATE;
        }
        images[k] = night.twin();
        return 1;
    }

    int restore(int k) {
        if (outside(k, 0, 1)) {
            return BAD;
        }
        if (images[k] == null) {
            return STATE;
        }
        night = images[k].twin();
        drinks.clear();
        return 1;
    }

    int kind(int p) {
        return noPerson(p) ? BAD : night.guests.get(p).kind;
    }

    int as(int p, int kind) {
        if (noPerson(p) || outside(kind, 0, 5)) {
            return BAD;
        }
        int is = night.guests.get(p).kind;
        boolean fit = kind == 0 || kind == is || kind == 1 && is <= 3 || kind == 4 && is == 5;
        return fit ? good(p) : found(3);
    }

    int ask(int p, int what) {
        if (noPerson(p) || outside(what, 0, 1)) {
            return BAD;
        }
        trace.clear();
        Guest g = night.guests.get(p);
        int plainMark = p + 10 * g.home;
        if (what == 1) {
            return mark(g, p, plainMark);
        }
        switch (g.kind) {
            case 1:
            case 2:
                leave(11, 10);
                return g.glasses + mark(g, p, plainMark);
            case 3:
                leave(12, 11, 10);
                return -(g.glasses + mark(g, p, plainMark));
            default:
                return size(g);
        }
    }

    private int size(Guest g) {
        if (g.kind == 4) {
            leave(13, 10);
            return g.glasses - 100;
        }
        leave(14, 13, 10);
        return 2 * g.glasses - 200;
    }

    private int mark(Guest g, int p, int plainMark) {
        switch (g.kind) {
            case 1:
                leave(21, 20);
                return plainMark;
            case 2:
                leave(22, 21, 20);
                return plainMark - 1000;
            case 3:
                leave(24, 21, 20);
                return 2 * plainMark;
            default:
                leave(23, 20);
                return p - size(g);
        }
    }

    private void leave(int... numbers) {
        for (int n : numbers) {
            trace.add(n);
        }
    }

    int trace(int i) {
        return outside(i, 0, trace.size() - 1) ? NONE : trace.get(i);
    }

    int count(int what) {
        int present = 0, glasses = 0;
        for (Row r : rows) {
            present += r == null ? 0 : 1;
        }
        Night n = night == null ? new Night() : night;
        for (Guest g : n.guests) {
            glasses += g.glasses;
        }
        int[] all = {present, n.guests.size(), n.cars.size(), n.quarrels.size(), drinks.size(), glasses, tape.length()};
        return outside(what, 0, 6) ? BAD : all[what];
    }

    int status() {
        return status;
    }
}
