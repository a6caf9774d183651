import java.util.ArrayList;
import java.util.HashSet;
import java.util.List;
import java.util.Map;
import java.util.NoSuchElementException;
import java.util.Set;
import java.util.TreeMap;
import java.util.function.Consumer;

/**
 * The document once more, in another way than QuakeNet: a town is nothing but the list of the calls
 * that changed it, told anew whenever the past is asked for. Slow, but with little to be wrong in.
 */
final class Model {
    static final int NONE = -1;

    /** What a text of RULES means. */
    interface Condition {
        boolean holds(Map<String, Integer> facts);
    }

    record Line(String kind, int number, Condition condition) {
    }

    static final class WrongText extends Exception {
        private static final long serialVersionUID = 1L;
        final int at;

        WrongText(int at) {
            super("wrong at " + at, null, false, false);
            this.at = at;
        }
    }

    static final class Parser {
        private final String text;
        private int at;

        Parser(String text) {
            this.text = text;
        }

        static List<Line> parse(String text) throws WrongText {
            List<Line> lines = new ArrayList<>();
            if (text.replace(" ", "").isEmpty()) {
                return lines;
            }
            Parser parser = new Parser(text);
            lines.add(parser.line());
            while (!parser.peek().isEmpty()) {
                parser.expect(";");
                if (lines.size() == 10) {
                    parser.peek();
                    throw new WrongText(parser.at);
                }
                lines.add(parser.line());
            }
            return lines;
        }

        private String peek() {
            while (at < text.length() && text.charAt(at) == ' ') {
                at++;
            }
            int to = at;
            while (to < text.length() && kindOf(text.charAt(to)) == kindOf(text.charAt(at))) {
                to++;
                if (kindOf(text.charAt(at)) == 0) {
                    break;
                }
            }
            return text.substring(at, to);
        }

        private static int kindOf(char c) {
            return c >= 'a' && c <= 'z' ? 1 : c >= '0' && c <= '9' ? 2 : 0;
        }

        private String expect(String... names) throws WrongText {
            String token = peek();
            if (!List.of(names).contains(token)) {
                throw new WrongText(at);
            }
            at += token.length();
            return token;
        }

        private int number(int most) throws WrongText {
            String token = peek();
            if (!token.matches("[0-9]{1,4}") || Integer.parseInt(token) > most) {
                throw new WrongText(at);
            }
            at += token.length();
            return Integer.parseInt(token);
        }

        private Line line() throws WrongText {
            String kind = expect("first", "pass", "cost", "show");
            int number = kind.equals("first") ? number(9999) : kind.equals("cost") ? number(100) : 0;
            Condition condition = facts -> true;
            if (!kind.equals("cost") && peek().equals("if")) {
                expect("if");
                condition = either(0);
            }
            return new Line(kind, number, condition);
        }

        private Condition either(int deep) throws WrongText {
            List<Condition> parts = new ArrayList<>(List.of(all(deep)));
            while (peek().equals("or")) {
                expect("or");
                parts.add(all(deep));
            }
            return facts -> parts.stream().anyMatch(part -> part.holds(facts));
        }

        private Condition all(int deep) throws WrongText {
            List<Condition> parts = new ArrayList<>(List.of(atom(deep)));
            while (peek().equals("and")) {
                expect("and");
                parts.add(atom(deep));
            }
            return facts -> parts.stream().allMatch(part -> part.holds(facts));
        }

        private Condition atom(int deep) throws WrongText {
            String token = peek();
            if (token.equals("not") || token.equals("(")) {
                if (deep == 6) {
                    throw new WrongText(at);
                }
                expect(token);
                if (token.equals("not")) {
                    Condition inner = atom(deep + 1);
                    return facts -> !inner.holds(facts);
                }
                Condition inner = either(deep + 1);
                expect(")");
                return inner;
            }
            if (List.of("alive", "seen", "need", "asked", "order", "undone", "kin").contains(token)) {
                expect(token);
                return facts -> facts.getOrDefault(token, 0) == 1;
            }
            String fact = expect("age", "hops", "have", "charge", "number");
            boolean less = expect("<", ">").equals("<");
            int number = number(9999);
            return facts -> less ? facts.getOrDefault(fact, 0) < number : facts.getOrDefault(fact, 0) > number;
        }
    }

    static final class Word {
        int kind, mouth, tick, life, person, place, when, number;
        int undoes = NONE;
        Boolean judged;

        int[] facts() {
            return new int[] {kind, mouth, tick, life, person, place, when, number, undoes};
        }
    }

    static final class Copy {
        int number, hops, from = NONE, came;
        /** All hands that it went through, and its NUMBER ahead of each of them. */
        List<Integer> hands = new ArrayList<>();
        List<Integer> numbers = new ArrayList<>();
    }

    static final class Phone {
        int place, charge, room, swell, handed, took, gave;
        TreeMap<Integer, Copy> copies = new TreeMap<>();
    }

    record Move(int lot, int phone, int tick, int place) {
    }

    record Had(int tick, Copy copy) {
    }

    /** The net alone: what other walks and RULES would change. */
    static final class Net {
        int tick;
        List<Line> rules = new ArrayList<>();
        final List<Phone> phones = new ArrayList<>();
        final List<Word> words;
        final TreeMap<Integer, Had> had = new TreeMap<>();

        Net(List<Word> words) {
            this.words = words;
        }

        int have(int word) {
            return (int) phones.stream().filter(p -> p.copies.containsKey(word)).count();
        }

        int copies() {
            return phones.stream().mapToInt(p -> p.copies.size()).sum();
        }

        Map<String, Integer> facts(Phone phone, int word) {
            Copy copy = phone.copies.get(word);
            Word w = words.get(word);
            String kind = List.of("alive", "seen", "need", "asked", "order", "undone").get(w.kind);
            return Map.of(kind, 1, "age", tick - w.tick, "hops", copy.hops, "number", copy.number,
                    "have", have(word), "charge", phone.charge);
        }

        int mark(Phone phone, int word) {
            Map<String, Integer> facts = facts(phone, word);
            return rules.stream().filter(l -> l.kind.equals("first") && l.condition.holds(facts))
                    .mapToInt(l -> l.number).sum();
        }

        boolean mayPass(Phone phone, int word) {
            Map<String, Integer> facts = facts(phone, word);
            List<Line> passes = rules.stream().filter(l -> l.kind.equals("pass")).toList();
            return phone.copies.get(word).hops < 12
                    && (passes.isEmpty() || passes.stream().anyMatch(l -> l.condition.holds(facts)));
        }

        int cost() {
            int cost = 1;
            for (Line line : rules) {
                cost = line.kind.equals("cost") ? line.number : cost;
            }
            return cost;
        }

        int worst(Phone phone) {
            int worst = NONE;
            for (int w : phone.copies.descendingKeySet()) {
                worst = worst == NONE || mark(phone, w) < mark(phone, worst) ? w : worst;
            }
            return worst;
        }

        void tell(int word) {
            Word w = words.get(word);
            Phone phone = phones.get(w.mouth);
            phone.copies.remove(w.undoes);
            if (phone.copies.size() >= phone.room) {
                phone.copies.remove(worst(phone));
                phone.gave++;
            }
            Copy copy = new Copy();
            copy.number = w.number;
            copy.came = tick;
            phone.copies.put(word, copy);
            noteHad(phone, word);
        }

        void noteHad(Phone phone, int word) {
            if (phone == phones.get(0)) {
                had.putIfAbsent(word, new Had(tick, phone.copies.get(word)));
            }
        }

        void step(List<Move> moves, int lot) {
            tick++;
            for (Move m : moves) {
                if (m.lot == lot && m.tick == tick) {
                    phones.get(m.phone).place = m.place;
                }
            }
            for (Phone p : phones) {
                p.copies.keySet().removeIf(w -> words.get(w).tick + words.get(w).life <= tick);
            }
            for (int i = 0; i < phones.size(); i++) {
                for (int j = i + 1; j < phones.size(); j++) {
                    if (phones.get(i).place == phones.get(j).place) {
                        meet(phones.get(i), phones.get(j));
                    }
                }
            }
        }

        void meet(Phone a, Phone b) {
            Map<Phone, Set<Integer>> away = Map.of(a, new HashSet<>(), b, new HashSet<>());
            while (a.charge > 0 && b.charge > 0) {
                Phone giver = null;
                int best = NONE;
                for (int w = 0; w < words.size(); w++) {
                    for (Phone from : List.of(a, b)) {
                        Phone to = from == a ? b : a;
                        if (canTake(from, to, w, away.get(to))
                                && (best == NONE || mark(from, w) > mark(giver, best))) {
                            best = w;
                            giver = from;
                        }
                    }
                }
                if (best == NONE) {
                    return;
                }
                hand(giver, giver == a ? b : a, best, away.get(giver == a ? b : a));
            }
        }

        boolean canTake(Phone from, Phone to, int w, Set<Integer> away) {
            if (!from.copies.containsKey(w) || to.copies.containsKey(w) || away.contains(w) || !mayPass(from, w)) {
                return false;
            }
            if (to.copies.keySet().stream().anyMatch(u -> words.get(u).undoes == w)) {
                return false;
            }
            return to.copies.size() < to.room
                    || to.copies.keySet().stream().anyMatch(o -> mark(to, o) < mark(from, w));
        }

        void hand(Phone giver, Phone taker, int word, Set<Integer> away) {
            if (taker.copies.size() >= taker.room) {
                int worst = worst(taker);
                taker.copies.remove(worst);
                away.add(worst);
                taker.gave++;
            }
            Copy old = giver.copies.get(word);
            Copy copy = new Copy();
            int kind = words.get(word).kind;
            copy.number = Math.min(9999, old.number + (kind == 1 || kind == 2 ? giver.swell : 0));
            copy.hops = old.hops + 1;
            copy.from = phones.indexOf(giver);
            copy.came = tick;
            copy.hands.addAll(old.hands);
            copy.hands.add(copy.from);
            copy.numbers.addAll(old.numbers);
            copy.numbers.add(old.number);
            taker.copies.put(word, copy);
            taker.copies.remove(words.get(word).undoes);
            giver.charge = Math.max(0, giver.charge - cost());
            taker.charge--;
            giver.handed++;
            taker.took++;
            noteHad(taker, word);
        }
    }

    /** All that an image keeps, made by nothing but its log. */
    static final class Town {
        final List<Consumer<Town>> log = new ArrayList<>();
        final List<Word> words = new ArrayList<>();
        final Net net = new Net(words);
        final List<Move> moves = new ArrayList<>();
        final List<int[]> rows = new ArrayList<>();
        final Set<Integer> hidden = new HashSet<>();
        final List<int[]> descriptions = new ArrayList<>();
        final List<int[]> stones = new ArrayList<>();
        final List<int[]> gangs = new ArrayList<>();
        int speed = 1;
        int apart = 10;

        void doAndNote(Consumer<Town> call) {
            call.accept(this);
            log.add(call);
        }

        static Town of(List<Consumer<Town>> calls) {
            Town town = new Town();
            calls.forEach(town::doAndNote);
            return town;
        }

        void goOn() {
            net.step(moves, 0);
            rows.add(new int[] {net.copies(), net.copies()});
            if (rows.size() > 8) {
                rows.remove(0);
            }
        }

        /** The net as it was at the end of TICK 0, with all WORDS and moves that are told by now. */
        Net dawn() {
            Town probe = new Town();
            int atDawn = 0;
            for (Consumer<Town> call : log) {
                call.accept(probe);
                if (probe.net.tick > 0) {
                    break;
                }
                atDawn++;
            }
            Town early = of(log.subList(0, atDawn));
            Net net = new Net(words);
            net.phones.addAll(early.net.phones);
            net.had.putAll(early.net.had);
            net.rules = early.net.rules;
            return net;
        }

        void stepTrial(Net trial, int lot) {
            trial.step(moves, lot);
            for (int w = 0; w < words.size(); w++) {
                if (words.get(w).tick == trial.tick) {
                    trial.tell(w);
                }
            }
        }

        List<Integer> sayings(int person, int known) {
            List<Integer> list = new ArrayList<>();
            for (int w = 0; w < words.size(); w++) {
                int word = w;
                boolean undone = net.had.entrySet().stream()
                        .anyMatch(e -> words.get(e.getKey()).undoes == word && e.getValue().tick <= known);
                if (words.get(w).kind <= 1 && words.get(w).person == person && net.had.containsKey(w)
                        && net.had.get(w).tick <= known && !undone) {
                    list.add(w);
                }
            }
            return list;
        }

        int could(List<Integer> sayings, int tick) {
            int bits = 0;
            for (int place = 0; place < 16; place++) {
                int here = place;
                if (sayings.stream().map(words::get)
                        .allMatch(w -> farApart(w.place, here) <= speed * Math.abs(w.when - tick))) {
                    bits += 1 << place;
                }
            }
            return bits;
        }

        boolean against(int i, int j) {
            Word a = words.get(i);
            Word b = words.get(j);
            return farApart(a.place, b.place) > speed * Math.abs(a.when - b.when);
        }

        boolean anyAgainst(List<Integer> sayings) {
            return sayings.stream().anyMatch(i -> sayings.stream().anyMatch(j -> against(i, j)));
        }

        int least(List<Integer> all) {
            List<Integer> sayings = all.subList(0, Math.min(10, all.size()));
            for (int most = 0; most <= sayings.size(); most++) {
                for (int out = 0; out < 1 << sayings.size(); out++) {
                    List<Integer> kept = new ArrayList<>();
                    for (int i = 0; i < sayings.size(); i++) {
                        if ((out >> i & 1) == 0) {
                            kept.add(sayings.get(i));
                        }
                    }
                    if (Integer.bitCount(out) == most && !anyAgainst(kept)) {
                        return out;
                    }
                }
            }
            throw new AssertionError("leaving all out is always enough");
        }

        int weight(int phone) {
            long all = words.stream().filter(w -> w.mouth == phone && w.judged != null).count();
            long good = words.stream().filter(w -> w.mouth == phone && w.judged != null && w.judged).count();
            return (int) (1000 * (good + 1) / (all + 2));
        }

        int saved(int gang, int stone) {
            int[] g = gangs.get(gang);
            int[] s = stones.get(stone);
            int open = net.tick + farApart(g[0], s[0]) + (int) Math.ceil(s[4] / (double) g[1]);
            return s[1] * Math.max(0, s[2] - s[3] * (open - s[5]));
        }

        /** All SENDINGS, the first GANG's choice changing slowest and none being the last choice. */
        List<Integer> bestSending() {
            int choices = stones.size() + 1;
            int bestSaved = -1;
            List<Integer> best = null;
            for (int n = 0; n < Math.pow(choices, gangs.size()); n++) {
                List<Integer> sending = new ArrayList<>();
                int left = n;
                for (int g = 0; g < gangs.size(); g++) {
                    sending.add(0, left % choices == stones.size() ? NONE : left % choices);
                    left /= choices;
                }
                int sum = 0;
                boolean twice = false;
                for (int g = 0; g < gangs.size(); g++) {
                    int s = sending.get(g);
                    twice |= s != NONE && sending.indexOf(s) != g;
                    sum += s == NONE ? 0 : saved(g, s);
                }
                if (!twice && sum > bestSaved) {
                    bestSaved = sum;
                    best = sending;
                }
            }
            best.add(bestSaved);
            return best;
        }

        /** The best parting, and behind it its HEAPS and its price. */
        List<Integer> bestParting() {
            List<List<Integer>> partings = new ArrayList<>(List.of(List.of()));
            for (int i = 0; i < descriptions.size(); i++) {
                List<List<Integer>> longer = new ArrayList<>();
                for (List<Integer> parting : partings) {
                    for (int h = 0; h <= heapsOf(parting); h++) {
                        List<Integer> next = new ArrayList<>(parting);
                        next.add(h);
                        longer.add(next);
                    }
                }
                partings = longer;
            }
            List<Integer> best = partings.get(0);
            for (List<Integer> parting : partings) {
                int less = Integer.compare(priceOf(parting), priceOf(best));
                if (less < 0 || less == 0 && heapsOf(parting) < heapsOf(best)) {
                    best = parting;
                }
            }
            List<Integer> answer = new ArrayList<>(best);
            answer.add(heapsOf(best));
            answer.add(priceOf(best));
            return answer;
        }

        static int heapsOf(List<Integer> parting) {
            return (int) parting.stream().distinct().count();
        }

        int priceOf(List<Integer> parting) {
            int price = heapsOf(parting) * apart;
            for (int i = 0; i < parting.size(); i++) {
                for (int j = 0; j < i; j++) {
                    price += parting.get(i).equals(parting.get(j)) ? priceOfTwo(i, j) : 0;
                }
            }
            return price;
        }

        int priceOfTwo(int i, int j) {
            int[] a = descriptions.get(i);
            int[] b = descriptions.get(j);
            int sum = 0;
            for (int k = 0; k < 3; k++) {
                if (a[k] >= 0 && b[k] >= 0 && a[k] != b[k]) {
                    sum += k == 0 ? 20 : k == 1 ? Math.abs(a[k] - b[k]) : 7;
                }
            }
            return sum;
        }
    }

    static int farApart(int a, int b) {
        return Math.abs((a & 3) - (b & 3)) + Math.abs((a >> 2) - (b >> 2));
    }

    private Town town = new Town();
    private String tape = "";
    private int fault = NONE;
    private List<Consumer<Town>> image;

    private static void index(int i, int bound) {
        if (i < 0 || i >= bound) {
            throw new IndexOutOfBoundsException();
        }
    }

    private static void within(int n, int least, int most) {
        if (n < least || n > most) {
            throw new IllegalArgumentException();
        }
    }

    private static void atMost(int size, int most) {
        if (size == most) {
            throw new UnsupportedOperationException();
        }
    }

    private static void element(int what, int bound) {
        if (what < 0 || what >= bound) {
            throw new NoSuchElementException();
        }
    }

    private void tickZero() {
        if (town.net.tick > 0) {
            throw new IllegalStateException();
        }
    }

    private List<Line> readTape() {
        String text = tape;
        tape = "";
        try {
            List<Line> lines = Parser.parse(text);
            fault = NONE;
            return lines;
        } catch (WrongText e) {
            fault = e.at;
            throw new IllegalArgumentException();
        }
    }

    int feed(int a, int b, int c, int d, int e) {
        if (tape.length() + 20 > 400) {
            return NONE;
        }
        StringBuilder more = new StringBuilder(tape);
        for (int n : new int[] {a, b, c, d, e}) {
            for (int shift = 24; shift >= 0; shift -= 8) {
                more.append((char) (n >> shift & 255));
            }
        }
        tape = more.toString();
        return tape.length();
    }

    boolean end(int n) {
        if (n < 0 || n > tape.length()) {
            return false;
        }
        tape = tape.substring(0, n);
        return true;
    }

    int phone(int place, int charge, int room, int swell) {
        index(place, 16);
        within(charge, 0, 1000);
        within(room, 1, 12);
        within(swell, 0, 9);
        atMost(town.net.phones.size(), 10);
        tickZero();
        town.doAndNote(t -> {
            Phone phone = new Phone();
            phone.place = place;
            phone.charge = charge;
            phone.room = room;
            phone.swell = swell;
            t.net.phones.add(phone);
        });
        return town.net.phones.size() - 1;
    }

    int move(int lot, int phone, int tick, int place) {
        index(lot, 4);
        index(phone, town.net.phones.size());
        index(place, 16);
        within(tick, town.net.tick + 1, 400);
        long told = town.moves.stream().filter(m -> m.lot == lot).count();
        if (told == 60) {
            return NONE;
        }
        town.doAndNote(t -> t.moves.add(new Move(lot, phone, tick, place)));
        return (int) told + 1;
    }

    int rules() {
        List<Line> lines = readTape();
        tickZero();
        town.doAndNote(t -> t.net.rules = lines);
        return lines.size();
    }

    int fault() {
        return fault;
    }

    int say(int phone, int kind, int life, int person, int place, int when, int number) {
        index(phone, town.net.phones.size());
        index(person, 16);
        index(place, 16);
        within(kind, 0, 4);
        within(life, 1, 200);
        within(kind > 1 ? 0 : when, 0, town.net.tick);
        within(number, 0, 9999);
        atMost(town.words.size(), 30);
        town.doAndNote(t -> {
            Word w = new Word();
            w.kind = kind;
            w.mouth = phone;
            w.tick = t.net.tick;
            w.life = life;
            w.person = person;
            w.place = place;
            w.when = when;
            w.number = number;
            t.words.add(w);
            t.net.tell(t.words.size() - 1);
        });
        return town.words.size() - 1;
    }

    int undo(int phone, int life, int word) {
        index(phone, town.net.phones.size());
        index(word, town.words.size());
        within(life, 1, 200);
        within(town.words.get(word).kind, 0, 4);
        atMost(town.words.size(), 30);
        town.doAndNote(t -> {
            Word w = new Word();
            w.kind = 5;
            w.mouth = phone;
            w.tick = t.net.tick;
            w.life = life;
            w.undoes = word;
            t.words.add(w);
            t.net.tell(t.words.size() - 1);
        });
        return town.words.size() - 1;
    }

    int ticks(int n) {
        within(n, 0, 40);
        for (int i = 0; i < n && town.net.tick < 400; i++) {
            town.doAndNote(Town::goOn);
        }
        return town.net.tick;
    }

    int look(int phone, int what) {
        index(phone, town.net.phones.size());
        element(what, 8);
        Phone p = town.net.phones.get(phone);
        return new int[] {p.place, p.charge, p.copies.size(), p.room, p.swell, p.handed, p.took, p.gave}[what];
    }

    int copy(int phone, int word, int what) {
        index(phone, town.net.phones.size());
        index(word, town.words.size());
        element(what, 6);
        Phone p = town.net.phones.get(phone);
        Copy c = p.copies.get(word);
        if (c == null) {
            return NONE;
        }
        return new int[] {c.number, c.hops, c.from, c.came, town.net.mark(p, word),
                town.net.mayPass(p, word) ? 1 : 0}[what];
    }

    int word(int word, int what) {
        index(word, town.words.size());
        element(what, 11);
        Word w = town.words.get(word);
        return what < 9 ? w.facts()[what] : what == 9 ? town.net.have(word)
                : town.net.tick >= w.tick + w.life ? 1 : 0;
    }

    int had(int word) {
        index(word, town.words.size());
        return town.net.had.containsKey(word) ? town.net.had.get(word).tick : NONE;
    }

    int way(int word, int i) {
        if (had(word) == NONE) {
            return NONE;
        }
        List<Integer> way = town.net.had.get(word).copy.hands;
        way = way.isEmpty() ? List.of(0) : way;
        return i >= 0 && i < way.size() ? way.get(i) : NONE;
    }

    int late(int word) {
        return had(word) == NONE ? NONE : had(word) - town.words.get(word).tick;
    }

    int rumour(int word) {
        if (had(word) == NONE) {
            return NONE;
        }
        Copy copy = town.net.had.get(word).copy;
        for (int i = 0; i < copy.hands.size(); i++) {
            int after = i + 1 < copy.numbers.size() ? copy.numbers.get(i + 1) : copy.number;
            if (after > copy.numbers.get(i)) {
                return copy.hands.get(i);
            }
        }
        return NONE;
    }

    int sayings(int person, int known, boolean mouths) {
        index(person, 16);
        List<Integer> list = town.sayings(person, known);
        return mouths ? (int) list.stream().map(w -> town.words.get(w).mouth).distinct().count() : list.size();
    }

    void speed(int n) {
        within(n, 1, 8);
        town.doAndNote(t -> t.speed = n);
    }

    int could(int person, int tick, int known) {
        index(person, 16);
        within(tick, 0, 400);
        return town.could(town.sayings(person, known), tick);
    }

    int least(int person, int known, boolean set) {
        index(person, 16);
        int out = town.least(town.sayings(person, known));
        return set ? out : Integer.bitCount(out);
    }

    boolean judge(int word, boolean isTrue) {
        index(word, town.words.size());
        Boolean before = town.words.get(word).judged;
        town.doAndNote(t -> t.words.get(word).judged = isTrue);
        return before == null || before != isTrue;
    }

    int weight(int phone) {
        index(phone, town.net.phones.size());
        return town.weight(phone);
    }

    int sure(int person, int place) {
        index(person, 16);
        index(place, 16);
        List<Integer> list = town.sayings(person, town.net.tick);
        return town.anyAgainst(list) ? 0 : list.stream().map(town.words::get).filter(w -> w.place == place)
                .map(w -> w.mouth).distinct().mapToInt(town::weight).sum();
    }

    int describe(int name, int age, int coat) {
        within(name, NONE, 99);
        within(age, NONE, 99);
        within(coat, NONE, 9);
        if (town.descriptions.size() == 7) {
            return NONE;
        }
        town.doAndNote(t -> t.descriptions.add(new int[] {name, age, coat}));
        return town.descriptions.size() - 1;
    }

    void apart(int n) {
        within(n, 0, 1000);
        town.doAndNote(t -> t.apart = n);
    }

    int heaps(int what) {
        element(what, 2);
        List<Integer> best = town.bestParting();
        return best.get(town.descriptions.size() + 1 - what);
    }

    int heap(int description) {
        index(description, town.descriptions.size());
        return town.bestParting().get(description);
    }

    int stones(int place, int living, int odds, int fade, int dig) {
        index(place, 16);
        within(living, 0, 100);
        within(odds, 0, 100);
        within(fade, 0, 20);
        within(dig, 1, 1000);
        atMost(town.stones.size(), 5);
        town.doAndNote(t -> t.stones.add(new int[] {place, living, odds, fade, dig, t.net.tick}));
        return town.stones.size() - 1;
    }

    int gang(int place, int strength) {
        index(place, 16);
        within(strength, 1, 100);
        atMost(town.gangs.size(), 4);
        town.doAndNote(t -> t.gangs.add(new int[] {place, strength}));
        return town.gangs.size() - 1;
    }

    int saved(int gang, int stones) {
        index(gang, town.gangs.size());
        index(stones, town.stones.size());
        return town.saved(gang, stones);
    }

    int send(int gang) {
        if (gang != NONE) {
            index(gang, town.gangs.size());
        }
        return town.bestSending().get(gang == NONE ? town.gangs.size() : gang);
    }

    boolean hide(int person, boolean is) {
        index(person, 16);
        boolean was = town.hidden.contains(person);
        town.doAndNote(t -> {
            t.hidden.remove(person);
            if (is) {
                t.hidden.add(person);
            }
        });
        return was != is;
    }

    int ask(int person, boolean kin) {
        index(person, 16);
        List<Integer> list = town.sayings(person, town.net.tick);
        boolean shown = town.net.rules.stream()
                .anyMatch(l -> l.kind.equals("show") && l.condition.holds(Map.of("kin", kin ? 1 : 0)));
        return list.isEmpty() || town.hidden.contains(person) && !shown ? 0 : town.could(list, town.net.tick);
    }

    int far(int word, int tick) {
        index(word, town.words.size());
        within(tick, 0, Integer.MAX_VALUE);
        int sum = 0;
        for (int lot = 0; lot < 4; lot++) {
            int l = lot;
            if (lot > 0 && town.moves.stream().noneMatch(m -> m.lot == l)) {
                continue;
            }
            Net trial = town.dawn();
            while (trial.tick < Math.min(tick, town.net.tick)) {
                town.stepTrial(trial, lot);
            }
            sum += trial.have(word);
        }
        return sum;
    }

    int would(int word) {
        if (word < 0 || word >= town.words.size()) {
            tape = "";
        }
        index(word, town.words.size());
        List<Line> lines = readTape();
        Net trial = town.dawn();
        trial.rules = lines;
        while (trial.tick < town.net.tick) {
            town.stepTrial(trial, 0);
        }
        return trial.had.containsKey(word) ? trial.had.get(word).tick : NONE;
    }

    int tear(int i, int mask) {
        element(i, town.rows.size());
        town.doAndNote(t -> t.rows.get(i)[1] ^= mask);
        return town.rows.get(i)[1];
    }

    int check() {
        for (int i = 0; i < town.rows.size(); i++) {
            if (town.rows.get(i)[0] != town.rows.get(i)[1]) {
                return i;
            }
        }
        return NONE;
    }

    void image() {
        image = new ArrayList<>(town.log);
    }

    boolean back() {
        if (image == null) {
            return false;
        }
        town = Town.of(image);
        return true;
    }

    int count(int what) {
        List<Phone> phones = town.net.phones;
        int[] counts = {town.net.tick, phones.size(), town.words.size(), town.net.rules.size(), town.net.copies(),
                phones.stream().mapToInt(p -> p.handed).sum(), phones.stream().mapToInt(p -> p.gave).sum(),
                town.net.had.size(), town.descriptions.size(), town.stones.size(), town.gangs.size(),
                (int) town.moves.stream().map(m -> m.lot).distinct().count()};
        return what >= 0 && what < counts.length ? counts[what] : NONE;
    }
}
