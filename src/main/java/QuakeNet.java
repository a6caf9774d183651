import java.util.Arrays;
import java.util.NoSuchElementException;

/**
 * A net after a quake: telephones without masts that hand words on when their bearers meet, and a
 * tent that makes out what is so. The words in capitals are those of the document.
 */
public final class QuakeNet {
    public static final int NONE = -1;

    private static final int PLACES = 16;
    private static final int SIDE = 4;
    private static final int PERSONS = 16;
    private static final int LAST_TICK = 400;
    private static final int MOST_PHONES = 10;
    private static final int MOST_WORDS = 30;
    private static final int MOST_LIFE = 200;
    private static final int MOST_NUMBER = 9999;
    private static final int TENT = 0;

    private static final int SEEN = 1;
    private static final int NEED = 2;
    private static final int ORDER = 4;
    private static final int UNDONE = 5;

    private final Reader reader = new Reader();
    private final Town town = new Town();
    private final Net trial = new Net(town.words, town.rules);
    private final Sayings about = new Sayings(town.words, town.net);
    /** THE IMAGE; null until one is kept, as most nets never keep one. */
    private Town kept;

    public QuakeNet() {
    }

    public int feed(int a, int b, int c, int d, int e) {
        if (!reader.hasSpace(20)) {
            return NONE;
        }
        reader.put(a);
        reader.put(b);
        reader.put(c);
        reader.put(d);
        reader.put(e);
        return reader.length;
    }

    public boolean end(int n) {
        if (n < 0 || n > reader.length) {
            return false;
        }
        reader.length = n;
        return true;
    }

    public int phone(int place, int charge, int room, int swell)
            throws IndexOutOfBoundsException, IllegalArgumentException, UnsupportedOperationException,
            IllegalStateException {
        needPlace(place);
        needWithin(charge, 0, 1000);
        needWithin(room, 1, 12);
        needWithin(swell, 0, 9);
        needSpace(town.net.phones, MOST_PHONES);
        needTickZero();
        return town.net.addPhone(place, charge, room, swell);
    }

    public int move(int lot, int phone, int tick, int place)
            throws IndexOutOfBoundsException, IllegalArgumentException {
        needIndex(lot, Walks.LOTS);
        needPhone(phone);
        needPlace(place);
        needWithin(tick, town.net.tick + 1, LAST_TICK);
        return town.walks.add(lot, phone, tick, place);
    }

    public int rules() throws IllegalArgumentException, IllegalStateException {
        needGood(reader.read());
        needTickZero();
        town.rules.become(reader.draft);
        return town.rules.lines;
    }

    public int fault() {
        return reader.wrong;
    }

    public int say(int phone, int kind, int life, int person, int place, int when, int number)
            throws IndexOutOfBoundsException, IllegalArgumentException, UnsupportedOperationException {
        needPhone(phone);
        needIndex(person, PERSONS);
        needPlace(place);
        needWithin(kind, 0, ORDER);
        needWithin(life, 1, MOST_LIFE);
        if (kind <= SEEN) {
            needWithin(when, 0, town.net.tick);
        }
        needWithin(number, 0, MOST_NUMBER);
        needSpace(town.words.size, MOST_WORDS);
        int word = town.words.open(kind, phone, town.net.tick, life);
        town.words.fill(word, person, place, when, number);
        town.net.tellNext();
        return word;
    }

    public int undo(int phone, int life, int word)
            throws IndexOutOfBoundsException, IllegalArgumentException, UnsupportedOperationException {
        needPhone(phone);
        needWord(word);
        needWithin(life, 1, MOST_LIFE);
        // Only what is no undone WORD itself can be undone.
        needWithin(town.words.fact[Words.KIND][word], 0, ORDER);
        needSpace(town.words.size, MOST_WORDS);
        int undone = town.words.open(UNDONE, phone, town.net.tick, life);
        town.words.link(undone, word);
        town.net.tellNext();
        return undone;
    }

    public int ticks(int n) throws IllegalArgumentException {
        needWithin(n, 0, 40);
        for (int i = 0; i < n && town.net.tick < LAST_TICK; i++) {
            town.goOn();
        }
        return town.net.tick;
    }

    public int look(int phone, int what) throws IndexOutOfBoundsException, NoSuchElementException {
        needPhone(phone);
        needWhat(what, Net.STATS);
        return town.net.stat[what][phone];
    }

    public int copy(int phone, int word, int what) throws IndexOutOfBoundsException, NoSuchElementException {
        needPhone(phone);
        needWord(word);
        needWhat(what, Net.COPY_FACTS + 2);
        if (!town.net.carries(phone, word)) {
            return NONE;
        }
        if (what < Net.COPY_FACTS) {
            return town.net.copied[what][Net.cell(phone, word)];
        }
        town.net.loadFacts(phone, word);
        if (what == Net.COPY_FACTS) {
            return town.rules.mark();
        }
        return town.rules.lets() ? 1 : 0;
    }

    public int word(int word, int what) throws IndexOutOfBoundsException, NoSuchElementException {
        needWord(word);
        needWhat(what, Words.FACTS + 2);
        if (what < Words.FACTS) {
            return town.words.fact[what][word];
        }
        if (what == Words.FACTS) {
            return town.net.spread[word];
        }
        return town.words.isDead(word, town.net.tick) ? 1 : 0;
    }

    public int had(int word) throws IndexOutOfBoundsException {
        needWord(word);
        return town.net.hadAt[word];
    }

    public int way(int word, int i) throws IndexOutOfBoundsException {
        needWord(word);
        if (town.net.hadAt[word] == NONE) {
            return NONE;
        }
        // The TENT handed nothing to itself, so what was told there has no hands on its path.
        if (town.net.hadHops[word] == 0) {
            return i == 0 ? TENT : NONE;
        }
        return i >= 0 && i < town.net.hadHops[word] ? town.net.handOf(word, i) : NONE;
    }

    public int late(int word) throws IndexOutOfBoundsException {
        needWord(word);
        int at = town.net.hadAt[word];
        return at == NONE ? NONE : at - town.words.fact[Words.TICK][word];
    }

    public int rumour(int word) throws IndexOutOfBoundsException {
        needWord(word);
        return town.net.firstToSwell(word);
    }

    public int sayings(int person, int known, boolean mouths) throws IndexOutOfBoundsException {
        needIndex(person, PERSONS);
        about.gather(person, known);
        return mouths ? Integer.bitCount(about.mouthsAt(NONE)) : about.size;
    }

    public void speed(int n) throws IllegalArgumentException {
        needWithin(n, 1, 8);
        town.pace = n;
    }

    public int could(int person, int tick, int known) throws IndexOutOfBoundsException, IllegalArgumentException {
        needIndex(person, PERSONS);
        needWithin(tick, 0, LAST_TICK);
        about.gather(person, known);
        return about.placesLeft(tick, town.pace);
    }

    public int least(int person, int known, boolean set) throws IndexOutOfBoundsException {
        needIndex(person, PERSONS);
        about.gather(person, known);
        int leftOut = about.fewestWrong(town.pace);
        return set ? leftOut : Integer.bitCount(leftOut);
    }

    public boolean judge(int word, boolean isTrue) throws IndexOutOfBoundsException {
        needWord(word);
        return town.words.setVerdict(word, isTrue);
    }

    public int weight(int phone) throws IndexOutOfBoundsException {
        needPhone(phone);
        return town.words.trust(phone);
    }

    public int sure(int person, int place) throws IndexOutOfBoundsException {
        needIndex(person, PERSONS);
        needPlace(place);
        about.gather(person, town.net.tick);
        if (about.anyAgainst(town.pace)) {
            return 0;
        }
        int mouths = about.mouthsAt(place);
        int sum = 0;
        for (int phone = 0; phone < town.net.phones; phone++) {
            if ((mouths >> phone & 1) != 0) {
                sum += town.words.trust(phone);
            }
        }
        return sum;
    }

    public int describe(int name, int age, int coat) throws IllegalArgumentException {
        needWithin(name, NONE, 99);
        needWithin(age, NONE, 99);
        needWithin(coat, NONE, 9);
        return town.parting.add(name, age, coat);
    }

    public void apart(int n) throws IllegalArgumentException {
        needWithin(n, 0, 1000);
        town.parting.heapPrice = n;
    }

    public int heaps(int what) throws NoSuchElementException {
        needWhat(what, 2);
        town.parting.findBest();
        return what == 0 ? town.parting.bestPrice : town.parting.bestHeaps;
    }

    public int heap(int description) throws IndexOutOfBoundsException {
        needIndex(description, town.parting.size);
        town.parting.findBest();
        return town.parting.best[description];
    }

    public int stones(int place, int living, int odds, int fade, int dig)
            throws IndexOutOfBoundsException, IllegalArgumentException, UnsupportedOperationException {
        needPlace(place);
        needWithin(living, 0, 100);
        needWithin(odds, 0, 100);
        needWithin(fade, 0, 20);
        needWithin(dig, 1, 1000);
        needSpace(town.help.rubbles, Help.MOST_STONES);
        return town.help.addStones(place, living, odds, fade, dig, town.net.tick);
    }

    public int gang(int place, int strength)
            throws IndexOutOfBoundsException, IllegalArgumentException, UnsupportedOperationException {
        needPlace(place);
        needWithin(strength, 1, 100);
        needSpace(town.help.gangs, Help.MOST_GANGS);
        return town.help.addGang(place, strength);
    }

    public int saved(int gang, int stones) throws IndexOutOfBoundsException {
        needIndex(gang, town.help.gangs);
        needIndex(stones, town.help.rubbles);
        return town.help.savedBy(gang, stones, town.net.tick);
    }

    public int send(int gang) throws IndexOutOfBoundsException {
        if (gang != NONE) {
            needIndex(gang, town.help.gangs);
        }
        town.help.findBest(town.net.tick);
        return gang == NONE ? town.help.bestSaved : town.help.best[gang];
    }

    public boolean hide(int person, boolean is) throws IndexOutOfBoundsException {
        needIndex(person, PERSONS);
        boolean was = town.isHidden(person);
        if (was != is) {
            town.hidden ^= 1 << person;
        }
        return was != is;
    }

    public int ask(int person, boolean kin) throws IndexOutOfBoundsException {
        needIndex(person, PERSONS);
        about.gather(person, town.net.tick);
        if (about.size == 0 || town.isHidden(person) && !town.rules.shows(kin)) {
            return 0;
        }
        return about.placesLeft(town.net.tick, town.pace);
    }

    public int far(int word, int tick) throws IndexOutOfBoundsException, IllegalArgumentException {
        needWord(word);
        int until = Math.min(tick, town.net.tick);
        needWithin(until, 0, LAST_TICK);
        int sum = 0;
        for (int lot = 0; lot < Walks.LOTS; lot++) {
            if (lot == 0 || town.walks.moves[lot] > 0) {
                sum += spreadOn(lot, word, until);
            }
        }
        return sum;
    }

    public int would(int word) throws IndexOutOfBoundsException, IllegalArgumentException {
        if (word < 0 || word >= town.words.size) {
            // The TAPE is used up by a call that throws too.
            reader.length = 0;
        }
        needWord(word);
        needGood(reader.read());
        beginTrial(reader.draft);
        for (int t = 0; t < town.net.tick && trial.hadAt[word] == NONE; t++) {
            trial.step(town.walks, 0);
            trial.tellDue();
        }
        return trial.hadAt[word];
    }

    public int tear(int i, int mask) throws NoSuchElementException {
        needWhat(i, town.rows.size);
        town.rows.shown[i] ^= mask;
        return town.rows.shown[i];
    }

    public int check() {
        return town.rows.firstTorn();
    }

    public void image() {
        if (kept == null) {
            kept = new Town();
        }
        kept.become(town);
    }

    public boolean back() {
        if (kept == null) {
            return false;
        }
        town.become(kept);
        return true;
    }

    public int count(int what) {
        switch (what) {
            case 0: return town.net.tick;
            case 1: return town.net.phones;
            case 2: return town.words.size;
            case 3: return town.rules.lines;
            case 4: return town.net.total(Net.COPIES);
            case 5: return town.net.total(Net.HANDED);
            case 6: return town.net.total(Net.GAVE);
            case 7: return town.net.wordsHad();
            case 8: return town.parting.size;
            case 9: return town.help.rubbles;
            case 10: return town.help.gangs;
            case 11: return town.walks.lotsThatMove();
            default: return NONE;
        }
    }

    private static void needIndex(int index, int bound) {
        if (index < 0 || index >= bound) {
            throw new IndexOutOfBoundsException("there is none such");
        }
    }

    private static void needPlace(int place) {
        needIndex(place, PLACES);
    }

    private void needPhone(int phone) {
        needIndex(phone, town.net.phones);
    }

    private void needWord(int word) {
        needIndex(word, town.words.size);
    }

    private static void needWithin(int number, int least, int most) {
        if (number < least || number > most) {
            throw new IllegalArgumentException("the number is out of its bounds");
        }
    }

    private static void needSpace(int size, int most) {
        if (size >= most) {
            throw new UnsupportedOperationException("there are as many as there may be");
        }
    }

    private static void needWhat(int what, int bound) {
        if (what < 0 || what >= bound) {
            throw new NoSuchElementException("there is none such");
        }
    }

    private void needTickZero() {
        if (town.net.tick > 0) {
            throw new IllegalStateException("TICK is above 0");
        }
    }

    private static void needGood(boolean text) {
        if (!text) {
            throw new IllegalArgumentException("the text is wrong");
        }
    }

    private void beginTrial(Rules by) {
        trial.become(town.net.tick == 0 ? town.net : town.dawn);
        trial.rules = by;
    }

    private int spreadOn(int lot, int word, int until) {
        beginTrial(town.rules);
        for (int t = 0; t < until; t++) {
            trial.step(town.walks, lot);
            trial.tellDue();
        }
        return trial.spread[word];
    }

    private static int steps(int a, int b) {
        return Math.abs(a % SIDE - b % SIDE) + Math.abs(a / SIDE - b / SIDE);
    }

    private static void copyRow(int[] from, int[] to) {
        System.arraycopy(from, 0, to, 0, Math.min(from.length, to.length));
    }

    private static void copyRows(int[][] from, int[][] to) {
        for (int i = 0; i < from.length && i < to.length; i++) {
            copyRow(from[i], to[i]);
        }
    }

    /** All that THE IMAGE keeps. */
    private static final class Town {
        final Rules rules = new Rules();
        final Words words = new Words();
        final Walks walks = new Walks();
        final Net net = new Net(words, rules);
        /** The net at the end of TICK 0, from which the other walks and RULES are tried. */
        final Net dawn = new Net(words, rules);
        final Rows rows = new Rows();
        final Parting parting = new Parting();
        final Help help = new Help();
        int pace = 1;
        int hidden;

        void goOn() {
            if (net.tick == 0) {
                dawn.become(net);
            }
            net.step(walks, 0);
            rows.add(net.total(Net.COPIES));
        }

        boolean isHidden(int person) {
            return (hidden >> person & 1) != 0;
        }

        void become(Town other) {
            rules.become(other.rules);
            words.become(other.words);
            walks.become(other.walks);
            net.become(other.net);
            dawn.become(other.dawn);
            rows.become(other.rows);
            parting.become(other.parting);
            help.become(other.help);
            pace = other.pace;
            hidden = other.hidden;
        }
    }

    /** The TAPE, and how it is read as a text of RULES. */
    private static final class Reader {
        static final int MOST_DEEP = 6;
        static final int MOST_DIGITS = 4;
        static final int MOST_COST = 100;

        /** The words, each at a multiple of WIDTH: their places there are their tokens. */
        static final String NAMES =
                "first  pass   cost   show   if     or     and    not    alive  seen   need   asked  order  undone kin    age    hops   have   charge number ";
        static final int WIDTH = 7;
        static final int IF = 4;
        static final int OR = 5;
        static final int AND = 6;
        static final int NOT = 7;
        static final int TAGS = 8;
        static final int FACTS = 15;
        static final int NUMBER = 20;
        static final int END = 21;
        static final int UNKNOWN = 22;
        /** The token of any other byte is that byte behind this. */
        static final int SIGN = 100;

        final Rules draft = new Rules();
        private final byte[] bytes = new byte[400];
        int length;
        int wrong = NONE;
        private int at;
        private int token;
        /** Where the token begins. */
        private int begin;
        /** Of the token NUMBER; one that has too many digits is above all bounds. */
        private int value;

        boolean hasSpace(int more) {
            return length + more <= bytes.length;
        }

        void put(int number) {
            for (int shift = 24; shift >= 0 && length < bytes.length; shift -= 8) {
                bytes[length] = (byte) (number >>> shift);
                length++;
            }
        }

        boolean read() {
            draft.clear();
            at = 0;
            wrong = NONE;
            next();
            boolean more = token != END;
            for (int line = 0; line < Rules.MOST_LINES && more; line++) {
                more = readLine();
            }
            if (more) {
                fail();
            }
            length = 0;
            return wrong == NONE;
        }

        /** Answers whether another LINE must come. */
        private boolean readLine() {
            int kind = token;
            if (kind > Rules.SHOW) {
                return fail();
            }
            next();
            int number = 0;
            if (kind == Rules.FIRST || kind == Rules.COST) {
                if (token != NUMBER || value > (kind == Rules.COST ? MOST_COST : MOST_NUMBER)) {
                    return fail();
                }
                number = value;
                next();
            }
            draft.addLine(kind, number);
            if (kind != Rules.COST && token == IF) {
                next();
                if (!readEither(0)) {
                    return false;
                }
            }
            if (token == END) {
                return false;
            }
            if (token != SIGN + ';') {
                return fail();
            }
            next();
            return true;
        }

        /** An or waits until the ALL to its right has been read. */
        private boolean readEither(int depth) {
            boolean orWaits = false;
            boolean good = readAtom(depth);
            for (int i = 0; i < length && good && (token == AND || token == OR); i++) {
                boolean and = token == AND;
                if (!and && orWaits) {
                    draft.addStep(Rules.OR, 0, 0);
                }
                orWaits |= !and;
                next();
                good = readAtom(depth);
                if (and) {
                    draft.addStep(Rules.AND, 0, 0);
                }
            }
            if (orWaits) {
                draft.addStep(Rules.OR, 0, 0);
            }
            return good;
        }

        private boolean readAtom(int depth) {
            boolean open = token == SIGN + '(';
            if (!open && token != NOT) {
                return readFact();
            }
            if (depth >= MOST_DEEP) {
                return fail();
            }
            next();
            if (!open) {
                boolean good = readAtom(depth + 1);
                draft.addStep(Rules.NOT, 0, 0);
                return good;
            }
            if (!readEither(depth + 1)) {
                return false;
            }
            if (token != SIGN + ')') {
                return fail();
            }
            next();
            return true;
        }

        /** Reads a TAG, or a FACT beside a NUMBER. */
        private boolean readFact() {
            if (token >= TAGS && token < FACTS) {
                draft.addStep(Rules.TAG, token - TAGS, 0);
                next();
                return true;
            }
            if (token < FACTS || token >= NUMBER) {
                return fail();
            }
            int fact = token - FACTS;
            next();
            boolean less = token == SIGN + '<';
            if (!less && token != SIGN + '>') {
                return fail();
            }
            next();
            if (token != NUMBER || value > MOST_NUMBER) {
                return fail();
            }
            draft.addStep(less ? Rules.LESS : Rules.MORE, fact, value);
            next();
            return true;
        }

        private boolean fail() {
            wrong = begin;
            return false;
        }

        private void next() {
            while (at < length && bytes[at] == ' ') {
                at++;
            }
            begin = at;
            if (at >= length) {
                token = END;
                return;
            }
            value = 0;
            while (at < length && bytes[at] >= '0' && bytes[at] <= '9') {
                value = at - begin < MOST_DIGITS ? 10 * value + bytes[at] - '0' : MOST_NUMBER + 1;
                at++;
            }
            if (at > begin) {
                token = NUMBER;
                return;
            }
            while (at < length && bytes[at] >= 'a' && bytes[at] <= 'z') {
                at++;
            }
            if (at > begin) {
                token = named();
                return;
            }
            token = SIGN + (bytes[at] & 255);
            at++;
        }

        private int named() {
            int letters = at - begin;
            for (int i = 0; i + WIDTH <= NAMES.length() && letters < WIDTH; i += WIDTH) {
                int same = 0;
                while (same < letters && NAMES.charAt(i + same) == bytes[begin + same]) {
                    same++;
                }
                if (same == letters && NAMES.charAt(i + same) == ' ') {
                    return i / WIDTH;
                }
            }
            return UNKNOWN;
        }
    }

    /** RULES: LINES, each with what is behind its if as steps that work on a pile of bits. */
    private static final class Rules {
        static final int MOST_LINES = 10;
        static final int MOST_HOPS = 12;

        static final int FIRST = 0;
        static final int PASS = 1;
        static final int COST = 2;
        static final int SHOW = 3;

        static final int TAG = 0;
        static final int LESS = 1;
        static final int MORE = 2;
        static final int NOT = 3;
        static final int AND = 4;
        static final int OR = 5;

        static final int AGE = 0;
        static final int HOPS = 1;
        static final int HAVE = 2;
        static final int CHARGE = 3;
        static final int NUMBER = 4;
        static final int KIN_TAG = 6;

        private final int[] kind = new int[MOST_LINES];
        private final int[] number = new int[MOST_LINES];
        /** Where the steps of a LINE begin (of the first one at 0); they end where the next one's begin. */
        private final int[] begin = new int[MOST_LINES + 1];
        int lines;
        /** A text of 400 bytes has no more than 200 steps: each takes two bytes at least. */
        private final int[] step = new int[200];
        private int steps;
        final int[] fact = new int[5];
        int tags;

        void clear() {
            lines = 0;
            steps = 0;
        }

        void become(Rules other) {
            copyRow(other.kind, kind);
            copyRow(other.number, number);
            copyRow(other.begin, begin);
            copyRow(other.step, step);
            lines = other.lines;
            steps = other.steps;
        }

        void addLine(int lineKind, int lineNumber) {
            if (lines < MOST_LINES) {
                kind[lines] = lineKind;
                number[lines] = lineNumber;
                lines++;
                begin[lines] = steps;
            }
        }

        void addStep(int operation, int which, int than) {
            if (steps < step.length) {
                step[steps] = than << 8 | which << 4 | operation;
                steps++;
                begin[lines] = steps;
            }
        }

        int mark() {
            int sum = 0;
            for (int i = 0; i < lines; i++) {
                if (kind[i] == FIRST && holds(i)) {
                    sum += number[i];
                }
            }
            return sum;
        }

        /** Whether the COPY whose FACTS are loaded may be PASSED. */
        boolean lets() {
            if (fact[HOPS] >= MOST_HOPS) {
                return false;
            }
            boolean asked = false;
            for (int i = 0; i < lines; i++) {
                if (kind[i] == PASS && holds(i)) {
                    return true;
                }
                asked |= kind[i] == PASS;
            }
            return !asked;
        }

        int cost() {
            for (int i = lines - 1; i >= 0; i--) {
                if (kind[i] == COST) {
                    return number[i];
                }
            }
            return 1;
        }

        boolean shows(boolean kin) {
            for (int i = 0; i < fact.length; i++) {
                fact[i] = 0;
            }
            tags = kin ? 1 << KIN_TAG : 0;
            for (int i = 0; i < lines; i++) {
                if (kind[i] == SHOW && holds(i)) {
                    return true;
                }
            }
            return false;
        }

        /** The pile begins with a true bit, so a LINE without an if holds. */
        private boolean holds(int line) {
            long pile = 1;
            for (int i = begin[line]; i < begin[line + 1] && i < step.length; i++) {
                int which = step[i] >> 4 & 15;
                int value = which < fact.length ? fact[which] : 0;
                int than = step[i] >> 8;
                long top = pile & 1;
                switch (step[i] & 15) {
                    case TAG:
                        pile = pile << 1 | tags >> which & 1;
                        break;
                    case LESS:
                        pile = pile << 1 | (value < than ? 1 : 0);
                        break;
                    case MORE:
                        pile = pile << 1 | (value > than ? 1 : 0);
                        break;
                    case NOT:
                        pile ^= 1;
                        break;
                    case AND:
                        pile = pile >> 1 & (-2 | top);
                        break;
                    default:
                        pile = pile >> 1 | top;
                        break;
                }
            }
            return (pile & 1) != 0;
        }
    }

    /** WORDS as they were told, and how they were JUDGED; what is behind the last one is all 0. */
    private static final class Words {
        static final int FACTS = 9;
        static final int KIND = 0;
        static final int MOUTH = 1;
        static final int TICK = 2;
        static final int LIFE = 3;
        static final int PERSON = 4;
        static final int PLACE = 5;
        static final int WHEN = 6;
        static final int NUMBER = 7;
        static final int UNDOES = 8;

        static final int TRUE = 1;
        static final int UNTRUE = 2;

        final int[][] fact = new int[FACTS][MOST_WORDS];
        /** Of each WORD those that undo it, as bits. */
        final int[] undoers = new int[MOST_WORDS];
        private final int[] verdict = new int[MOST_WORDS];
        int size;

        void become(Words other) {
            copyRows(other.fact, fact);
            copyRow(other.undoers, undoers);
            copyRow(other.verdict, verdict);
            size = other.size;
        }

        int open(int kind, int mouth, int tick, int life) {
            int word = size;
            if (word >= MOST_WORDS) {
                return NONE;
            }
            fact[KIND][word] = kind;
            fact[MOUTH][word] = mouth;
            fact[TICK][word] = tick;
            fact[LIFE][word] = life;
            fact[UNDOES][word] = NONE;
            size++;
            return word;
        }

        void fill(int word, int person, int place, int when, int number) {
            if (word >= 0 && word < MOST_WORDS) {
                fact[PERSON][word] = person;
                fact[PLACE][word] = place;
                fact[WHEN][word] = when;
                fact[NUMBER][word] = number;
            }
        }

        void link(int undone, int word) {
            if (undone >= 0 && undone < MOST_WORDS) {
                fact[UNDOES][undone] = word;
                undoers[word] |= 1 << undone;
            }
        }

        boolean isDead(int word, int tick) {
            return tick >= fact[TICK][word] + fact[LIFE][word];
        }

        boolean setVerdict(int word, boolean isTrue) {
            int before = verdict[word];
            verdict[word] = isTrue ? TRUE : UNTRUE;
            return before != verdict[word];
        }

        int trust(int mouth) {
            int all = 0;
            int right = 0;
            for (int w = 0; w < size; w++) {
                if (fact[MOUTH][w] == mouth && verdict[w] != 0) {
                    all++;
                    right += verdict[w] == TRUE ? 1 : 0;
                }
            }
            return 1000 * (right + 1) / (all + 2);
        }
    }

    /** LOTS of moves, each in the order in which they were told. */
    private static final class Walks {
        static final int LOTS = 4;
        static final int MOST_MOVES = 60;

        private final int[][] who = new int[LOTS][MOST_MOVES];
        private final int[][] when = new int[LOTS][MOST_MOVES];
        private final int[][] where = new int[LOTS][MOST_MOVES];
        final int[] moves = new int[LOTS];

        void become(Walks other) {
            copyRows(other.who, who);
            copyRows(other.when, when);
            copyRows(other.where, where);
            copyRow(other.moves, moves);
        }

        int add(int lot, int phone, int tick, int place) {
            int next = moves[lot];
            if (next >= MOST_MOVES) {
                return NONE;
            }
            who[lot][next] = phone;
            when[lot][next] = tick;
            where[lot][next] = place;
            moves[lot] = next + 1;
            return moves[lot];
        }

        /** In the order of telling, so that of several of one TICK the last one counts. */
        void walk(int lot, int tick, int[] places) {
            for (int i = 0; i < moves[lot]; i++) {
                if (when[lot][i] == tick && who[lot][i] < places.length) {
                    places[who[lot][i]] = where[lot][i];
                }
            }
        }

        int lotsThatMove() {
            int sum = 0;
            for (int lot = 0; lot < LOTS; lot++) {
                sum += moves[lot] > 0 ? 1 : 0;
            }
            return sum;
        }
    }

    /** PHONES and their COPIES at a TICK; what the TENT HAD. */
    private static final class Net {
        static final int STATS = 8;
        static final int PLACE = 0;
        static final int CHARGE = 1;
        static final int COPIES = 2;
        static final int ROOM = 3;
        static final int SWELL = 4;
        static final int HANDED = 5;
        static final int TOOK = 6;
        static final int GAVE = 7;

        static final int COPY_FACTS = 4;
        static final int NUMBER = 0;
        static final int HOPS = 1;
        static final int FROM = 2;
        static final int CAME = 3;

        /** Each HANDING takes a CHARGE of the taker: two PHONES have no more than this together. */
        static final int MOST_HANDINGS = 2000;

        private final Words words;
        Rules rules;
        int tick;
        int phones;
        /** How many WORDS have been told in this net; the next one is told next. */
        private int told;
        final int[][] stat = new int[STATS][MOST_PHONES];
        final int[][] copied = new int[COPY_FACTS][MOST_PHONES * MOST_WORDS];
        /** Who handed each COPY on, four bits a hand, from the MOUTH in the lowest ones on. */
        private final long[] path = new long[MOST_PHONES * MOST_WORDS];
        /** The WORDS on each PHONE, as bits. */
        private final int[] on = new int[MOST_PHONES];
        /** How many PHONES have each WORD. */
        final int[] spread = new int[MOST_WORDS];
        final int[] hadAt = new int[MOST_WORDS];
        final int[] hadHops = new int[MOST_WORDS];
        private final long[] hadPath = new long[MOST_WORDS];
        /** The WORDS that each PHONE gave away in this MEETING, as bits. */
        private final int[] dropped = new int[MOST_PHONES];
        private int offerWord;
        private int offerMark;
        private int offerGiver;

        Net(Words words, Rules rules) {
            this.words = words;
            this.rules = rules;
            // A trial asks for WORDS that are not told in it yet.
            Arrays.fill(hadAt, NONE);
        }

        static int cell(int phone, int word) {
            return phone * MOST_WORDS + word;
        }

        void become(Net other) {
            tick = other.tick;
            phones = other.phones;
            told = other.told;
            copyRows(other.stat, stat);
            copyRows(other.copied, copied);
            System.arraycopy(other.path, 0, path, 0, path.length);
            copyRow(other.on, on);
            copyRow(other.spread, spread);
            copyRow(other.hadAt, hadAt);
            copyRow(other.hadHops, hadHops);
            System.arraycopy(other.hadPath, 0, hadPath, 0, hadPath.length);
        }

        int addPhone(int place, int charge, int room, int swell) {
            int phone = phones;
            if (phone >= MOST_PHONES) {
                return NONE;
            }
            stat[PLACE][phone] = place;
            stat[CHARGE][phone] = charge;
            stat[ROOM][phone] = room;
            stat[SWELL][phone] = swell;
            phones++;
            return phone;
        }

        boolean carries(int phone, int word) {
            return (on[phone] >> word & 1) != 0;
        }

        int total(int what) {
            int sum = 0;
            for (int p = 0; p < phones; p++) {
                sum += stat[what][p];
            }
            return sum;
        }

        int wordsHad() {
            int sum = 0;
            for (int w = 0; w < told; w++) {
                sum += hadAt[w] != NONE ? 1 : 0;
            }
            return sum;
        }

        int handOf(int word, int i) {
            return (int) (hadPath[word] >> 4 * i & 15);
        }

        /** The NUMBER grows by nothing but hands that SWELL, so it need not be kept for each hand. */
        int firstToSwell(int word) {
            int kind = words.fact[Words.KIND][word];
            boolean grows = (kind == SEEN || kind == NEED) && words.fact[Words.NUMBER][word] < MOST_NUMBER;
            for (int i = 0; grows && i < hadHops[word]; i++) {
                int hand = handOf(word, i);
                if (hand < phones && stat[SWELL][hand] > 0) {
                    return hand;
                }
            }
            return NONE;
        }

        /** Tells all WORDS whose TICK has come: in a trial they come as they came in the town. */
        void tellDue() {
            for (int w = told; w < words.size && words.fact[Words.TICK][w] <= tick; w++) {
                tellNext();
            }
        }

        void tellNext() {
            int word = told;
            if (word >= words.size) {
                return;
            }
            told++;
            int phone = words.fact[Words.MOUTH][word];
            lose(phone, words.fact[Words.UNDOES][word]);
            if (isFull(phone)) {
                giveAway(phone, leastOn(phone));
            }
            put(phone, word, words.fact[Words.NUMBER][word], NONE);
        }

        void step(Walks walks, int lot) {
            tick++;
            walks.walk(lot, tick, stat[PLACE]);
            forgetDead();
            for (int a = 0; a < phones; a++) {
                for (int b = a + 1; b < phones; b++) {
                    if (stat[PLACE][a] == stat[PLACE][b]) {
                        meet(a, b);
                    }
                }
            }
        }

        private void forgetDead() {
            for (int w = 0; w < told; w++) {
                if (spread[w] > 0 && words.isDead(w, tick)) {
                    for (int p = 0; p < phones; p++) {
                        lose(p, w);
                    }
                }
            }
        }

        private void meet(int a, int b) {
            dropped[a] = 0;
            dropped[b] = 0;
            for (int i = 0; i < MOST_HANDINGS && stat[CHARGE][a] > 0 && stat[CHARGE][b] > 0; i++) {
                offerWord = NONE;
                offerBest(a, b);
                offerBest(b, a);
                if (offerWord == NONE) {
                    return;
                }
                hand(offerGiver, offerGiver == a ? b : a, offerWord);
            }
        }

        /** Makes the best that the giver has for the taker the offer, if it is better than that. */
        private void offerBest(int giver, int taker) {
            int open = on[giver] & ~on[taker] & ~dropped[taker];
            if (open == 0) {
                return;
            }
            int mustExceed = NONE;
            if (isFull(taker)) {
                int least = leastOn(taker);
                loadFacts(taker, least);
                mustExceed = rules.mark();
            }
            for (int w = 0; w < told; w++) {
                if ((open >> w & 1) == 0 || (words.undoers[w] & on[taker]) != 0) {
                    continue;
                }
                loadFacts(giver, w);
                int mark = rules.mark();
                boolean better = offerWord == NONE || mark > offerMark || mark == offerMark && w < offerWord;
                if (better && mark > mustExceed && rules.lets()) {
                    offerWord = w;
                    offerMark = mark;
                    offerGiver = giver;
                }
            }
        }

        private void hand(int giver, int taker, int word) {
            if (isFull(taker)) {
                giveAway(taker, leastOn(taker));
            }
            lose(taker, words.fact[Words.UNDOES][word]);
            int kind = words.fact[Words.KIND][word];
            int swell = kind == SEEN || kind == NEED ? stat[SWELL][giver] : 0;
            int number = copied[NUMBER][cell(giver, word)] + swell;
            put(taker, word, Math.min(number, MOST_NUMBER), giver);
            stat[CHARGE][giver] = Math.max(stat[CHARGE][giver] - rules.cost(), 0);
            stat[CHARGE][taker]--;
            stat[HANDED][giver]++;
            stat[TOOK][taker]++;
        }

        private boolean isFull(int phone) {
            return stat[COPIES][phone] >= stat[ROOM][phone];
        }

        private void giveAway(int phone, int word) {
            if (word != NONE) {
                lose(phone, word);
                dropped[phone] |= 1 << word;
                stat[GAVE][phone]++;
            }
        }

        private int leastOn(int phone) {
            int least = NONE;
            int leastMark = 0;
            for (int w = 0; w < told; w++) {
                if (carries(phone, w)) {
                    loadFacts(phone, w);
                    int mark = rules.mark();
                    if (least == NONE || mark <= leastMark) {
                        least = w;
                        leastMark = mark;
                    }
                }
            }
            return least;
        }

        void loadFacts(int phone, int word) {
            if (word == NONE) {
                return;
            }
            int cell = cell(phone, word);
            rules.tags = 1 << words.fact[Words.KIND][word];
            rules.fact[Rules.AGE] = tick - words.fact[Words.TICK][word];
            rules.fact[Rules.HOPS] = copied[HOPS][cell];
            rules.fact[Rules.HAVE] = spread[word];
            rules.fact[Rules.CHARGE] = stat[CHARGE][phone];
            rules.fact[Rules.NUMBER] = copied[NUMBER][cell];
        }

        private void lose(int phone, int word) {
            if (word != NONE && carries(phone, word)) {
                on[phone] &= ~(1 << word);
                stat[COPIES][phone]--;
                spread[word]--;
            }
        }

        /** Puts a COPY on a PHONE, as it was told there (giver NONE) or as it came from the giver. */
        private void put(int phone, int word, int number, int giver) {
            int cell = cell(phone, word);
            int hops = 0;
            path[cell] = 0;
            if (giver != NONE) {
                hops = copied[HOPS][cell(giver, word)];
                path[cell] = path[cell(giver, word)] | (long) giver << 4 * hops;
                hops++;
            }
            copied[NUMBER][cell] = number;
            copied[HOPS][cell] = hops;
            copied[FROM][cell] = giver;
            copied[CAME][cell] = tick;
            on[phone] |= 1 << word;
            stat[COPIES][phone]++;
            spread[word]++;
            if (phone == TENT && hadAt[word] == NONE) {
                hadAt[word] = tick;
                hadHops[word] = hops;
                hadPath[word] = path[cell];
            }
        }
    }

    /** SAYINGS about one PERSON, gathered anew for each question. */
    private static final class Sayings {
        static final int MOST_ASKED = 10;

        private final Words words;
        private final Net net;
        private final int[] list = new int[MOST_WORDS];
        private final int[] foes = new int[MOST_ASKED];
        int size;

        Sayings(Words words, Net net) {
            this.words = words;
            this.net = net;
        }

        void gather(int person, int known) {
            size = 0;
            for (int w = 0; w < words.size; w++) {
                boolean tells = words.fact[Words.KIND][w] <= SEEN && words.fact[Words.PERSON][w] == person;
                if (tells && isKnown(w, known) && !isUndone(w, known)) {
                    list[size] = w;
                    size++;
                }
            }
        }

        private boolean isKnown(int word, int known) {
            return net.hadAt[word] != NONE && net.hadAt[word] <= known;
        }

        private boolean isUndone(int word, int known) {
            for (int w = word + 1; w < words.size; w++) {
                if (words.fact[Words.UNDOES][w] == word && isKnown(w, known)) {
                    return true;
                }
            }
            return false;
        }

        /** The MOUTHS of those that tell a PLACE (NONE: of all), as bits. */
        int mouthsAt(int place) {
            int mouths = 0;
            for (int i = 0; i < size; i++) {
                if (place == NONE || words.fact[Words.PLACE][list[i]] == place) {
                    mouths |= 1 << words.fact[Words.MOUTH][list[i]];
                }
            }
            return mouths;
        }

        int placesLeft(int tick, int pace) {
            int places = 0;
            for (int place = 0; place < PLACES; place++) {
                boolean can = true;
                for (int i = 0; i < size && can; i++) {
                    can = !isTooFar(list[i], place, tick, pace);
                }
                places |= can ? 1 << place : 0;
            }
            return places;
        }

        private boolean isTooFar(int word, int place, int tick, int pace) {
            int between = Math.abs(words.fact[Words.WHEN][word] - tick);
            return steps(words.fact[Words.PLACE][word], place) > pace * between;
        }

        private boolean isAgainst(int i, int j, int pace) {
            int other = list[j];
            return isTooFar(list[i], words.fact[Words.PLACE][other], words.fact[Words.WHEN][other], pace);
        }

        boolean anyAgainst(int pace) {
            for (int i = 0; i < size; i++) {
                for (int j = i + 1; j < size; j++) {
                    if (isAgainst(i, j, pace)) {
                        return true;
                    }
                }
            }
            return false;
        }

        /** The set of LEAST, as bits. */
        int fewestWrong(int pace) {
            int asked = Math.min(size, MOST_ASKED);
            findFoes(asked, pace);
            int all = (1 << asked) - 1;
            int best = all;
            for (int out = 0; out <= all; out++) {
                boolean fewer = Integer.bitCount(out) < Integer.bitCount(best);
                if (fewer && areAtPeace(all & ~out, asked)) {
                    best = out;
                }
            }
            return best;
        }

        private void findFoes(int asked, int pace) {
            for (int i = 0; i < asked; i++) {
                foes[i] = 0;
                for (int j = 0; j < asked; j++) {
                    foes[i] |= isAgainst(i, j, pace) ? 1 << j : 0;
                }
            }
        }

        private boolean areAtPeace(int kept, int asked) {
            for (int i = 0; i < asked; i++) {
                if ((kept >> i & 1) != 0 && (foes[i] & kept) != 0) {
                    return false;
                }
            }
            return true;
        }
    }

    /** ROWS, as they were and as they are shown. */
    private static final class Rows {
        static final int MOST = 8;

        private final int[] was = new int[MOST];
        final int[] shown = new int[MOST];
        int size;

        void become(Rows other) {
            copyRow(other.was, was);
            copyRow(other.shown, shown);
            size = other.size;
        }

        void add(int copies) {
            if (size >= MOST) {
                System.arraycopy(was, 1, was, 0, MOST - 1);
                System.arraycopy(shown, 1, shown, 0, MOST - 1);
                size = MOST - 1;
            }
            was[size] = copies;
            shown[size] = copies;
            size++;
        }

        int firstTorn() {
            for (int i = 0; i < size; i++) {
                if (was[i] != shown[i]) {
                    return i;
                }
            }
            return NONE;
        }
    }

    /** WHO IS MEANT: descriptions, and the BEST parting of them into HEAPS. */
    private static final class Parting {
        static final int MOST = 7;
        static final int NAME_PRICE = 20;
        static final int COAT_PRICE = 7;
        /** Above what any parting comes to: 21 pairs, each 126 at most, and 7 HEAPS of 1000. */
        static final int NO_PRICE = 10000;

        private final int[] name = new int[MOST];
        private final int[] age = new int[MOST];
        private final int[] coat = new int[MOST];
        private final int[] tried = new int[MOST];
        final int[] best = new int[MOST];
        int size;
        int heapPrice = 10;
        int bestPrice;
        int bestHeaps;

        void become(Parting other) {
            copyRow(other.name, name);
            copyRow(other.age, age);
            copyRow(other.coat, coat);
            size = other.size;
            heapPrice = other.heapPrice;
        }

        int add(int itsName, int itsAge, int itsCoat) {
            int next = size;
            if (next >= MOST) {
                return NONE;
            }
            name[next] = itsName;
            age[next] = itsAge;
            coat[next] = itsCoat;
            size++;
            return next;
        }

        void findBest() {
            bestPrice = NO_PRICE;
            part(0, 0, 0);
        }

        /** Goes through the partings in the order that decides among equals: the first one stays. */
        private void part(int next, int heaps, int price) {
            if (price > bestPrice) {
                return;
            }
            if (next >= size || next >= MOST) {
                keepIfBetter(heaps, price);
                return;
            }
            for (int h = 0; h < heaps; h++) {
                tried[next] = h;
                part(next + 1, heaps, price + priceOfJoining(next, h));
            }
            tried[next] = heaps;
            part(next + 1, heaps + 1, price + heapPrice);
        }

        private void keepIfBetter(int heaps, int price) {
            if (price < bestPrice || heaps < bestHeaps) {
                bestPrice = price;
                bestHeaps = heaps;
                copyRow(tried, best);
            }
        }

        private int priceOfJoining(int next, int heap) {
            int sum = 0;
            for (int i = 0; i < next; i++) {
                if (tried[i] == heap) {
                    sum += priceOfTwo(i, next);
                }
            }
            return sum;
        }

        private int priceOfTwo(int a, int b) {
            int sum = areUnlike(name[a], name[b]) ? NAME_PRICE : 0;
            sum += areUnlike(age[a], age[b]) ? Math.abs(age[a] - age[b]) : 0;
            return sum + (areUnlike(coat[a], coat[b]) ? COAT_PRICE : 0);
        }

        private static boolean areUnlike(int a, int b) {
            return a != NONE && b != NONE && a != b;
        }
    }

    /** STONES, GANGS, and the BEST SENDING. */
    private static final class Help {
        static final int MOST_STONES = 5;
        static final int MOST_GANGS = 4;
        static final int STONE_FACTS = 6;
        static final int PLACE = 0;
        static final int LIVING = 1;
        static final int ODDS = 2;
        static final int FADE = 3;
        static final int DIG = 4;
        static final int TOLD = 5;

        private final int[][] stone = new int[STONE_FACTS][MOST_STONES];
        private final int[] gangPlace = new int[MOST_GANGS];
        private final int[] strength = new int[MOST_GANGS];
        private final int[] tried = new int[MOST_GANGS];
        final int[] best = new int[MOST_GANGS];
        int rubbles;
        int gangs;
        int bestSaved;

        void become(Help other) {
            copyRows(other.stone, stone);
            copyRow(other.gangPlace, gangPlace);
            copyRow(other.strength, strength);
            rubbles = other.rubbles;
            gangs = other.gangs;
        }

        int addStones(int place, int living, int odds, int fade, int dig, int tick) {
            int next = rubbles;
            if (next >= MOST_STONES) {
                return NONE;
            }
            stone[PLACE][next] = place;
            stone[LIVING][next] = living;
            stone[ODDS][next] = odds;
            stone[FADE][next] = fade;
            stone[DIG][next] = dig;
            stone[TOLD][next] = tick;
            rubbles++;
            return next;
        }

        int addGang(int place, int itsStrength) {
            int next = gangs;
            if (next >= MOST_GANGS) {
                return NONE;
            }
            gangPlace[next] = place;
            strength[next] = itsStrength;
            gangs++;
            return next;
        }

        int savedBy(int gang, int s, int now) {
            int power = strength[gang];
            if (power < 1) {
                return 0;
            }
            int digging = (stone[DIG][s] + power - 1) / power;
            int open = now + steps(gangPlace[gang], stone[PLACE][s]) + digging;
            int odds = stone[ODDS][s] - stone[FADE][s] * (open - stone[TOLD][s]);
            return stone[LIVING][s] * Math.max(odds, 0);
        }

        void findBest(int now) {
            bestSaved = NONE;
            choose(0, 0, 0, now);
        }

        /** Goes through the SENDINGS in the order that decides among equals: the first one stays. */
        private void choose(int gang, int taken, int sum, int now) {
            if (gang >= gangs || gang >= MOST_GANGS) {
                if (sum > bestSaved) {
                    bestSaved = sum;
                    copyRow(tried, best);
                }
                return;
            }
            for (int s = 0; s < rubbles; s++) {
                if ((taken >> s & 1) == 0) {
                    tried[gang] = s;
                    choose(gang + 1, taken | 1 << s, sum + savedBy(gang, s, now), now);
                }
            }
            tried[gang] = NONE;
            choose(gang + 1, taken, sum, now);
        }
    }
}
