import java.util.Arrays;

/** A town in squares in which one visits only those whose house touches one's own at a corner. */
public final class CornerTown {
    public static final int NONE = -1;

    private static final int BAD_NUMBER = -1;
    private static final int NOT_THERE = -2;
    private static final int CANNOT_BE = -3;
    private static final int NO_ROOM = -5;
    private static final int BAD_TEXT = -6;

    private static final int HOUSES = 12;
    private static final int SQUARES = 8;
    private static final int LONGEST_SIDE = 3;
    private static final int HIGHEST_RANK = 9;
    private static final int HIGHEST_HOUR = 23;
    private static final int HIGHEST_DAY = 99;
    private static final int MOST_DOORS = 6;
    private static final int MOST_LAWS = 6;
    private static final int MOST_WISHES = 4;
    private static final int MOST_LOGS = 8;
    private static final int MOST_CUT = 4;
    private static final int TAPE_LENGTH = 400;
    private static final int FED = 20;
    private static final int HOUSE_BYTES = 5;
    private static final int IMAGES = 2;
    private static final int FLOOD_DAYS = 40;
    private static final int HIGHEST_SEED = 1000000;

    private static final int APART = 0;
    private static final int CORNER = 1;
    private static final int SIDE = 2;
    private static final int OVERLAP = 3;

    private final Town town = new Town();
    private final Town[] images = new Town[IMAGES];
    private final int[] tape = new int[TAPE_LENGTH];
    private int taped = 0;
    private final Reader reader = new Reader(tape);
    private int lastFault = NONE;
    private int lastRuin = 0;
    private final int[] refusals = new int[5];
    private int lastRefusal = 0;
    private final Streets streets = new Streets(town);
    private final Crossings crossings = new Crossings(town);
    private final DoorSearch doorSearch = new DoorSearch(town);
    private final News gossip = new News(town);
    private final Rounds rounds = new Rounds(town, streets);
    private final Floods floods = new Floods(town, streets, crossings);

    public CornerTown() {
    }

    public int house(int x, int y, int wide, int deep, int rank) {
        int why = town.whyNoHouse(x, y, wide, deep, rank);
        if (why != 0) {
            return refuse(why);
        }
        return accept(town.build(x, y, wide, deep, rank));
    }

    public int of(int house, int what) {
        if (!town.has(house)) {
            return NONE;
        }
        switch (what) {
            case 0: return town.x[house];
            case 1: return town.y[house];
            case 2: return town.wide[house];
            case 3: return town.deep[house];
            case 4: return town.ranks[house];
            case 5: return bitOf(town.standing, house);
            default: return NONE;
        }
    }

    public int rank(int house, int rank) {
        if (!within(rank, 0, HIGHEST_RANK)) {
            return refuse(BAD_NUMBER);
        }
        if (!town.has(house)) {
            return refuse(NOT_THERE);
        }
        int was = town.ranks[house];
        town.ranks[house] = rank;
        town.changes++;
        return accept(was);
    }

    public int stand(int house, int is) {
        if (!within(is, 0, 1)) {
            return refuse(BAD_NUMBER);
        }
        if (!town.has(house)) {
            return refuse(NOT_THERE);
        }
        int was = bitOf(town.standing, house);
        town.standing = (town.standing & ~(1 << house)) | (is << house);
        town.changes++;
        return accept(was);
    }

    public int at(int x, int y) {
        for (int house = 0; house < town.houses; house++) {
            if (town.lies(x, y, house)) {
                return house;
            }
        }
        return NONE;
    }

    public int terms(int what, int value) {
        if (!within(what, 0, 1) || !within(value, 0, what == 0 ? HIGHEST_HOUR : HIGHEST_DAY)) {
            return refuse(BAD_NUMBER);
        }
        int was = what == 0 ? town.hour : town.day;
        if (what == 0) {
            town.hour = value;
        } else {
            town.day = value;
        }
        town.changes++;
        return accept(was);
    }

    public int door(int one, int other) {
        if (!town.has(one) || !town.has(other)) {
            return refuse(NOT_THERE);
        }
        if (one == other || bitOf(town.doorRows[one], other) == 1) {
            return refuse(CANNOT_BE);
        }
        if (town.doorCount >= MOST_DOORS) {
            return refuse(NO_ROOM);
        }
        town.turnDoor(one, other);
        town.doorCount++;
        return accept(town.doorCount);
    }

    public int wall(int one, int other) {
        if (!town.has(one) || !town.has(other)) {
            return refuse(NOT_THERE);
        }
        if (bitOf(town.doorRows[one], other) == 0) {
            return refuse(CANNOT_BE);
        }
        town.turnDoor(one, other);
        town.doorCount--;
        return accept(town.doorCount);
    }

    public int feed(int a, int b, int c, int d, int e) {
        if (taped + FED > TAPE_LENGTH) {
            return NONE;
        }
        feedFour(a);
        feedFour(b);
        feedFour(c);
        feedFour(d);
        feedFour(e);
        return taped;
    }

    public int end(int n) {
        if (!within(n, 0, taped)) {
            return NONE;
        }
        taped = n;
        return n;
    }

    public int row() {
        if (taped == 0) {
            return refuse(BAD_TEXT);
        }
        int length = taped;
        int came = 0;
        int ruined = 0;
        taped = 0;
        for (int place = 0; place < length; place += HOUSE_BYTES) {
            if (place + HOUSE_BYTES <= length && buildFrom(place)) {
                came++;
            } else {
                ruined++;
            }
        }
        lastRuin = ruined;
        return accept(came);
    }

    public int ruin() {
        return lastRuin;
    }

    public int law() {
        int length = taped;
        taped = 0;
        if (town.lawCount >= MOST_LAWS) {
            return refuse(NO_ROOM);
        }
        Law made = reader.read(length);
        lastFault = reader.faultPlace();
        if (made == null) {
            return refuse(BAD_TEXT);
        }
        town.laws[town.lawCount] = made;
        town.lawCount++;
        return accept(town.lawCount - 1);
    }

    public int fault() {
        return lastFault;
    }

    public int force(int law) {
        if (!within(law, NONE, town.lawCount - 1)) {
            return refuse(NOT_THERE);
        }
        int was = town.inForce;
        town.inForce = law;
        town.changes++;
        return accept(was);
    }

    public int touch(int one, int other) {
        return town.hasTwo(one, other) ? town.touching(one, other) : NONE;
    }

    public int visit(int from, int to, int what) {
        if (!town.hasTwo(from, to)) {
            return NONE;
        }
        switch (what) {
            case 0: return streets.isOpen(from, to, town.day) ? 1 : 0;
            case 1: return streets.timeOf(from, to);
            case 2: return streets.isBarred(from, to) ? 1 : 0;
            default: return NONE;
        }
    }

    public int visits(int from) {
        return town.has(from) ? streets.openRows()[from] : NONE;
    }

    public int comes(int from, int to, int what) {
        if (!town.has(from) || !town.has(to)) {
            return NONE;
        }
        switch (what) {
            case 0:
                crossings.countWays(streets.openRows(), from, to);
                return crossings.fewest;
            case 1:
                crossings.countWays(streets.openRows(), from, to);
                return crossings.waysOfFewest;
            case 2:
                streets.measure(streets.openRows());
                return streets.shortestTime(from, to);
            case 3:
                streets.measure(streets.openRows());
                return streets.shortestVisits(from, to);
            default:
                return NONE;
        }
    }

    public int way(int from, int to, int i) {
        if (!town.has(from) || !town.has(to)) {
            return NONE;
        }
        streets.measure(streets.openRows());
        return streets.stopOnWay(from, to, i);
    }

    public int parts(int i) {
        int found = crossings.findParts(streets.openRows(), town.standing);
        if (i == NONE) {
            return found;
        }
        return within(i, 0, found - 1) ? crossings.partAt(i) : NONE;
    }

    public int holders(int from, int to) {
        if (!town.hasTwo(from, to)) {
            return NONE;
        }
        return crossings.holdersBetween(streets.openRows(), from, to);
    }

    public int cut(int from, int to, int what) {
        if (!town.hasTwo(from, to) || !within(what, 0, 2)) {
            return NONE;
        }
        if (bitOf(town.standing, from) == 0 || bitOf(town.standing, to) == 0) {
            return NONE;
        }
        crossings.findCut(streets.openRows(), from, to);
        if (what == 2) {
            return crossings.cutWays;
        }
        if (crossings.cutWays == 0) {
            return NONE;
        }
        return what == 0 ? Integer.bitCount(crossings.cutBits) : crossings.cutBits;
    }

    public int wish(int from, int to, int is) {
        if (!within(is, 0, 1)) {
            return refuse(BAD_NUMBER);
        }
        if (!town.has(from) || !town.has(to)) {
            return refuse(NOT_THERE);
        }
        if (from == to) {
            return refuse(CANNOT_BE);
        }
        return keepPair(is == 1 ? town.wishes : town.bans, from, to);
    }

    public int clear() {
        int were = town.wishes.size + town.bans.size;
        town.wishes.size = 0;
        town.bans.size = 0;
        town.changes++;
        return were;
    }

    public int doors(int what) {
        if (!within(what, 0, 5)) {
            return NONE;
        }
        doorSearch.search(streets.openRows(), streets.rowsByDoor());
        if (what == 0) {
            return doorSearch.needed;
        }
        return what == 5 ? doorSearch.ways : doorSearch.pickedHouse(what - 1);
    }

    public int news(int at, int house) {
        if (!town.has(house) || !town.areHouses(at)) {
            return NONE;
        }
        return gossip.firstDay(streets.openRows(), at, house);
    }

    public int log(int house, int day) {
        if (!within(day, NONE, HIGHEST_DAY)) {
            return refuse(BAD_NUMBER);
        }
        if (!town.has(house)) {
            return refuse(NOT_THERE);
        }
        return keepPair(town.logs, house, day);
    }

    public int forget() {
        int were = town.logs.size;
        town.logs.size = 0;
        town.changes++;
        return were;
    }

    public int wrong(int house) {
        return town.has(house) ? gossip.wrongLogs(streets.openRows(), house) : NONE;
    }

    public int fits(int house, int what) {
        if (!town.has(house) || !within(what, 0, 3)) {
            return NONE;
        }
        gossip.seekDoor(streets.openRows(), streets.rowsByDoor(), house);
        switch (what) {
            case 0: return gossip.fitsAsIs ? 1 : 0;
            case 1: return gossip.fitting;
            case 2: return gossip.fitLow;
            default: return gossip.fitHigh;
        }
    }

    public int round(int home, int houses) {
        streets.measure(streets.openRows());
        return rounds.plan(home, houses) ? rounds.taken : NONE;
    }

    public int stop(int home, int houses, int i) {
        streets.measure(streets.openRows());
        return rounds.plan(home, houses) ? rounds.stopAt(i) : NONE;
    }

    public int meet(int one, int other, int what) {
        if (!town.has(one) || !town.has(other) || !within(what, 0, 1)) {
            return NONE;
        }
        streets.measure(streets.openRows());
        int place = streets.meetingPlace(one, other);
        if (place == NONE || what == 0) {
            return place;
        }
        return Math.max(streets.shortestTime(one, place), streets.shortestTime(other, place));
    }

    public int site(int wide, int deep, int friends, int foes, int what) {
        if (!within(wide, 1, LONGEST_SIDE) || !within(deep, 1, LONGEST_SIDE) || !within(what, 0, 2)) {
            return NONE;
        }
        if (((friends | foes) & ~town.standing) != 0) {
            return NONE;
        }
        int found = 0;
        for (int y = 0; y + deep <= SQUARES; y++) {
            for (int x = 0; x + wide <= SQUARES; x++) {
                if (town.suits(x, y, wide, deep, friends, foes)) {
                    if (what != 0) {
                        return what == 1 ? x : y;
                    }
                    found++;
                }
            }
        }
        return what == 0 ? found : NONE;
    }

    public int flood(int seed, int n) {
        if (!within(seed, 0, HIGHEST_SEED) || !within(n, 1, FLOOD_DAYS)) {
            return refuse(BAD_NUMBER);
        }
        return accept(floods.rise(seed, n));
    }

    public int flooded(int i, int what) {
        return floods.tell(i, what);
    }

    public int image(int k) {
        if (!within(k, 0, IMAGES - 1)) {
            return refuse(BAD_NUMBER);
        }
        if (images[k] == null) {
            images[k] = new Town();
        }
        images[k].becomeLike(town);
        return accept(0);
    }

    public int back(int k) {
        if (!within(k, 0, IMAGES - 1)) {
            return refuse(BAD_NUMBER);
        }
        if (images[k] == null) {
            return refuse(NOT_THERE);
        }
        town.becomeLike(images[k]);
        return accept(0);
    }

    public int count(int what) {
        if (within(what, 8, 12)) {
            return refusals[what - 8];
        }
        switch (what) {
            case 0: return town.houses;
            case 1: return Integer.bitCount(town.standing);
            case 2: return town.doorCount;
            case 3: return town.lawCount;
            case 4: return town.wishes.size;
            case 5: return town.bans.size;
            case 6: return town.logs.size;
            case 7: return taped;
            case 13: return town.inForce;
            case 14: return town.hour;
            case 15: return town.day;
            default: return NONE;
        }
    }

    public int status() {
        return lastRefusal;
    }

    private int accept(int answer) {
        lastRefusal = 0;
        return answer;
    }

    private int refuse(int why) {
        lastRefusal = why;
        // There is no -4, so that -5 and -6 stand one place nearer than their numbers tell.
        int place = why >= CANNOT_BE ? -why - 1 : -why - 2;
        if (within(place, 0, refusals.length - 1)) {
            refusals[place]++;
        }
        return why;
    }

    private void feedFour(int number) {
        for (int shift = 24; shift >= 0 && taped < TAPE_LENGTH; shift -= 8) {
            tape[taped] = (number >>> shift) & 255;
            taped++;
        }
    }

    private boolean buildFrom(int place) {
        if (!within(place, 0, TAPE_LENGTH - HOUSE_BYTES)) {
            return false;
        }
        int x = tape[place];
        int y = tape[place + 1];
        int wide = tape[place + 2];
        int deep = tape[place + 3];
        int rank = tape[place + 4];
        if (town.whyNoHouse(x, y, wide, deep, rank) != 0) {
            return false;
        }
        town.build(x, y, wide, deep, rank);
        return true;
    }

    private int keepPair(Pairs pairs, int one, int other) {
        if (pairs.isFull()) {
            return refuse(NO_ROOM);
        }
        pairs.keep(one, other);
        town.changes++;
        return accept(pairs.size);
    }

    private static boolean within(int number, int low, int high) {
        return number >= low && number <= high;
    }

    private static int bitOf(int bits, int place) {
        return (bits >> place) & 1;
    }

    private static int lowestOf(int bits) {
        return Integer.bitCount((bits & -bits) - 1);
    }

    /** Pairs of numbers, as many as there is room for. */
    static final class Pairs {
        final int[] first;
        final int[] second;
        int size = 0;

        Pairs(int room) {
            first = new int[Math.max(0, room)];
            second = new int[Math.max(0, room)];
        }

        boolean isFull() {
            return size >= first.length;
        }

        void keep(int one, int other) {
            if (size < first.length && size < second.length) {
                first[size] = one;
                second[size] = other;
                size++;
            }
        }

        void becomeLike(Pairs model) {
            size = 0;
            for (int i = 0; i < model.size && i < model.first.length && i < model.second.length; i++) {
                keep(model.first[i], model.second[i]);
            }
        }
    }

    /** All that an image keeps. */
    static final class Town {
        final int[] x = new int[HOUSES];
        final int[] y = new int[HOUSES];
        final int[] wide = new int[HOUSES];
        final int[] deep = new int[HOUSES];
        final int[] ranks = new int[HOUSES];
        int houses = 0;
        int standing = 0;
        final int[] doorRows = new int[HOUSES];
        int doorCount = 0;
        final Law[] laws = new Law[MOST_LAWS];
        int lawCount = 0;
        int inForce = NONE;
        int hour = 12;
        int day = 0;
        final Pairs wishes = new Pairs(MOST_WISHES);
        final Pairs bans = new Pairs(MOST_WISHES);
        final Pairs logs = new Pairs(MOST_LOGS);
        /** Grows with each change, so that what was worked out for an older state is known as such. */
        int changes = 0;

        boolean has(int house) {
            return house >= 0 && house < houses;
        }

        /** Whether each bit is that of a house, one that stands or one that is burnt down. */
        boolean areHouses(int bits) {
            return (bits & ~((1 << houses) - 1)) == 0;
        }

        boolean hasTwo(int one, int other) {
            return has(one) && has(other) && one != other;
        }

        boolean bothStand(int one, int other) {
            return bitOf(standing, one) == 1 && bitOf(standing, other) == 1;
        }

        Law lawInForce() {
            return within(inForce, 0, MOST_LAWS - 1) ? laws[inForce] : null;
        }

        int whyNoHouse(int left, int top, int width, int depth, int rank) {
            boolean sized = within(width, 1, LONGEST_SIDE) && within(depth, 1, LONGEST_SIDE);
            if (!sized || !within(rank, 0, HIGHEST_RANK)) {
                return BAD_NUMBER;
            }
            if (!within(left, 0, SQUARES - width) || !within(top, 0, SQUARES - depth)) {
                return BAD_NUMBER;
            }
            for (int h = 0; h < houses; h++) {
                if (meeting(left, top, width, depth, h) == OVERLAP) {
                    return CANNOT_BE;
                }
            }
            return houses < HOUSES ? 0 : NO_ROOM;
        }

        int build(int left, int top, int width, int depth, int rank) {
            int number = houses;
            if (number >= HOUSES) {
                return NONE;
            }
            x[number] = left;
            y[number] = top;
            wide[number] = width;
            deep[number] = depth;
            ranks[number] = rank;
            doorRows[number] = 0;
            standing |= 1 << number;
            houses++;
            changes++;
            return number;
        }

        boolean lies(int left, int top, int house) {
            return has(house) && left >= x[house] && left < x[house] + wide[house]
                && top >= y[house] && top < y[house] + deep[house];
        }

        /** How squares from left, top lie to a house. */
        int meeting(int left, int top, int width, int depth, int house) {
            if (!has(house)) {
                return APART;
            }
            int across = Math.min(left + width, x[house] + wide[house]) - Math.max(left, x[house]);
            int down = Math.min(top + depth, y[house] + deep[house]) - Math.max(top, y[house]);
            if (across < 0 || down < 0) {
                return APART;
            }
            if (across == 0 && down == 0) {
                return CORNER;
            }
            return across == 0 || down == 0 ? SIDE : OVERLAP;
        }

        int touching(int one, int other) {
            return has(one) ? meeting(x[one], y[one], wide[one], deep[one], other) : APART;
        }

        boolean suits(int left, int top, int width, int depth, int friends, int foes) {
            for (int h = 0; h < houses; h++) {
                int how = meeting(left, top, width, depth, h);
                boolean missed = bitOf(friends, h) == 1 && how != CORNER;
                boolean met = bitOf(foes, h) == 1 && how != APART;
                if (how == OVERLAP || missed || met) {
                    return false;
                }
            }
            return true;
        }

        void turnDoor(int one, int other) {
            if (hasTwo(one, other)) {
                doorRows[one] ^= 1 << other;
                doorRows[other] ^= 1 << one;
                changes++;
            }
        }

        void becomeLike(Town model) {
            System.arraycopy(model.x, 0, x, 0, HOUSES);
            System.arraycopy(model.y, 0, y, 0, HOUSES);
            System.arraycopy(model.wide, 0, wide, 0, HOUSES);
            System.arraycopy(model.deep, 0, deep, 0, HOUSES);
            System.arraycopy(model.ranks, 0, ranks, 0, HOUSES);
            System.arraycopy(model.doorRows, 0, doorRows, 0, HOUSES);
            for (int i = 0; i < MOST_LAWS; i++) {
                laws[i] = model.laws[i];
            }
            houses = model.houses;
            standing = model.standing;
            doorCount = model.doorCount;
            lawCount = model.lawCount;
            inForce = model.inForce;
            hour = model.hour;
            day = model.day;
            wishes.becomeLike(model.wishes);
            bans.becomeLike(model.bans);
            logs.becomeLike(model.logs);
            changes++;
        }
    }

    /** A text that was read: for each clause the steps that work out its sum, then its test. */
    static final class Law {
        static final int MOST_CLAUSES = 12;
        static final int TAKES = 1;
        static final int TESTED = 2;

        static final int NUMBER = 0;
        static final int WORD = 1;
        static final int ADD = 2;
        static final int SUBTRACT = 3;
        static final int MULTIPLY = 4;
        static final int DIVIDE = 5;
        static final int LESS = 6;
        static final int MORE = 7;
        static final int SAME = 8;
        static final int NOT = 9;
        static final int AND = 10;
        static final int OR = 11;
        /** A step is its kind times this, and its number, word or the place where it leads. */
        static final int STEP = 4096;

        private final int[] steps;
        private final int[] ends;
        private final int[] kinds;
        final int clauses;
        final boolean namesDay;

        Law(int[] steps, int[] ends, int[] kinds, int clauses, boolean namesDay) {
            int known = Math.max(0, Math.min(clauses, Math.min(ends.length, kinds.length)));
            int used = known == 0 ? 0 : Math.max(0, Math.min(steps.length, ends[known - 1]));
            this.steps = Arrays.copyOf(steps, used);
            this.ends = Arrays.copyOf(ends, known);
            this.kinds = Arrays.copyOf(kinds, known);
            this.clauses = known;
            this.namesDay = namesDay;
        }

        int stepAt(int place) {
            return place >= 0 && place < steps.length ? steps[place] : 0;
        }

        int startOf(int clause) {
            return clause > 0 && clause <= ends.length ? ends[clause - 1] : 0;
        }

        int endOf(int clause) {
            return clause >= 0 && clause < ends.length ? ends[clause] : 0;
        }

        boolean isTakes(int clause) {
            return clause >= 0 && clause < kinds.length && (kinds[clause] & TAKES) != 0;
        }

        boolean isTested(int clause) {
            return clause >= 0 && clause < kinds.length && (kinds[clause] & TESTED) != 0;
        }
    }

    /** Reads a text; each reading method stays at the token that can't go on and answers false. */
    static final class Reader {
        private static final int MOST_PARTS = 50;
        private static final int MOST_BRACKETS = 8;
        private static final int HIGHEST_NUMBER = 1000;
        private static final int DAY_WORD = 8;

        private static final int END = 0;
        private static final int LETTERS = 1;
        private static final int DIGITS = 2;
        private static final int SIGN = 3;

        private final int[] text;
        private final int[] steps = new int[TAPE_LENGTH];
        private final int[] ends = new int[Law.MOST_CLAUSES];
        private final int[] kinds = new int[Law.MOST_CLAUSES];
        private int length = 0;
        private int place = 0;
        private int behind = 0;
        private int token = END;
        private int size = 0;
        private int parts = 0;
        private int clauses = 0;
        private boolean namesDay = false;
        private int fault = NONE;

        Reader(int[] text) {
            this.text = text;
        }

        /** The law in the first bytes of the text, or null and the place of the fault. */
        Law read(int bytes) {
            begin(bytes);
            for (int n = 0; n < Law.MOST_CLAUSES && readClause(n); n++) {
                if (token == END) {
                    fault = NONE;
                    return new Law(steps, ends, kinds, clauses, namesDay);
                }
                if (!isSign(';')) {
                    break;
                }
                goOn();
            }
            fault = place;
            return null;
        }

        private void begin(int bytes) {
            length = Math.max(0, Math.min(bytes, text.length));
            behind = 0;
            size = 0;
            parts = 0;
            clauses = 0;
            namesDay = false;
            goOn();
        }

        int faultPlace() {
            return fault;
        }

        private static int kindOf(int sign) {
            if (sign >= 'a' && sign <= 'z') {
                return LETTERS;
            }
            return sign >= '0' && sign <= '9' ? DIGITS : SIGN;
        }

        private void goOn() {
            place = behind;
            while (place < length && text[place] == ' ') {
                place++;
            }
            behind = place;
            if (place >= length) {
                token = END;
                return;
            }
            token = kindOf(text[place]);
            behind++;
            while (token != SIGN && behind < length && kindOf(text[behind]) == token) {
                behind++;
            }
        }

        private boolean isWord(String word) {
            if (token != LETTERS || behind - place != word.length()) {
                return false;
            }
            for (int i = 0; i < word.length() && place + i < length; i++) {
                if (text[place + i] != word.charAt(i)) {
                    return false;
                }
            }
            return true;
        }

        private boolean isSign(char sign) {
            return token == SIGN && place < length && text[place] == sign;
        }

        private int emit(int kind, int number) {
            if (size >= steps.length) {
                return NONE;
            }
            steps[size] = kind * Law.STEP + number;
            size++;
            return size - 1;
        }

        /** A step of "or", "and" leads behind what it need not ask. */
        private void leadHere(int step, int kind) {
            if (step >= 0 && step < steps.length) {
                steps[step] = kind * Law.STEP + size;
            }
        }

        private boolean readClause(int number) {
            int kind = 0;
            if (isWord("takes")) {
                kind = Law.TAKES;
            } else if (!isWord("bars")) {
                return false;
            }
            goOn();
            if (kind == Law.TAKES && !readSum(0)) {
                return false;
            }
            if (isWord("if")) {
                kind |= Law.TESTED;
                goOn();
                if (!readTest(0)) {
                    return false;
                }
            }
            if (number >= 0 && number < ends.length && number < kinds.length) {
                ends[number] = size;
                kinds[number] = kind;
                clauses = number + 1;
            }
            return true;
        }

        private boolean readTest(int depth) {
            if (!readBoth(depth)) {
                return false;
            }
            for (int n = 0; n < length && isWord("or"); n++) {
                int step = emit(Law.OR, 0);
                goOn();
                if (!readBoth(depth)) {
                    return false;
                }
                leadHere(step, Law.OR);
            }
            return true;
        }

        private boolean readBoth(int depth) {
            if (!readPlain(depth)) {
                return false;
            }
            for (int n = 0; n < length && isWord("and"); n++) {
                int step = emit(Law.AND, 0);
                goOn();
                if (!readPlain(depth)) {
                    return false;
                }
                leadHere(step, Law.AND);
            }
            return true;
        }

        private boolean readPlain(int depth) {
            boolean turned = false;
            for (int n = 0; n < length && isWord("not"); n++) {
                turned = !turned;
                goOn();
            }
            boolean good = isSign('(') ? readBracketed(depth) : readComparison(depth);
            if (good && turned) {
                emit(Law.NOT, 0);
            }
            return good;
        }

        private boolean readBracketed(int depth) {
            if (depth >= MOST_BRACKETS) {
                return false;
            }
            goOn();
            if (!readTest(depth + 1) || !isSign(')')) {
                return false;
            }
            goOn();
            return true;
        }

        private boolean readComparison(int depth) {
            if (!readSum(depth)) {
                return false;
            }
            int kind = isSign('<') ? Law.LESS : isSign('>') ? Law.MORE : isSign('=') ? Law.SAME : NONE;
            if (kind == NONE) {
                return false;
            }
            goOn();
            if (!readSum(depth)) {
                return false;
            }
            emit(kind, 0);
            return true;
        }

        private boolean readSum(int depth) {
            if (!readTerm(depth)) {
                return false;
            }
            for (int n = 0; n < length && (isSign('+') || isSign('-')); n++) {
                int kind = isSign('+') ? Law.ADD : Law.SUBTRACT;
                goOn();
                if (!readTerm(depth)) {
                    return false;
                }
                emit(kind, 0);
            }
            return true;
        }

        private boolean readTerm(int depth) {
            if (!readPart(depth)) {
                return false;
            }
            for (int n = 0; n < length && (isSign('*') || isSign('/')); n++) {
                int kind = isSign('*') ? Law.MULTIPLY : Law.DIVIDE;
                goOn();
                if (!readPart(depth)) {
                    return false;
                }
                emit(kind, 0);
            }
            return true;
        }

        private boolean readPart(int depth) {
            if (isSign('[')) {
                return readInner(depth);
            }
            int number = token == DIGITS ? numberHere() : wordHere();
            boolean known = token == DIGITS ? number <= HIGHEST_NUMBER : number != NONE;
            if (!known || parts >= MOST_PARTS) {
                return false;
            }
            parts++;
            if (token == LETTERS && number == DAY_WORD) {
                namesDay = true;
            }
            emit(token == DIGITS ? Law.NUMBER : Law.WORD, number);
            goOn();
            return true;
        }

        private boolean readInner(int depth) {
            if (depth >= MOST_BRACKETS) {
                return false;
            }
            goOn();
            if (!readSum(depth + 1) || !isSign(']')) {
                return false;
            }
            goOn();
            return true;
        }

        /** A number that is too high stays just above what can be, however many digits come. */
        private int numberHere() {
            int number = 0;
            for (int i = place; i < behind && i < length; i++) {
                number = Math.min(number * 10 + text[i] - '0', HIGHEST_NUMBER + 1);
            }
            return number;
        }

        private int wordHere() {
            if (isWord("from")) {
                return 0;
            }
            if (isWord("to")) {
                return 1;
            }
            if (isWord("rank")) {
                return 2;
            }
            if (isWord("other")) {
                return 3;
            }
            if (isWord("area")) {
                return 4;
            }
            if (isWord("yard")) {
                return 5;
            }
            if (isWord("door")) {
                return 6;
            }
            if (isWord("hour")) {
                return 7;
            }
            return isWord("day") ? DAY_WORD : NONE;
        }
    }

    /** Asks a law of one visit. */
    static final class Reckoner {
        private static final int WORDS = 9;
        private static final int ROOM = 64;
        private static final long FURTHEST = 1000000000L;
        private static final int LONGEST_VISIT = 99;

        private final int[] words = new int[WORDS];
        private final long[] stack = new long[ROOM];
        private int size = 0;
        private boolean broken = false;

        void tellVisit(Town town, int from, int to, int door, int day) {
            if (!town.has(from) || !town.has(to)) {
                return;
            }
            words[0] = from;
            words[1] = to;
            words[2] = town.ranks[from];
            words[3] = town.ranks[to];
            words[4] = town.wide[from] * town.deep[from];
            words[5] = town.wide[to] * town.deep[to];
            words[6] = door;
            words[7] = town.hour;
            words[8] = day;
        }

        boolean bars(Law law) {
            for (int clause = 0; clause < law.clauses; clause++) {
                if (!law.isTakes(clause) && holds(law, clause)) {
                    return true;
                }
            }
            return false;
        }

        int takes(Law law) {
            for (int clause = law.clauses - 1; clause >= 0; clause--) {
                if (law.isTakes(clause) && holds(law, clause)) {
                    return (int) Math.max(1, Math.min(LONGEST_VISIT, stack[0]));
                }
            }
            return 1;
        }

        /** The sum, if there is one, is then lowest on the stack, the test on top. */
        private boolean holds(Law law, int clause) {
            int end = law.endOf(clause);
            int place = law.startOf(clause);
            size = 0;
            broken = false;
            for (int n = 0; n < TAPE_LENGTH && place < end && !broken; n++) {
                int step = law.stepAt(place);
                int number = step % Law.STEP;
                switch (step / Law.STEP) {
                    case Law.NUMBER:
                        push(number);
                        break;
                    case Law.WORD:
                        push(number < WORDS ? words[number] : 0);
                        break;
                    case Law.NOT:
                        turn();
                        break;
                    case Law.AND:
                        place = decides(0) ? number - 1 : place;
                        break;
                    case Law.OR:
                        place = decides(1) ? number - 1 : place;
                        break;
                    default:
                        join(step / Law.STEP);
                        break;
                }
                place++;
            }
            return !broken && (!law.isTested(clause) || size > 0 && stack[size - 1] != 0);
        }

        private void push(long value) {
            if (size < ROOM) {
                stack[size] = value;
                size++;
            }
        }

        private void turn() {
            if (size > 0) {
                stack[size - 1] = 1 - stack[size - 1];
            }
        }

        /** Whether the test on top decides already; else it goes, and what stands behind is asked. */
        private boolean decides(int deciding) {
            if (size == 0 || stack[size - 1] == deciding) {
                return true;
            }
            size--;
            return false;
        }

        private void join(int kind) {
            if (size < 2) {
                return;
            }
            long first = stack[size - 2];
            long second = stack[size - 1];
            long value = 0;
            switch (kind) {
                case Law.ADD:
                    value = first + second;
                    break;
                case Law.SUBTRACT:
                    value = first - second;
                    break;
                case Law.MULTIPLY:
                    value = first * second;
                    break;
                case Law.DIVIDE:
                    broken = second == 0;
                    value = broken ? 0 : first / second;
                    break;
                case Law.LESS:
                    value = first < second ? 1 : 0;
                    break;
                case Law.MORE:
                    value = first > second ? 1 : 0;
                    break;
                default:
                    value = first == second ? 1 : 0;
                    break;
            }
            broken = broken || value > FURTHEST || value < -FURTHEST;
            size--;
            stack[size - 1] = value;
        }
    }

    /** Who can visit whom, and the shortest ways. */
    static final class Streets {
        private static final int CELLS = HOUSES * HOUSES;
        private static final int FAR = 1 << 24;
        /** What a way takes stands above its visits, so that one number orders ways by both. */
        private static final int TIME = 64;

        private final Town town;
        private final Reckoner reckoner = new Reckoner();
        private final int[] open = new int[HOUSES];
        private final int[] openByDoor = new int[HOUSES];
        private final int[] steps = new int[CELLS];
        private final int[] ways = new int[CELLS];
        private int openAsOf = NONE;
        private int byDoorAsOf = NONE;
        private int waysAsOf = NONE;

        Streets(Town town) {
            this.town = town;
        }

        private boolean lawBars(int from, int to, int door, int day) {
            Law law = town.lawInForce();
            if (law == null) {
                return false;
            }
            reckoner.tellVisit(town, from, to, door, day);
            return reckoner.bars(law);
        }

        boolean isBarred(int from, int to) {
            return town.has(from) && lawBars(from, to, bitOf(town.doorRows[from], to), town.day);
        }

        int timeOf(int from, int to) {
            Law law = town.lawInForce();
            if (law == null || !town.has(from)) {
                return 1;
            }
            reckoner.tellVisit(town, from, to, bitOf(town.doorRows[from], to), town.day);
            return reckoner.takes(law);
        }

        boolean isOpen(int from, int to, int day) {
            if (!town.hasTwo(from, to) || !town.bothStand(from, to)) {
                return false;
            }
            int door = bitOf(town.doorRows[from], to);
            return (door == 1 || town.touching(from, to) == CORNER) && !lawBars(from, to, door, day);
        }

        /** Of each house the houses that one can visit from it, as bits. */
        int[] openRows() {
            if (openAsOf != town.changes) {
                fillOpen(open, town.day);
                openAsOf = town.changes;
            }
            return open;
        }

        void fillOpen(int[] rows, int day) {
            for (int from = 0; from < rows.length; from++) {
                rows[from] = 0;
                for (int to = 0; to < town.houses; to++) {
                    if (isOpen(from, to, day)) {
                        rows[from] |= 1 << to;
                    }
                }
            }
        }

        /** The same, as if a door were between any two houses. */
        int[] rowsByDoor() {
            if (byDoorAsOf != town.changes) {
                byDoorAsOf = town.changes;
                for (int from = 0; from < HOUSES; from++) {
                    openByDoor[from] = rowByDoor(from);
                }
            }
            return openByDoor;
        }

        private int rowByDoor(int from) {
            int bits = 0;
            for (int to = 0; to < town.houses; to++) {
                boolean asked = town.hasTwo(from, to) && town.bothStand(from, to);
                if (asked && !lawBars(from, to, 1, town.day)) {
                    bits |= 1 << to;
                }
            }
            return bits;
        }

        /** Works out the shortest ways from each house to each other one, by the rows of visits. */
        void measure(int[] rows) {
            if (waysAsOf == town.changes) {
                return;
            }
            waysAsOf = town.changes;
            for (int from = 0; from < HOUSES && from < rows.length; from++) {
                for (int to = 0; to < HOUSES; to++) {
                    boolean go = bitOf(rows[from], to) == 1;
                    steps[from * HOUSES + to] = go ? timeOf(from, to) * TIME + 1 : FAR;
                }
                if (bitOf(town.standing, from) == 1) {
                    steps[from * HOUSES + from] = 0;
                }
            }
            System.arraycopy(steps, 0, ways, 0, CELLS);
            for (int by = 0; by < HOUSES; by++) {
                shortenBy(by);
            }
        }

        private void shortenBy(int by) {
            if (!within(by, 0, HOUSES - 1)) {
                return;
            }
            for (int from = 0; from < HOUSES; from++) {
                int half = ways[from * HOUSES + by];
                for (int to = 0; half < FAR && to < HOUSES; to++) {
                    int whole = half + ways[by * HOUSES + to];
                    if (whole < ways[from * HOUSES + to]) {
                        ways[from * HOUSES + to] = whole;
                    }
                }
            }
        }

        private static int cell(int from, int to) {
            return within(from, 0, HOUSES - 1) && within(to, 0, HOUSES - 1) ? from * HOUSES + to : 0;
        }

        int shortestTime(int from, int to) {
            int way = ways[cell(from, to)];
            return way < FAR ? way / TIME : NONE;
        }

        int shortestVisits(int from, int to) {
            int way = ways[cell(from, to)];
            return way < FAR ? way % TIME : NONE;
        }

        /** The lowest next house of all shortest ways, each time, makes the first of them as a row. */
        int stopOnWay(int from, int to, int i) {
            if (!within(i, 0, shortestVisits(from, to))) {
                return NONE;
            }
            int house = from;
            for (int n = 0; n < i && n < HOUSES; n++) {
                house = nextOnWay(house, to);
            }
            return house;
        }

        private int nextOnWay(int house, int to) {
            for (int next = 0; next < town.houses; next++) {
                int step = steps[cell(house, next)];
                if (next != house && step < FAR
                    && step + ways[cell(next, to)] == ways[cell(house, to)]) {
                    return next;
                }
            }
            return house;
        }

        int meetingPlace(int one, int other) {
            int place = NONE;
            int later = 0;
            int sum = 0;
            for (int h = 0; h < town.houses; h++) {
                int first = shortestTime(one, h);
                int second = shortestTime(other, h);
                if (first != NONE && second != NONE) {
                    int last = Math.max(first, second);
                    boolean sooner = last < later || last == later && first + second < sum;
                    if (place == NONE || sooner) {
                        place = h;
                        later = last;
                        sum = first + second;
                    }
                }
            }
            return place;
        }
    }

    /** Who comes to whom by rows of visits, in how many ways, and what stands between. */
    static final class Crossings {
        private final Town town;
        private final int[] counts = new int[HOUSES];
        private final int[] reached = new int[HOUSES];
        private final int[] found = new int[HOUSES];
        int fewest = NONE;
        int waysOfFewest = 0;
        int cutBits = 0;
        int cutWays = 0;

        Crossings(Town town) {
            this.town = town;
        }

        /** The houses to which one comes, by houses of some alone. */
        static int reach(int[] rows, int from, int among) {
            int seen = (1 << from) & among;
            int todo = seen;
            for (int n = 0; n < HOUSES && todo != 0; n++) {
                int house = lowestOf(todo);
                if (house >= rows.length) {
                    return seen;
                }
                int more = rows[house] & among & ~seen;
                seen |= more;
                todo = (todo & (todo - 1)) | more;
            }
            return seen;
        }

        /** Between two houses alone, rows become what a model's rows are. */
        static void putPair(int[] rows, int[] model, int one, int other) {
            if (within(one, 0, HOUSES - 1) && within(other, 0, HOUSES - 1)
                && rows.length >= HOUSES && model.length >= HOUSES) {
                int there = 1 << other;
                int here = 1 << one;
                rows[one] = (rows[one] & ~there) | (model[one] & there);
                rows[other] = (rows[other] & ~here) | (model[other] & here);
            }
        }

        void countWays(int[] rows, int from, int to) {
            fewest = NONE;
            waysOfFewest = 0;
            if (!within(from, 0, HOUSES - 1) || !within(to, 0, HOUSES - 1)) {
                return;
            }
            Arrays.fill(counts, 0);
            counts[from] = 1;
            int edge = (1 << from) & town.standing;
            int seen = edge;
            for (int visits = 0; visits < HOUSES && edge != 0; visits++) {
                if (bitOf(edge, to) == 1) {
                    fewest = visits;
                    waysOfFewest = counts[to];
                    return;
                }
                edge = spread(rows, edge, seen);
                seen |= edge;
            }
        }

        private int spread(int[] rows, int edge, int seen) {
            int next = 0;
            for (int h = 0; h < HOUSES && h < rows.length; h++) {
                int more = bitOf(edge, h) == 1 ? rows[h] & ~seen : 0;
                for (int g = 0; more != 0 && g < HOUSES; g++) {
                    counts[g] += bitOf(more, g) * counts[h];
                }
                next |= more;
            }
            return next;
        }

        int findParts(int[] rows, int among) {
            for (int h = 0; h < HOUSES; h++) {
                reached[h] = reach(rows, h, among);
            }
            int parts = 0;
            int left = among;
            for (int h = 0; h < HOUSES; h++) {
                if (bitOf(left, h) == 1 && parts < HOUSES) {
                    found[parts] = partOf(h);
                    left &= ~found[parts];
                    parts++;
                }
            }
            return parts;
        }

        private int partOf(int house) {
            int bits = 0;
            for (int h = 0; h < HOUSES && within(house, 0, HOUSES - 1); h++) {
                if (bitOf(reached[house], h) == 1 && bitOf(reached[h], house) == 1) {
                    bits |= 1 << h;
                }
            }
            return bits;
        }

        int partAt(int i) {
            return within(i, 0, HOUSES - 1) ? found[i] : NONE;
        }

        private static boolean meets(int[] rows, int from, int to, int among) {
            return bitOf(reach(rows, from, among), to) == 1;
        }

        int holdersBetween(int[] rows, int from, int to) {
            if (!meets(rows, from, to, town.standing)) {
                return NONE;
            }
            int bits = 0;
            for (int h = 0; h < town.houses; h++) {
                if (h != from && h != to && !meets(rows, from, to, town.standing & ~(1 << h))) {
                    bits |= 1 << h;
                }
            }
            return bits;
        }

        /** Goes through all bits of others from the lowest, so that the first of a size is the lowest. */
        void findCut(int[] rows, int from, int to) {
            int others = town.standing & ~(1 << from) & ~(1 << to);
            int least = MOST_CUT;
            int bits = 0;
            cutBits = 0;
            cutWays = 0;
            for (int n = 0; n < 1 << HOUSES; n++) {
                int many = Integer.bitCount(bits);
                if (many <= least && !meets(rows, from, to, town.standing & ~bits)) {
                    if (many < least || cutWays == 0) {
                        cutBits = bits;
                        cutWays = 0;
                        least = many;
                    }
                    cutWays++;
                }
                bits = (bits - others) & others;
                if (bits == 0) {
                    return;
                }
            }
        }
    }

    /** The fewest new doors by which all wishes and no bans are so. */
    static final class DoorSearch {
        private static final int PAIRS = HOUSES * (HOUSES - 1) / 2;

        private final Town town;
        private final int[] rows = new int[HOUSES];
        private final int[] low = new int[PAIRS];
        private final int[] high = new int[PAIRS];
        private int pairs = 0;
        private final int[] picked = new int[4];
        private int asOf = NONE;
        int needed = NONE;
        int ways = 0;

        DoorSearch(Town town) {
            this.town = town;
        }

        int pickedHouse(int i) {
            return needed != NONE && i >= 0 && i < needed * 2 && i < picked.length ? picked[i] : NONE;
        }

        void search(int[] open, int[] byDoor) {
            if (asOf == town.changes || open.length < HOUSES || byDoor.length < HOUSES) {
                return;
            }
            asOf = town.changes;
            needed = NONE;
            ways = 0;
            System.arraycopy(open, 0, rows, 0, HOUSES);
            if (allMeet()) {
                needed = 0;
                ways = 1;
                return;
            }
            listPairs(open, byDoor);
            tryOne(open, byDoor);
            for (int i = 0; needed != 1 && i < pairs && i < PAIRS; i++) {
                Crossings.putPair(rows, byDoor, low[i], high[i]);
                tryTwo(open, byDoor, i);
                Crossings.putPair(rows, open, low[i], high[i]);
            }
        }

        /** A door that changes no visit is in no smallest set of doors: such pairs are left out. */
        private void listPairs(int[] open, int[] byDoor) {
            pairs = 0;
            for (int one = 0; one < town.houses; one++) {
                for (int other = one + 1; other < town.houses; other++) {
                    int changed = bitOf(open[one] ^ byDoor[one], other)
                        | bitOf(open[other] ^ byDoor[other], one);
                    if (changed == 1 && bitOf(town.doorRows[one], other) == 0 && pairs < PAIRS) {
                        low[pairs] = one;
                        high[pairs] = other;
                        pairs++;
                    }
                }
            }
        }

        private void tryOne(int[] open, int[] byDoor) {
            for (int i = 0; i < pairs && i < PAIRS; i++) {
                Crossings.putPair(rows, byDoor, low[i], high[i]);
                if (allMeet()) {
                    keepFirst(1, i, i);
                }
                Crossings.putPair(rows, open, low[i], high[i]);
            }
        }

        private void tryTwo(int[] open, int[] byDoor, int i) {
            for (int j = i + 1; j < pairs && j < PAIRS; j++) {
                Crossings.putPair(rows, byDoor, low[j], high[j]);
                if (allMeet()) {
                    keepFirst(2, i, j);
                }
                Crossings.putPair(rows, open, low[j], high[j]);
            }
        }

        private void keepFirst(int many, int i, int j) {
            if (ways == 0 && within(i, 0, PAIRS - 1) && within(j, 0, PAIRS - 1)) {
                needed = many;
                picked[0] = low[i];
                picked[1] = high[i];
                picked[2] = low[j];
                picked[3] = high[j];
            }
            ways++;
        }

        private boolean allMeet() {
            return allAre(town.wishes, 1) && allAre(town.bans, 0);
        }

        private boolean allAre(Pairs asked, int due) {
            for (int i = 0; i < asked.size && i < MOST_WISHES; i++) {
                int reached = Crossings.reach(rows, asked.first[i], town.standing);
                if (bitOf(reached, asked.second[i]) != due) {
                    return false;
                }
            }
            return true;
        }
    }

    /** News by days, and the door by which all logs are so. */
    static final class News {
        private final Town town;
        private final int[] rows = new int[HOUSES];
        private final int[] days = new int[HOUSES];
        private int asOf = NONE;
        private int toldHouse = NONE;
        boolean fitsAsIs = false;
        int fitting = 0;
        int fitLow = NONE;
        int fitHigh = NONE;

        News(Town town) {
            this.town = town;
        }

        int firstDay(int[] by, int bits, int house) {
            goRound(by, bits);
            return within(house, 0, HOUSES - 1) ? days[house] : NONE;
        }

        private void goRound(int[] by, int bits) {
            Arrays.fill(days, NONE);
            int fresh = bits & town.standing;
            int seen = fresh;
            for (int day = 0; day < HOUSES && fresh != 0; day++) {
                int next = 0;
                for (int h = 0; h < HOUSES && h < by.length; h++) {
                    if (bitOf(fresh, h) == 1) {
                        days[h] = day;
                        next |= by[h];
                    }
                }
                fresh = next & ~seen;
                seen |= fresh;
            }
        }

        int wrongLogs(int[] by, int house) {
            if (!town.has(house)) {
                return NONE;
            }
            goRound(by, 1 << house);
            int wrong = 0;
            for (int i = 0; i < town.logs.size && i < MOST_LOGS; i++) {
                int told = town.logs.first[i];
                if (within(told, 0, HOUSES - 1) && days[told] != town.logs.second[i]) {
                    wrong++;
                }
            }
            return wrong;
        }

        void seekDoor(int[] open, int[] byDoor, int house) {
            if (open.length < HOUSES || asOf == town.changes && toldHouse == house) {
                return;
            }
            asOf = town.changes;
            toldHouse = house;
            fitting = 0;
            fitLow = NONE;
            fitHigh = NONE;
            System.arraycopy(open, 0, rows, 0, HOUSES);
            fitsAsIs = wrongLogs(rows, house) == 0;
            for (int one = 0; one < town.houses; one++) {
                for (int other = one + 1; other < town.houses; other++) {
                    if (bitOf(town.doorRows[one], other) == 0) {
                        Crossings.putPair(rows, byDoor, one, other);
                        tryDoor(house, one, other);
                        Crossings.putPair(rows, open, one, other);
                    }
                }
            }
        }

        private void tryDoor(int house, int one, int other) {
            if (wrongLogs(rows, house) != 0) {
                return;
            }
            if (fitting == 0) {
                fitLow = one;
                fitHigh = other;
            }
            fitting++;
        }
    }

    /** Rounds of errands: the least from each house with each rest of them still to be done. */
    static final class Rounds {
        private static final int LONGEST_ROUND = 1000000;

        private final Town town;
        private final Streets streets;
        private final int[] errands = new int[HOUSES];
        private final int[] order = new int[HOUSES];
        private final int[] times = new int[HOUSES * HOUSES];
        private int[] least = new int[0];
        private int size = 0;
        private int asOf = NONE;
        private int homeThen = NONE;
        private int bitsThen = 0;
        private boolean can = false;
        int taken = 0;

        Rounds(Town town, Streets streets) {
            this.town = town;
            this.streets = streets;
        }

        int stopAt(int i) {
            return i >= 0 && i < size && i < HOUSES ? order[i] : NONE;
        }

        /** Whether there is a round; it is kept as the latest then. */
        boolean plan(int home, int bits) {
            if (asOf == town.changes && homeThen == home && bitsThen == bits) {
                return can;
            }
            asOf = town.changes;
            homeThen = home;
            bitsThen = bits;
            size = 0;
            taken = 0;
            can = isRound(home, bits);
            if (can) {
                listErrands(home, bits);
                fillLeast();
                walk();
            }
            return can;
        }

        private boolean isRound(int home, int bits) {
            if (!town.has(home) || bitOf(town.standing, home) == 0) {
                return false;
            }
            if ((bits & ~town.standing) != 0 || bitOf(bits, home) == 1) {
                return false;
            }
            for (int h = 0; h < town.houses; h++) {
                boolean asked = bitOf(bits, h) == 1;
                if (asked && (streets.shortestTime(home, h) == NONE || streets.shortestTime(h, home) == NONE)) {
                    return false;
                }
            }
            return true;
        }

        /** Home is listed behind the errands, at the place of their number. */
        private void listErrands(int home, int bits) {
            for (int h = 0; h < HOUSES; h++) {
                if (bitOf(bits, h) == 1 && size < HOUSES - 1) {
                    errands[size] = h;
                    size++;
                }
            }
            errands[size] = home;
            for (int i = 0; i <= size; i++) {
                for (int j = 0; j <= size; j++) {
                    times[i * HOUSES + j] = streets.shortestTime(errands[i], errands[j]);
                }
            }
            int room = size << size;
            if (least.length < room) {
                least = new int[room];
            }
        }

        private int timeBetween(int i, int j) {
            int place = i * HOUSES + j;
            return place >= 0 && place < times.length ? times[place] : 0;
        }

        private int leastAt(int rest, int at) {
            int place = rest * size + at;
            return place >= 0 && place < least.length ? least[place] : 0;
        }

        private void fillLeast() {
            for (int rest = 0; rest < 1 << size; rest++) {
                for (int at = 0; at < size; at++) {
                    int place = rest * size + at;
                    if (bitOf(rest, at) == 0 && place < least.length) {
                        least[place] = leastFrom(at, rest);
                    }
                }
            }
        }

        private int leastFrom(int at, int rest) {
            if (rest == 0) {
                return timeBetween(at, size);
            }
            int best = LONGEST_ROUND;
            for (int next = 0; next < size; next++) {
                if (bitOf(rest, next) == 1) {
                    best = Math.min(best, timeBetween(at, next) + leastAt(rest & ~(1 << next), next));
                }
            }
            return best;
        }

        /** The lowest next errand by which the least can still be had makes the first order. */
        private void walk() {
            int rest = (1 << size) - 1;
            int at = size;
            taken = size == 0 ? 0 : leastFrom(at, rest);
            for (int i = 0; i < size; i++) {
                int next = nextErrand(at, rest);
                order[i] = within(next, 0, HOUSES - 1) ? errands[next] : NONE;
                rest &= ~(1 << next);
                at = next;
            }
        }

        private int nextErrand(int at, int rest) {
            int best = leastFrom(at, rest);
            for (int next = 0; next < size; next++) {
                if (bitOf(rest, next) == 1
                    && timeBetween(at, next) + leastAt(rest & ~(1 << next), next) == best) {
                    return next;
                }
            }
            return 0;
        }
    }

    /** The latest floods. */
    static final class Floods {
        private static final long FACTOR = 1103;
        private static final long MORE = 12345;
        private static final long MODULUS = 1000003;
        private static final int DRAW = 4;

        private final Town town;
        private final Streets streets;
        private final Crossings crossings;
        private final int[] rows = new int[HOUSES];
        private final int[] water = new int[FLOOD_DAYS];
        private final int[] partsThen = new int[FLOOD_DAYS];
        private int days = 0;
        private long state = 0;

        Floods(Town town, Streets streets, Crossings crossings) {
            this.town = town;
            this.streets = streets;
            this.crossings = crossings;
        }

        int tell(int i, int what) {
            if (i < 0 || i >= days || i >= FLOOD_DAYS || !within(what, 0, 1)) {
                return NONE;
            }
            return what == 0 ? water[i] : partsThen[i];
        }

        int rise(int seed, int n) {
            state = seed;
            days = Math.max(0, Math.min(n, FLOOD_DAYS));
            Law law = town.lawInForce();
            boolean daily = law != null && law.namesDay;
            int most = 0;
            for (int i = 0; i < days && i < FLOOD_DAYS; i++) {
                water[i] = drawWater();
                if (daily || i == 0) {
                    streets.fillOpen(rows, town.day + i);
                }
                partsThen[i] = crossings.findParts(rows, town.standing & ~water[i]);
                most = Math.max(most, partsThen[i]);
            }
            return most;
        }

        private int drawWater() {
            int bits = 0;
            for (int h = 0; h < town.houses; h++) {
                if (bitOf(town.standing, h) == 1) {
                    state = (state * FACTOR + MORE) % MODULUS;
                    if (state % DRAW == 0) {
                        bits |= 1 << h;
                    }
                }
            }
            return bits;
        }
    }
}
