/**
 * A planner for the order of songs in a concert: who plays which instrument in which tuning, what each
 * changeover costs, the order with the least cost, pinned songs, and encores chosen by their playing time.
 */
public final class SetlistPlanner {
    public static final int INVALID_ARGUMENT = -1;
    public static final int NOT_POSSIBLE = -2;
    public static final int CAPACITY_EXCEEDED = -3;
    public static final int NOT_FOUND = -4;
    public static final int LEFT = 0, RIGHT = 1;
    public static final int NOTHING = 0, PICK_UP = 1, PUT_DOWN = 2, EXCHANGE = 3, TAKE_SPARE = 4, RETUNE = 5;

    private static final int MAX_SONGS = 8;
    private static final int MAX_PLAYERS = 5;
    private static final int MAX_KINDS = 6;
    private static final int MAX_UNITS = 5;
    private static final int MAX_TUNING = 5;
    private static final int MAX_PLAYING_TIME = 20;
    private static final int MAX_ENCORE_TIME = 160;
    private static final int MAX_TEXT = 300;
    private static final int MAX_NUMBERS = 4;
    private static final int MAX_DIGITS = 2;
    private static final int MAX_UNDO = 5;
    private static final int FIRST_CHARACTER = 32;
    private static final int LAST_CHARACTER = 126;

    /** No kind, no pin, no order, no malformed statement. */
    private static final int NONE = -1;

    private static final String FIRST_CONCERT =
        "s4;s5;s3;s6;s4;p0;p1;p0;k2,0;k1,1;k1,0;u0,0,0,0;u0,1,1,2;u1,0,0,3;u1,2,0,1;u2,1,1,0;u2,2,2,0;u3,0,2,0;u3,1,0,0;u4,0,0,0;u4,1,1,2;u4,2,0,4;e4;";

    private final ConcertText text = new ConcertText();
    private final Concert concert = new Concert();
    /** A concert to try things on, so that the present one stays as it is if they fail. */
    private final Concert draft = new Concert();
    private final History history = new History();
    private final OrderTable table = new OrderTable();
    /** Whether the table tells the orders of the present concert. */
    private boolean tableIsPresent = false;

    public SetlistPlanner() {
        for (int i = 0; i < FIRST_CONCERT.length(); i++) {
            text.add(FIRST_CONCERT.charAt(i));
        }
        text.readInto(draft);
        concert.copyFrom(draft);
        text.length = 0;
    }

    public int append(int character) {
        if (character < FIRST_CHARACTER || character > LAST_CHARACTER) {
            return INVALID_ARGUMENT;
        }
        return text.add((char) character) ? text.length : CAPACITY_EXCEEDED;
    }

    public int clearText() {
        int length = text.length;
        text.length = 0;
        return length;
    }

    public int firstError() {
        int error = text.readInto(draft);
        return error == NONE ? NOT_FOUND : error;
    }

    public int configure() {
        if (text.readInto(draft) != NONE || !draft.hasAllSorts()) {
            return NOT_POSSIBLE;
        }
        concert.copyFrom(draft);
        history.forget();
        tableIsPresent = false;
        return concert.songs;
    }

    public int setPart(int song, int player, int kind, int tuning) {
        if (!concert.isPart(song, player, kind, tuning)) {
            return INVALID_ARGUMENT;
        }
        if (!concert.hasUnitFor(song, player, kind)) {
            return NOT_POSSIBLE;
        }
        beginEdit();
        concert.givePart(song, player, kind, tuning);
        return concert.playersOn(song, kind);
    }

    public int removePart(int song, int player) {
        int kind = kindOf(song, player);
        if (kind < 0) {
            return kind;
        }
        beginEdit();
        concert.givePart(song, player, NONE, 0);
        return kind;
    }

    public int setUnits(int kind, int units) {
        if (!concert.isKind(kind) || units < 1 || units > MAX_UNITS) {
            return INVALID_ARGUMENT;
        }
        if (concert.mostPlayersOn(kind) > units) {
            return NOT_POSSIBLE;
        }
        int previous = concert.units[kind];
        beginEdit();
        concert.units[kind] = units;
        return previous;
    }

    public int pin(int song, int position) {
        if (!concert.isSong(song) || !concert.isSong(position)) {
            return INVALID_ARGUMENT;
        }
        int holder = concert.songPinnedAt(position);
        if (holder != NONE && holder != song) {
            return NOT_POSSIBLE;
        }
        beginEdit();
        concert.pinnedAt[song] = position;
        return concert.pinCount();
    }

    public int unpin(int song) {
        if (!concert.isSong(song)) {
            return INVALID_ARGUMENT;
        }
        int position = concert.pinnedAt[song];
        if (position == NONE) {
            return NOT_FOUND;
        }
        beginEdit();
        concert.pinnedAt[song] = NONE;
        return position;
    }

    public int setEncore(int song, int encore) {
        if (!concert.isSong(song) || encore < 0 || encore > 1) {
            return INVALID_ARGUMENT;
        }
        int previous = concert.isEncore(song) ? 1 : 0;
        beginEdit();
        concert.encores = concert.encores & ~(1 << song) | encore << song;
        return previous;
    }

    public int moveSong(int from, int to) {
        if (!concert.isSong(from) || !concert.isSong(to)) {
            return INVALID_ARGUMENT;
        }
        beginEdit();
        concert.shiftOrder(from, to);
        return concert.order[to];
    }

    public int adoptBest() {
        int cost = presentTable().leastCost();
        if (cost == NONE) {
            return NOT_FOUND;
        }
        beginEdit();
        table.copyBestOrder(concert.order);
        return cost;
    }

    public int undo() {
        if (history.count == 0) {
            return NOT_POSSIBLE;
        }
        history.takeBack(concert);
        tableIsPresent = false;
        return history.count;
    }

    public int songCount() {
        return concert.songs;
    }

    public int kindOf(int song, int player) {
        if (!concert.isSong(song) || !concert.isPlayer(player)) {
            return INVALID_ARGUMENT;
        }
        int kind = concert.kindPlayed(song, player);
        return kind == NONE ? NOT_FOUND : kind;
    }

    public int tuningOf(int song, int player) {
        int kind = kindOf(song, player);
        return kind < 0 ? kind : concert.tuningPlayed(song, player);
    }

    public int spareUnits(int song, int kind) {
        if (!concert.isSong(song) || !concert.isKind(kind)) {
            return INVALID_ARGUMENT;
        }
        return concert.units[kind] - concert.playersOn(song, kind);
    }

    public int changeOf(int player, int from, int to) {
        if (!concert.isPlayer(player) || !concert.areTwoSongs(from, to)) {
            return INVALID_ARGUMENT;
        }
        return concert.change(player, from, to);
    }

    public int changeCost(int player, int from, int to) {
        if (!concert.isPlayer(player) || !concert.areTwoSongs(from, to)) {
            return INVALID_ARGUMENT;
        }
        return concert.costOfChange(player, from, to);
    }

    public int changeoverCost(int from, int to) {
        if (!concert.areTwoSongs(from, to)) {
            return INVALID_ARGUMENT;
        }
        return concert.costOfChangeover(from, to);
    }

    public int songAt(int position) {
        return concert.isSong(position) ? concert.order[position] : INVALID_ARGUMENT;
    }

    public int orderCost() {
        int sum = 0;
        for (int position = 0; position < concert.songs - 1; position++) {
            sum += concert.costAfter(position);
        }
        return sum;
    }

    public int isAllowed() {
        for (int position = 0; position < concert.songs; position++) {
            if (!concert.mayStandAt(concert.order[position], position)) {
                return 0;
            }
        }
        return 1;
    }

    public int dearestChangeover() {
        int dearest = NOT_FOUND;
        int highest = NONE;
        for (int position = 0; position < concert.songs - 1; position++) {
            int cost = concert.costAfter(position);
            if (cost > highest) {
                highest = cost;
                dearest = position;
            }
        }
        return dearest;
    }

    public int bestCost() {
        int cost = presentTable().leastCost();
        return cost == NONE ? NOT_FOUND : cost;
    }

    public int bestSongAt(int position) {
        if (!concert.isSong(position)) {
            return INVALID_ARGUMENT;
        }
        int song = presentTable().bestSong(position);
        return song == NONE ? NOT_FOUND : song;
    }

    public int bestCostFrom(int song) {
        if (!concert.isSong(song)) {
            return INVALID_ARGUMENT;
        }
        int cost = presentTable().leastCostFrom(song);
        return cost == NONE ? NOT_FOUND : cost;
    }

    public int bestOrderCount() {
        return presentTable().leastCostOrders();
    }

    public int savingByUnit(int kind) {
        if (!concert.isKind(kind)) {
            return INVALID_ARGUMENT;
        }
        int cost = presentTable().leastCost();
        if (cost == NONE) {
            return NOT_FOUND;
        }
        draft.copyFrom(concert);
        draft.units[kind]++;
        tableIsPresent = false;
        table.load(draft);
        table.solve();
        return cost - table.leastCost();
    }

    public int encoresWithin(int minutes) {
        if (minutes < 0 || minutes > MAX_ENCORE_TIME) {
            return INVALID_ARGUMENT;
        }
        int chosen = 0;
        int chosenTime = 0;
        // The sets come by rising bit masks, so that of equal ones the first, which stays, has the least mask.
        for (int set = 1; set < 1 << concert.songs; set++) {
            if ((set & ~concert.encores) == 0) {
                int time = concert.playingTime(set);
                boolean hasMoreSongs = Integer.bitCount(set) > Integer.bitCount(chosen);
                if (time <= minutes && (time > chosenTime || time == chosenTime && hasMoreSongs)) {
                    chosen = set;
                    chosenTime = time;
                }
            }
        }
        return chosen;
    }

    /** Every edit calls this before it changes the concert, and only when nothing can refuse it any more. */
    private void beginEdit() {
        history.keep(concert);
        tableIsPresent = false;
    }

    private OrderTable presentTable() {
        if (!tableIsPresent) {
            table.load(concert);
            table.solve();
            tableIsPresent = true;
        }
        return table;
    }

    /** Songs, players, kinds, parts, pins, encores and the present order: all that an edit may change, and the rest. */
    private static final class Concert {
        int songs = 0;
        int players = 0;
        int kinds = 0;
        /** The songs that are encores, as a bit mask. */
        int encores = 0;
        final int[] playingTimes = new int[MAX_SONGS];
        final int[] playerSides = new int[MAX_PLAYERS];
        final int[] units = new int[MAX_KINDS];
        final int[] kindSides = new int[MAX_KINDS];
        /** By song and player: the kind, or NONE. */
        final int[] partKinds = new int[MAX_SONGS * MAX_PLAYERS];
        final int[] partTunings = new int[MAX_SONGS * MAX_PLAYERS];
        /** By song: the position, or NONE. */
        final int[] pinnedAt = new int[MAX_SONGS];
        /** By position: the song. */
        final int[] order = new int[MAX_SONGS];

        void makeEmpty() {
            songs = 0;
            players = 0;
            kinds = 0;
            encores = 0;
            for (int i = 0; i < MAX_SONGS * MAX_PLAYERS; i++) {
                partKinds[i] = NONE;
                partTunings[i] = 0;
            }
            for (int i = 0; i < MAX_SONGS; i++) {
                pinnedAt[i] = NONE;
                order[i] = i;
            }
        }

        void copyFrom(Concert other) {
            songs = other.songs;
            players = other.players;
            kinds = other.kinds;
            encores = other.encores;
            System.arraycopy(other.playingTimes, 0, playingTimes, 0, MAX_SONGS);
            System.arraycopy(other.playerSides, 0, playerSides, 0, MAX_PLAYERS);
            System.arraycopy(other.units, 0, units, 0, MAX_KINDS);
            System.arraycopy(other.kindSides, 0, kindSides, 0, MAX_KINDS);
            System.arraycopy(other.partKinds, 0, partKinds, 0, MAX_SONGS * MAX_PLAYERS);
            System.arraycopy(other.partTunings, 0, partTunings, 0, MAX_SONGS * MAX_PLAYERS);
            System.arraycopy(other.pinnedAt, 0, pinnedAt, 0, MAX_SONGS);
            System.arraycopy(other.order, 0, order, 0, MAX_SONGS);
        }

        boolean addSong(int playingTime) {
            if (songs == MAX_SONGS || playingTime < 1 || playingTime > MAX_PLAYING_TIME) {
                return false;
            }
            playingTimes[songs] = playingTime;
            songs++;
            return true;
        }

        boolean addPlayer(int side) {
            if (players == MAX_PLAYERS || !isSide(side)) {
                return false;
            }
            playerSides[players] = side;
            players++;
            return true;
        }

        boolean addKind(int unitCount, int side) {
            if (kinds == MAX_KINDS || unitCount < 1 || unitCount > MAX_UNITS || !isSide(side)) {
                return false;
            }
            units[kinds] = unitCount;
            kindSides[kinds] = side;
            kinds++;
            return true;
        }

        boolean addPart(int song, int player, int kind, int tuning) {
            if (!isPart(song, player, kind, tuning) || !hasUnitFor(song, player, kind)) {
                return false;
            }
            givePart(song, player, kind, tuning);
            return true;
        }

        boolean addEncore(int song) {
            if (!isSong(song)) {
                return false;
            }
            encores |= 1 << song;
            return true;
        }

        boolean hasAllSorts() {
            return songs > 0 && players > 0 && kinds > 0;
        }

        /** Positions have the same range as songs, so this tells it for them too. */
        boolean isSong(int song) {
            return song >= 0 && song < songs;
        }

        boolean areTwoSongs(int from, int to) {
            return isSong(from) && isSong(to) && from != to;
        }

        boolean isPlayer(int player) {
            return player >= 0 && player < players;
        }

        boolean isKind(int kind) {
            return kind >= 0 && kind < kinds;
        }

        boolean isSide(int side) {
            return side == LEFT || side == RIGHT;
        }

        boolean isPart(int song, int player, int kind, int tuning) {
            return isSong(song) && isPlayer(player) && isKind(kind) && tuning >= 0 && tuning <= MAX_TUNING;
        }

        boolean isEncore(int song) {
            return (encores >> song & 1) == 1;
        }

        int kindPlayed(int song, int player) {
            return partKinds[song * MAX_PLAYERS + player];
        }

        int tuningPlayed(int song, int player) {
            return partTunings[song * MAX_PLAYERS + player];
        }

        void givePart(int song, int player, int kind, int tuning) {
            partKinds[song * MAX_PLAYERS + player] = kind;
            partTunings[song * MAX_PLAYERS + player] = tuning;
        }

        int playersOn(int song, int kind) {
            int count = 0;
            for (int player = 0; player < players; player++) {
                if (partKinds[song * MAX_PLAYERS + player] == kind) {
                    count++;
                }
            }
            return count;
        }

        int mostPlayersOn(int kind) {
            int most = 0;
            for (int song = 0; song < songs; song++) {
                most = Math.max(most, playersOn(song, kind));
            }
            return most;
        }

        /** The player's own unit, if it is of the kind already, is taken again. */
        boolean hasUnitFor(int song, int player, int kind) {
            return kindPlayed(song, player) == kind || playersOn(song, kind) < units[kind];
        }

        int change(int player, int from, int to) {
            int before = kindPlayed(from, player);
            int after = kindPlayed(to, player);
            if (before == NONE) {
                return after == NONE ? NOTHING : PICK_UP;
            }
            if (after == NONE) {
                return PUT_DOWN;
            }
            if (before != after) {
                return EXCHANGE;
            }
            if (tuningPlayed(from, player) == tuningPlayed(to, player)) {
                return NOTHING;
            }
            return playersOn(to, after) < units[after] ? TAKE_SPARE : RETUNE;
        }

        int costOfChange(int player, int from, int to) {
            int before = kindPlayed(from, player);
            int after = kindPlayed(to, player);
            switch (change(player, from, to)) {
                case PICK_UP:
                    return 1 + costOfSide(player, after);
                case PUT_DOWN:
                    return 1 + costOfSide(player, before);
                case EXCHANGE:
                    return 3 + costOfSide(player, before) + costOfSide(player, after);
                case TAKE_SPARE:
                    return 2 + costOfSide(player, after);
                case RETUNE:
                    return 2 + Math.abs(tuningPlayed(from, player) - tuningPlayed(to, player));
                default:
                    return 0;
            }
        }

        int costOfSide(int player, int kind) {
            return isKind(kind) && kindSides[kind] != playerSides[player] ? 1 : 0;
        }

        int costOfChangeover(int from, int to) {
            int sum = 0;
            for (int player = 0; player < players; player++) {
                sum += costOfChange(player, from, to);
            }
            return sum;
        }

        /** The cost of the changeover from the song at a position, which is not the last, to the next one. */
        int costAfter(int position) {
            return costOfChangeover(order[position], order[position + 1]);
        }

        void shiftOrder(int from, int to) {
            int song = order[from];
            for (int position = from; position < to; position++) {
                order[position] = order[position + 1];
            }
            for (int position = from; position > to; position--) {
                order[position] = order[position - 1];
            }
            order[to] = song;
        }

        int songPinnedAt(int position) {
            for (int song = 0; song < songs; song++) {
                if (pinnedAt[song] == position) {
                    return song;
                }
            }
            return NONE;
        }

        int pinCount() {
            int count = 0;
            for (int song = 0; song < songs; song++) {
                if (pinnedAt[song] != NONE) {
                    count++;
                }
            }
            return count;
        }

        /** Encores come after all others just if they have the last positions, as many as there are encores. */
        boolean mayStandAt(int song, int position) {
            boolean isEncorePosition = position >= songs - Integer.bitCount(encores);
            boolean pinAgrees = pinnedAt[song] == NONE || pinnedAt[song] == position;
            return pinAgrees && isEncore(song) == isEncorePosition;
        }

        int playingTime(int set) {
            int sum = 0;
            for (int song = 0; song < songs; song++) {
                if ((set >> song & 1) == 1) {
                    sum += playingTimes[song];
                }
            }
            return sum;
        }
    }

    /** The concert text, and the reading of its statements into a concert. */
    private static final class ConcertText {
        final char[] characters = new char[MAX_TEXT];
        int length = 0;
        /** The numbers of the statement that is read. */
        final int[] numbers = new int[MAX_NUMBERS];
        int numberCount = 0;

        boolean add(char character) {
            if (length >= MAX_TEXT) {
                return false;
            }
            characters[length] = character;
            length++;
            return true;
        }

        /** Makes the concert that of the text; returns where the first malformed statement begins, or NONE. */
        int readInto(Concert concert) {
            concert.makeEmpty();
            int start = 0;
            for (int i = 0; i < length; i++) {
                if (characters[i] == ';') {
                    if (!readNumbers(start + 1, i) || !state(characters[start], concert)) {
                        return start;
                    }
                    start = i + 1;
                }
            }
            return start < length ? start : NONE;
        }

        /** Reads the numbers from an index to the semicolon that ends the statement. */
        private boolean readNumbers(int from, int semicolon) {
            numberCount = 0;
            int value = 0;
            int digits = 0;
            for (int i = from; i <= semicolon; i++) {
                char character = characters[i];
                if (character >= '0' && character <= '9') {
                    value = value * 10 + (character - '0');
                    digits++;
                } else {
                    boolean endsNumber = character == ',' || character == ';';
                    if (!endsNumber || digits < 1 || digits > MAX_DIGITS || numberCount >= MAX_NUMBERS) {
                        return false;
                    }
                    numbers[numberCount] = value;
                    numberCount++;
                    value = 0;
                    digits = 0;
                }
            }
            return true;
        }

        private boolean state(char letter, Concert concert) {
            switch (letter) {
                case 's':
                    return numberCount == 1 && concert.addSong(numbers[0]);
                case 'p':
                    return numberCount == 1 && concert.addPlayer(numbers[0]);
                case 'k':
                    return numberCount == 2 && concert.addKind(numbers[0], numbers[1]);
                case 'u':
                    return numberCount == 4 && concert.addPart(numbers[0], numbers[1], numbers[2], numbers[3]);
                case 'e':
                    return numberCount == 1 && concert.addEncore(numbers[0]);
                default:
                    return false;
            }
        }
    }

    /** The concerts before the newest edits, in a ring, so that keeping one more drops the oldest. */
    private static final class History {
        private final Concert[] concerts = new Concert[MAX_UNDO];
        private int next = 0;
        int count = 0;

        History() {
            for (int i = 0; i < MAX_UNDO; i++) {
                concerts[i] = new Concert();
            }
        }

        void forget() {
            count = 0;
        }

        void keep(Concert concert) {
            concerts[next].copyFrom(concert);
            next = (next + 1) % MAX_UNDO;
            count = Math.min(count + 1, MAX_UNDO);
        }

        void takeBack(Concert concert) {
            if (count > 0) {
                next = (next + MAX_UNDO - 1) % MAX_UNDO;
                concert.copyFrom(concerts[next]);
                count--;
            }
        }
    }

    /**
     * The allowed orders with the least cost, by dynamic programming over the sets of the songs already played
     * and the last one of them. The start, with no song played, stands at the empty set and song 0.
     */
    private static final class OrderTable {
        private static final int START = 0;

        private int songs = 0;
        /** By song and next song: the cost of the changeover. */
        private final int[] costs = new int[MAX_SONGS * MAX_SONGS];
        /** By song and position: whether the song may stand there. */
        private final boolean[] mayStand = new boolean[MAX_SONGS * MAX_SONGS];
        /** By set and last song: the least cost of what is still to come, or NONE if no allowed order goes on so. */
        private final int[] restCosts = new int[(1 << MAX_SONGS) * MAX_SONGS];
        /** By set and last song: in how many ways what is still to come has this cost. */
        private final int[] restOrders = new int[(1 << MAX_SONGS) * MAX_SONGS];

        void load(Concert concert) {
            songs = concert.songs;
            for (int song = 0; song < songs; song++) {
                for (int other = 0; other < songs; other++) {
                    int cell = song * MAX_SONGS + other;
                    costs[cell] = song == other ? 0 : concert.costOfChangeover(song, other);
                    mayStand[cell] = concert.mayStandAt(song, other);
                }
            }
        }

        /** A set comes after all sets that have a song more, for its rests are made of theirs. */
        void solve() {
            int all = (1 << songs) - 1;
            for (int last = 0; last < songs; last++) {
                restCosts[cellOf(all, last)] = 0;
                restOrders[cellOf(all, last)] = 1;
            }
            for (int set = all - 1; set > 0; set--) {
                for (int last = 0; last < songs; last++) {
                    if ((set >> last & 1) == 1) {
                        settle(set, last);
                    }
                }
            }
            settle(0, 0);
        }

        private void settle(int set, int last) {
            int least = NONE;
            int orders = 0;
            for (int next = 0; next < songs; next++) {
                int cost = costThrough(set, last, next);
                if (cost != NONE && (least == NONE || cost < least)) {
                    least = cost;
                    orders = 0;
                }
                if (cost != NONE && cost == least) {
                    orders += restOrders[cellOf(set | 1 << next, next)];
                }
            }
            restCosts[cellOf(set, last)] = least;
            restOrders[cellOf(set, last)] = orders;
        }

        /** The least cost of what is still to come if it begins with a song; NONE if that is not allowed. */
        private int costThrough(int set, int last, int next) {
            int position = Integer.bitCount(set);
            if ((set >> next & 1) == 1 || !mayStand[next * MAX_SONGS + position]) {
                return NONE;
            }
            int rest = restCosts[cellOf(set | 1 << next, next)];
            if (rest == NONE || set == 0) {
                return rest;
            }
            return costs[last * MAX_SONGS + next] + rest;
        }

        private int cellOf(int set, int last) {
            return set * MAX_SONGS + last;
        }

        int leastCost() {
            return restCosts[START];
        }

        int leastCostOrders() {
            return restOrders[START];
        }

        int leastCostFrom(int song) {
            return costThrough(0, 0, song);
        }

        /** The song at a position of the best order, or NONE if there is no allowed order. */
        int bestSong(int position) {
            int set = 0;
            int song = 0;
            for (int i = 0; i <= position; i++) {
                song = bestNext(set, song);
                if (song == NONE) {
                    return NONE;
                }
                set |= 1 << song;
            }
            return song;
        }

        void copyBestOrder(int[] order) {
            int length = Math.min(songs, order.length);
            for (int position = 0; position < length; position++) {
                order[position] = bestSong(position);
            }
        }

        /** The lowest song with which what is still to come has its least cost. */
        private int bestNext(int set, int last) {
            int least = restCosts[cellOf(set, last)];
            for (int next = 0; next < songs; next++) {
                int cost = costThrough(set, last, next);
                if (cost != NONE && cost == least) {
                    return next;
                }
            }
            return NONE;
        }
    }
}
