import java.util.ArrayList;
import java.util.Arrays;

/** A campaign desk. What each call promises stands in DOC.md; its terms are used here as they are there. */
public final class BrandRoom {
    private static final int NONE = -1;
    private static final int LANDS = 4;
    private static final int ALL_LANDS = 15;
    private static final int FORMATS = 3;
    private static final int MEDIA = 4;
    private static final int ALL_GROUPS = 1023;
    private static final int LAST_DAY = 99;

    private static final int MAX_ASSETS = 16;
    private static final int MAX_VERSIONS = 5;
    private static final int MAX_PIECES = 12;
    private static final int MAX_BOOKINGS = 16;
    private static final int MAX_BASE = 999;
    private static final int MAX_LATE = 20;
    private static final int MAX_DAYS_AHEAD = 30;

    private static final int NOT_LAID = 1;
    private static final int NO_RIGHTS = 2;
    private static final int NOT_FIT = 3;

    private static final int BOOKED = 0;
    private static final int RUNNING = 1;
    private static final int OVER = 2;
    private static final int CANCELLED = 3;
    private static final int LOST = 4;

    private final ArrayList<Asset> assets;
    private final int[] groupSets;
    private final Plan plan;
    /** What would be is tried out here, so that the plan itself stays as it is. */
    private final Plan trial;

    public BrandRoom() {
        assets = new ArrayList<>();
        groupSets = new int[MEDIA * LANDS];
        plan = new Plan();
        trial = new Plan();
    }

    // ---- assets

    public int asset() throws IllegalStateException {
        if (assets.size() >= MAX_ASSETS) {
            throw new IllegalStateException("there are 16 assets");
        }
        assets.add(new Asset());
        return assets.size() - 1;
    }

    public int version(int asset, int day)
            throws IndexOutOfBoundsException, IllegalArgumentException, IllegalStateException {
        Asset told = assetAt(asset);
        if (day < plan.today || day > LAST_DAY) {
            throw new IllegalArgumentException("day is not today to 99");
        }
        int number = told.addVersion(day);
        if (number == NONE) {
            throw new IllegalStateException("there are 5 versions");
        }
        return number;
    }

    public int late(int asset, int days)
            throws IndexOutOfBoundsException, IllegalArgumentException, IllegalStateException {
        Asset told = assetAt(asset);
        if (days < 1 || days > MAX_LATE) {
            throw new IllegalArgumentException("days is not 1 to 20");
        }
        int planned = told.lastComes();
        if (planned == NONE || planned <= plan.today) {
            throw new IllegalStateException("no version is still to come");
        }
        int comes = Math.min(planned + days, LAST_DAY);
        told.putLast(comes);
        return comes;
    }

    public int rights(int asset, int lands, int from, int to)
            throws IndexOutOfBoundsException, IllegalArgumentException {
        Asset told = assetAt(asset);
        if (lands < 0 || lands > ALL_LANDS) {
            throw new IllegalArgumentException("lands is not 0 to 15");
        }
        needDay(from);
        needDay(to);
        if (to < from) {
            throw new IllegalArgumentException("to is below from");
        }
        int before = told.lands;
        told.grant(lands, from, to);
        return before;
    }

    public int versionOn(int asset, int day) throws IndexOutOfBoundsException, IllegalArgumentException {
        Asset asked = assetAt(asset);
        needDay(day);
        return asked.versionAt(day);
    }

    public boolean hasRights(int asset, int land, int day)
            throws IndexOutOfBoundsException, IllegalArgumentException {
        Asset asked = assetAt(asset);
        needLand(land);
        needDay(day);
        return asked.isGranted(land, day, day);
    }

    // ---- pieces

    public int piece(int format, int assets) throws IllegalArgumentException, IllegalStateException {
        if (format < 0 || format >= FORMATS) {
            throw new IllegalArgumentException("format is not 0 to 2");
        }
        if (assets < 1 || (assets >> this.assets.size()) != 0) {
            throw new IllegalArgumentException("assets is empty, or has one that there is not");
        }
        if (plan.pieces.size() >= MAX_PIECES) {
            throw new IllegalStateException("there are 12 pieces");
        }
        Piece added = new Piece(plan.pieces.size(), format, assets);
        for (int k = 0; k < this.assets.size(); k++) {
            if ((assets >> k & 1) != 0) {
                added.parts.add(this.assets.get(k));
            }
        }
        plan.pieces.add(added);
        return added.number;
    }

    public boolean approve(int piece, int land) throws IndexOutOfBoundsException, IllegalStateException {
        Piece told = pieceAt(piece);
        needLand(land);
        if (!told.isLaidOn(plan.today)) {
            throw new IllegalStateException("the piece is not laid");
        }
        boolean wasFit = told.isFitOn(land, plan.today);
        told.approveLook(land, plan.today);
        return wasFit;
    }

    public boolean hold(int piece, int land) throws IndexOutOfBoundsException {
        Piece told = pieceAt(piece);
        needLand(land);
        boolean wasFit = told.isFitOn(land, plan.today);
        told.dropApproval(land);
        return wasFit;
    }

    public int reason(int piece, int land, int day) throws IndexOutOfBoundsException, IllegalArgumentException {
        Piece asked = pieceAt(piece);
        needLand(land);
        needDay(day);
        return asked.reasonOn(land, day);
    }

    public boolean isFit(int piece, int land, int day) throws IndexOutOfBoundsException, IllegalArgumentException {
        Piece asked = pieceAt(piece);
        needLand(land);
        needDay(day);
        return asked.isFitOn(land, day);
    }

    public int ofPiece(int piece, int what) throws IndexOutOfBoundsException, IllegalArgumentException {
        Piece asked = pieceAt(piece);
        switch (what) {
            case 0:
                return asked.format;
            case 1:
                return asked.assetSet;
            case 2:
                return asked.landsFitOn(plan.today);
            case 3:
                return plan.openBookingsOf(asked);
            case 4:
                return asked.firstLaidDay();
            default:
                throw new IllegalArgumentException("what is not 0 to 4");
        }
    }

    // ---- bookings

    public int book(int piece, int land, int medium, int from, int to, int base)
            throws IndexOutOfBoundsException, IllegalArgumentException, IllegalStateException {
        Piece shown = pieceAt(piece);
        needLand(land);
        needMedium(medium);
        needOffer(from, to, base);
        if (plan.bookings.size() >= MAX_BOOKINGS) {
            throw new IllegalStateException("there were 16 bookings");
        }
        if (plan.isTaken(land, medium, from, to, null)) {
            throw new IllegalStateException("another booking has one of these days");
        }
        plan.bookings.add(new Booking(shown, land, medium, from, to, plan.priceToday(from, to, base)));
        return plan.bookings.size() - 1;
    }

    public int cancel(int booking) throws IndexOutOfBoundsException, IllegalStateException {
        Booking told = bookingAt(booking);
        if (!told.isOpen()) {
            throw new IllegalStateException("the booking is neither booked nor running");
        }
        told.giveUp();
        return told.costNow();
    }

    public int swap(int booking, int piece) throws IndexOutOfBoundsException, IllegalStateException {
        Booking told = bookingAt(booking);
        Piece next = pieceAt(piece);
        if (told.state != BOOKED || !plan.canSwap(told, next)) {
            throw new IllegalStateException("the piece cannot be swapped for that of the booking");
        }
        int before = told.piece.number;
        told.takePiece(next);
        return before;
    }

    public int ofBooking(int booking, int what) throws IndexOutOfBoundsException, IllegalArgumentException {
        Booking asked = bookingAt(booking);
        switch (what) {
            case 0:
                return asked.piece.number;
            case 1:
                return asked.land;
            case 2:
                return asked.medium;
            case 3:
                return asked.from;
            case 4:
                return asked.to;
            case 5:
                return asked.state;
            case 6:
                return asked.price;
            case 7:
                return asked.costNow();
            case 8:
                return asked.moved;
            case 9:
                return asked.pulled;
            case 10:
                return asked.on ? 1 : 0;
            case 11:
                return asked.swapped;
            default:
                throw new IllegalArgumentException("what is not 0 to 11");
        }
    }

    public int day() throws IllegalStateException {
        if (plan.today >= LAST_DAY) {
            throw new IllegalStateException("today is 99");
        }
        return plan.beginDay();
    }

    public int at(int land, int medium, int day) throws IndexOutOfBoundsException, IllegalArgumentException {
        needLand(land);
        needMedium(medium);
        needDay(day);
        return plan.bookingShownAt(land, medium, day);
    }

    public int many(int what) throws IllegalArgumentException {
        switch (what) {
            case 0:
                return assets.size();
            case 1:
                return plan.pieces.size();
            case 2:
                return plan.bookings.size();
            case 3:
            case 4:
            case 5:
            case 6:
            case 7:
                return plan.countInState(what - 3);
            case 8:
                return plan.countOn();
            case 9:
                return plan.costOfAll();
            case 10:
                return plan.today;
            default:
                throw new IllegalArgumentException("what is not 0 to 10");
        }
    }

    public double meanPrice() {
        int count = plan.bookings.size();
        if (count == 0) {
            return 0;
        }
        return (double) plan.sumOfPrices() / count;
    }

    // ---- reach

    public int groups(int medium, int land, int groups) throws IndexOutOfBoundsException, IllegalArgumentException {
        needMedium(medium);
        needLand(land);
        if (groups < 0 || groups > ALL_GROUPS) {
            throw new IllegalArgumentException("groups is not 0 to 1023");
        }
        int place = medium * LANDS + land;
        int before = groupSets[place];
        groupSets[place] = groups;
        return before;
    }

    public int reach(int land) throws IndexOutOfBoundsException {
        needLand(land);
        return Integer.bitCount(groupsReached(land));
    }

    // ---- what would be (nothing is changed)

    public int price(int from, int to, int base) throws IllegalArgumentException {
        needOffer(from, to, base);
        return plan.priceToday(from, to, base);
    }

    public int swapFor(int booking) throws IndexOutOfBoundsException {
        Piece found = plan.firstSwap(bookingAt(booking));
        return found == null ? NONE : found.number;
    }

    public int offIn(int booking) throws IndexOutOfBoundsException {
        Booking asked = bookingAt(booking);
        int off = 0;
        for (int day = Math.max(asked.from, plan.today); day <= asked.to; day++) {
            if (asked.piece.reasonOn(asked.land, day) != 0) {
                off++;
            }
        }
        return off;
    }

    public int lostIn(int days) throws IllegalArgumentException {
        if (days < 1 || days > MAX_DAYS_AHEAD) {
            throw new IllegalArgumentException("days is not 1 to 30");
        }
        trial.copyFrom(plan);
        int ahead = Math.min(days, LAST_DAY - plan.today);
        for (int i = 0; i < ahead; i++) {
            trial.beginDay();
        }
        return trial.countInState(LOST) - plan.countInState(LOST);
    }

    public int reachWith(int booking) throws IndexOutOfBoundsException {
        Booking asked = bookingAt(booking);
        if (!asked.isOpen()) {
            throw new IndexOutOfBoundsException("the booking is neither booked nor running");
        }
        return Integer.bitCount(groupsReached(asked.land) | groupsOf(asked.medium, asked.land));
    }

    public long digest() {
        long sum = 5741;
        for (int what = 0; what <= 10; what++) {
            sum = sum * 31 + many(what);
        }
        for (int i = 0; i < assets.size(); i++) {
            sum = sum * 31 + versionOn(i, plan.today);
            sum = sum * 31 + versionOn(i, LAST_DAY);
        }
        for (int i = 0; i < plan.pieces.size(); i++) {
            sum = addPiece(sum, i);
        }
        for (int i = 0; i < plan.bookings.size(); i++) {
            sum = addBooking(sum, i);
        }
        for (int land = 0; land < LANDS; land++) {
            sum = sum * 31 + reach(land);
        }
        return sum * 31 + lostIn(20);
    }

    private long addPiece(long sum, int piece) {
        long added = sum;
        for (int what = 0; what <= 4; what++) {
            added = added * 31 + ofPiece(piece, what);
        }
        for (int land = 0; land < LANDS; land++) {
            added = added * 31 + reason(piece, land, plan.today);
        }
        return added;
    }

    private long addBooking(long sum, int booking) {
        long added = sum;
        for (int what = 0; what <= 11; what++) {
            added = added * 31 + ofBooking(booking, what);
        }
        added = added * 31 + swapFor(booking);
        return added * 31 + offIn(booking);
    }

    private int groupsReached(int land) {
        int reached = 0;
        for (int i = 0; i < plan.bookings.size(); i++) {
            Booking shown = plan.bookings.get(i);
            if (shown.on && shown.land == land) {
                reached |= groupsOf(shown.medium, land);
            }
        }
        return reached;
    }

    private int groupsOf(int medium, int land) {
        return isMedium(medium) && isLand(land) ? groupSets[medium * LANDS + land] : 0;
    }

    private Asset assetAt(int number) {
        if (number < 0 || number >= assets.size()) {
            throw new IndexOutOfBoundsException("no such asset");
        }
        return assets.get(number);
    }

    private Piece pieceAt(int number) {
        if (number < 0 || number >= plan.pieces.size()) {
            throw new IndexOutOfBoundsException("no such piece");
        }
        return plan.pieces.get(number);
    }

    private Booking bookingAt(int number) {
        if (number < 0 || number >= plan.bookings.size()) {
            throw new IndexOutOfBoundsException("no such booking");
        }
        return plan.bookings.get(number);
    }

    private void needOffer(int from, int to, int base) {
        if (from <= plan.today) {
            throw new IllegalArgumentException("from is not above today");
        }
        if (to < from || to > LAST_DAY) {
            throw new IllegalArgumentException("to is not from to 99");
        }
        if (base < 1 || base > MAX_BASE) {
            throw new IllegalArgumentException("base is not 1 to 999");
        }
    }

    private static void needLand(int land) {
        if (!isLand(land)) {
            throw new IndexOutOfBoundsException("no such land");
        }
    }

    private static void needMedium(int medium) {
        if (!isMedium(medium)) {
            throw new IndexOutOfBoundsException("no such medium");
        }
    }

    private static void needDay(int day) {
        if (day < 0 || day > LAST_DAY) {
            throw new IllegalArgumentException("a day is not 0 to 99");
        }
    }

    private static boolean isLand(int land) {
        return land >= 0 && land < LANDS;
    }

    private static boolean isMedium(int medium) {
        return medium >= 0 && medium < MEDIA;
    }

    private static final class Asset {
        /** Stands where there is no version yet, so that every day is ahead of it. */
        private static final int NEVER = LAST_DAY + 1;

        private final int[] comes = new int[MAX_VERSIONS];
        private int versions = 0;
        private int lands = 0;
        private int from = 0;
        private int to = 0;

        Asset() {
            Arrays.fill(comes, NEVER);
        }

        /** NONE if it has all its versions. */
        int addVersion(int day) {
            if (versions < 0 || versions >= comes.length) {
                return NONE;
            }
            comes[versions] = day;
            versions++;
            return versions - 1;
        }

        int lastComes() {
            return hasLast() ? comes[versions - 1] : NONE;
        }

        void putLast(int day) {
            if (hasLast()) {
                comes[versions - 1] = day;
            }
        }

        private boolean hasLast() {
            return versions >= 1 && versions <= comes.length;
        }

        int versionAt(int day) {
            for (int v = comes.length - 1; v >= 0; v--) {
                if (comes[v] <= day) {
                    return v;
                }
            }
            return NONE;
        }

        /** NEVER if it has no version: one with a greater number may come ahead of the others. */
        int firstComes() {
            int first = NEVER;
            for (int v = 0; v < comes.length; v++) {
                first = Math.min(first, comes[v]);
            }
            return first;
        }

        void grant(int newLands, int newFrom, int newTo) {
            lands = newLands;
            from = newFrom;
            to = newTo;
        }

        boolean isGranted(int land, int firstDay, int lastDay) {
            return (lands >> land & 1) != 0 && from <= firstDay && lastDay <= to;
        }
    }

    private static final class Piece {
        private final int number;
        private final int format;
        private final int assetSet;
        private final ArrayList<Asset> parts = new ArrayList<>();
        /** By land and part the version that was approved; NONE, which no look has, if it is not approved. */
        private final int[][] approved = new int[LANDS][MAX_ASSETS];

        Piece(int number, int format, int assetSet) {
            this.number = number;
            this.format = format;
            this.assetSet = assetSet;
            for (int land = 0; land < approved.length; land++) {
                Arrays.fill(approved[land], NONE);
            }
        }

        boolean isLaidOn(int day) {
            for (int k = 0; k < parts.size(); k++) {
                if (parts.get(k).versionAt(day) == NONE) {
                    return false;
                }
            }
            return true;
        }

        boolean isFitOn(int land, int day) {
            if (land < 0 || land >= approved.length) {
                return false;
            }
            int[] look = approved[land];
            for (int k = 0; k < parts.size() && k < look.length; k++) {
                int version = parts.get(k).versionAt(day);
                if (version == NONE || version != look[k]) {
                    return false;
                }
            }
            return true;
        }

        boolean isGrantedOn(int land, int firstDay, int lastDay) {
            for (int k = 0; k < parts.size(); k++) {
                if (!parts.get(k).isGranted(land, firstDay, lastDay)) {
                    return false;
                }
            }
            return true;
        }

        int reasonOn(int land, int day) {
            if (!isLaidOn(day)) {
                return NOT_LAID;
            }
            if (!isGrantedOn(land, day, day)) {
                return NO_RIGHTS;
            }
            return isFitOn(land, day) ? 0 : NOT_FIT;
        }

        void approveLook(int land, int day) {
            if (land < 0 || land >= approved.length) {
                return;
            }
            int[] look = approved[land];
            for (int k = 0; k < parts.size() && k < look.length; k++) {
                look[k] = parts.get(k).versionAt(day);
            }
        }

        void dropApproval(int land) {
            if (land >= 0 && land < approved.length) {
                Arrays.fill(approved[land], NONE);
            }
        }

        int landsFitOn(int day) {
            int fit = 0;
            for (int land = 0; land < LANDS; land++) {
                if (isFitOn(land, day)) {
                    fit++;
                }
            }
            return fit;
        }

        int firstLaidDay() {
            int first = 0;
            for (int k = 0; k < parts.size(); k++) {
                first = Math.max(first, parts.get(k).firstComes());
            }
            return first > LAST_DAY ? NONE : first;
        }
    }

    private static final class Booking {
        private static final int DEADLINE_AHEAD = 3;
        private static final int MOVED_BY = 2;
        private static final int MAX_MOVES = 3;

        private Piece piece;
        private int land;
        private int medium;
        private int from;
        private int to;
        private int price;
        private int state = BOOKED;
        private int moved = 0;
        private int pulled = 0;
        private int swapped = 0;
        private boolean on = false;
        /** It was cancelled before it ran: the state alone does not tell that. */
        private boolean free = false;

        Booking(Piece piece, int land, int medium, int from, int to, int price) {
            this.piece = piece;
            this.land = land;
            this.medium = medium;
            this.from = from;
            this.to = to;
            this.price = price;
        }

        Booking(Booking other) {
            setTo(other);
        }

        private void setTo(Booking other) {
            piece = other.piece;
            land = other.land;
            medium = other.medium;
            from = other.from;
            to = other.to;
            price = other.price;
            state = other.state;
            moved = other.moved;
            pulled = other.pulled;
            swapped = other.swapped;
            on = other.on;
            free = other.free;
        }

        /** BOOKED or RUNNING: only these keep their days from others. */
        boolean isOpen() {
            return state == BOOKED || state == RUNNING;
        }

        boolean isIn(int otherLand, int otherMedium) {
            return land == otherLand && medium == otherMedium;
        }

        boolean hasDayIn(int first, int last) {
            return from <= last && first <= to;
        }

        int costNow() {
            int days = to - from + 1;
            if (free || state == LOST || days <= 0) {
                return 0;
            }
            return price - pulled * (price / days);
        }

        void giveUp() {
            free = state == BOOKED;
            state = CANCELLED;
            on = false;
        }

        void takePiece(Piece next) {
            piece = next;
            swapped++;
        }

        boolean missesDeadline(int today) {
            return state == BOOKED && today == from - DEADLINE_AHEAD && !piece.isFitOn(land, today);
        }

        boolean mayMove() {
            return moved < MAX_MOVES && to + MOVED_BY <= LAST_DAY;
        }

        void moveOn() {
            from += MOVED_BY;
            to += MOVED_BY;
            price += price / 5;
            moved++;
        }

        void endIfPast(int today) {
            if (state == RUNNING && to < today) {
                state = OVER;
                on = false;
            }
        }

        void startIfDue(int today) {
            if (state == BOOKED && from == today) {
                state = RUNNING;
            }
        }

        void showOrPull(int today) {
            if (state != RUNNING) {
                return;
            }
            on = piece.reasonOn(land, today) == 0;
            if (!on) {
                pulled++;
            }
        }
    }

    /** TODAY, the bookings, which change as a day begins, and the pieces that may be swapped for theirs. */
    private static final class Plan {
        private static final int EARLY_AHEAD = 10;

        private final ArrayList<Booking> bookings = new ArrayList<>();
        private ArrayList<Piece> pieces = new ArrayList<>();
        private int today = 0;

        /** Uses its rows again, as a run may ask often; no day changes a piece, so the pieces are shared. */
        void copyFrom(Plan other) {
            today = other.today;
            pieces = other.pieces;
            for (int i = 0; i < other.bookings.size(); i++) {
                Booking row = other.bookings.get(i);
                if (i < bookings.size()) {
                    bookings.get(i).setTo(row);
                } else {
                    bookings.add(new Booking(row));
                }
            }
        }

        /** How many bookings are moved, swapped, or lost. */
        int beginDay() {
            today++;
            for (int i = 0; i < bookings.size(); i++) {
                bookings.get(i).endIfPast(today);
            }
            int changed = 0;
            for (int i = 0; i < bookings.size(); i++) {
                Booking row = bookings.get(i);
                if (row.missesDeadline(today)) {
                    settle(row, firstSwap(row));
                    changed++;
                }
                row.startIfDue(today);
            }
            for (int i = 0; i < bookings.size(); i++) {
                bookings.get(i).showOrPull(today);
            }
            return changed;
        }

        private void settle(Booking row, Piece next) {
            if (next != null) {
                row.takePiece(next);
            } else if (row.mayMove() && !isTaken(row.land, row.medium,
                    row.from + Booking.MOVED_BY, row.to + Booking.MOVED_BY, row)) {
                row.moveOn();
            } else {
                row.state = LOST;
            }
        }

        boolean isTaken(int land, int medium, int from, int to, Booking except) {
            for (int i = 0; i < bookings.size(); i++) {
                Booking row = bookings.get(i);
                if (row != except && row.isOpen() && row.isIn(land, medium) && row.hasDayIn(from, to)) {
                    return true;
                }
            }
            return false;
        }

        Piece firstSwap(Booking row) {
            for (int i = 0; i < pieces.size(); i++) {
                if (canSwap(row, pieces.get(i))) {
                    return pieces.get(i);
                }
            }
            return null;
        }

        boolean canSwap(Booking row, Piece next) {
            return next != row.piece && next.format == row.piece.format
                    && next.isFitOn(row.land, today)
                    && next.isGrantedOn(row.land, row.from, row.to)
                    && !isUsedIn(row.land, next);
        }

        private boolean isUsedIn(int land, Piece piece) {
            for (int i = 0; i < bookings.size(); i++) {
                Booking row = bookings.get(i);
                if (row.isOpen() && row.land == land && row.piece == piece) {
                    return true;
                }
            }
            return false;
        }

        int openBookingsOf(Piece piece) {
            int count = 0;
            for (int i = 0; i < bookings.size(); i++) {
                Booking row = bookings.get(i);
                if (row.isOpen() && row.piece == piece) {
                    count++;
                }
            }
            return count;
        }

        int bookingShownAt(int land, int medium, int day) {
            for (int i = 0; i < bookings.size(); i++) {
                Booking row = bookings.get(i);
                if ((row.isOpen() || row.state == OVER) && row.isIn(land, medium) && row.hasDayIn(day, day)) {
                    return i;
                }
            }
            return NONE;
        }

        int priceToday(int from, int to, int base) {
            int plain = base * (to - from + 1);
            int daysBehind = Math.max(0, today - (from - EARLY_AHEAD));
            return plain + daysBehind * (plain / 10);
        }

        int countInState(int state) {
            int count = 0;
            for (int i = 0; i < bookings.size(); i++) {
                if (bookings.get(i).state == state) {
                    count++;
                }
            }
            return count;
        }

        int countOn() {
            int count = 0;
            for (int i = 0; i < bookings.size(); i++) {
                if (bookings.get(i).on) {
                    count++;
                }
            }
            return count;
        }

        int costOfAll() {
            int sum = 0;
            for (int i = 0; i < bookings.size(); i++) {
                sum += bookings.get(i).costNow();
            }
            return sum;
        }

        int sumOfPrices() {
            int sum = 0;
            for (int i = 0; i < bookings.size(); i++) {
                sum += bookings.get(i).price;
            }
            return sum;
        }
    }
}
