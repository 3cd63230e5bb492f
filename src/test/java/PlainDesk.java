import java.util.ArrayList;
import java.util.HashSet;
import java.util.List;
import java.util.Set;
import java.util.TreeMap;

/** The document once more, as plain as can be and day by day, to compare BrandRoom with. It copies nothing of it. */
final class PlainDesk {
    enum State { BOOKED, RUNNING, OVER, CANCELLED, LOST }

    static final class Rights {
        Set<Integer> lands = new HashSet<>();
        int from = 0;
        int to = 0;
    }

    static final class Order {
        int piece;
        int land;
        int medium;
        List<Integer> days = new ArrayList<>();
        State state = State.BOOKED;
        boolean cancelledAsBooked = false;
        int price;
        int moved = 0;
        int swapped = 0;
        int pulled = 0;
        boolean on = false;

        Order copy() {
            Order other = new Order();
            other.piece = piece;
            other.land = land;
            other.medium = medium;
            other.days = new ArrayList<>(days);
            other.state = state;
            other.cancelledAsBooked = cancelledAsBooked;
            other.price = price;
            other.moved = moved;
            other.swapped = swapped;
            other.pulled = pulled;
            other.on = on;
            return other;
        }

        boolean counts() {
            return state == State.BOOKED || state == State.RUNNING;
        }

        int cost() {
            if (state == State.LOST || cancelledAsBooked) {
                return 0;
            }
            int cost = price;
            for (int k = 0; k < pulled; k++) {
                cost -= price / days.size();
            }
            return cost;
        }
    }

    private final List<List<Integer>> comes = new ArrayList<>();
    private final List<Rights> rights = new ArrayList<>();
    private final List<Integer> formats = new ArrayList<>();
    private final List<List<Integer>> parts = new ArrayList<>();
    /** By piece and land the look that was approved last; none, if it is held. */
    private final TreeMap<String, List<Integer>> approved = new TreeMap<>();
    private final TreeMap<String, Integer> groups = new TreeMap<>();
    private List<Order> orders = new ArrayList<>();
    private int today = 0;

    private static void bounds(boolean right) {
        if (!right) {
            throw new IndexOutOfBoundsException();
        }
    }

    private static void argument(boolean right) {
        if (!right) {
            throw new IllegalArgumentException();
        }
    }

    private static void state(boolean right) {
        if (!right) {
            throw new IllegalStateException();
        }
    }

    private static boolean within(int number, int low, int high) {
        return low <= number && number <= high;
    }

    private boolean isAsset(int asset) {
        return within(asset, 0, comes.size() - 1);
    }

    private boolean isPiece(int piece) {
        return within(piece, 0, formats.size() - 1);
    }

    private boolean isOrder(int booking) {
        return within(booking, 0, orders.size() - 1);
    }

    int asset() {
        state(comes.size() < 16);
        comes.add(new ArrayList<>());
        rights.add(new Rights());
        return comes.size() - 1;
    }

    int version(int asset, int day) {
        bounds(isAsset(asset));
        argument(within(day, today, 99));
        state(comes.get(asset).size() < 5);
        comes.get(asset).add(day);
        return comes.get(asset).size() - 1;
    }

    int late(int asset, int days) {
        bounds(isAsset(asset));
        argument(within(days, 1, 20));
        List<Integer> told = comes.get(asset);
        state(!told.isEmpty());
        int last = told.size() - 1;
        state(told.get(last) > today);
        int then = told.get(last) + days > 99 ? 99 : told.get(last) + days;
        told.set(last, then);
        return then;
    }

    int rights(int asset, int lands, int from, int to) {
        bounds(isAsset(asset));
        argument(within(lands, 0, 15));
        argument(within(from, 0, 99) && within(to, 0, 99) && to >= from);
        int before = 0;
        for (int land : rights.get(asset).lands) {
            before += 1 << land;
        }
        Rights told = new Rights();
        for (int land = 0; land < 4; land++) {
            if ((lands & (1 << land)) > 0) {
                told.lands.add(land);
            }
        }
        told.from = from;
        told.to = to;
        rights.set(asset, told);
        return before;
    }

    private int versionThen(int asset, int day) {
        int greatest = -1;
        for (int number = 0; number < comes.get(asset).size(); number++) {
            if (comes.get(asset).get(number) <= day) {
                greatest = number;
            }
        }
        return greatest;
    }

    private boolean hasRightsThen(int asset, int land, int day) {
        Rights told = rights.get(asset);
        return told.lands.contains(land) && within(day, told.from, told.to);
    }

    int versionOn(int asset, int day) {
        bounds(isAsset(asset));
        argument(within(day, 0, 99));
        return versionThen(asset, day);
    }

    boolean hasRights(int asset, int land, int day) {
        bounds(isAsset(asset) && within(land, 0, 3));
        argument(within(day, 0, 99));
        return hasRightsThen(asset, land, day);
    }

    int piece(int format, int assets) {
        argument(within(format, 0, 2));
        argument(assets >= 1 && assets < 1L << comes.size());
        state(formats.size() < 12);
        List<Integer> set = new ArrayList<>();
        for (int k = 0; k < 16; k++) {
            if ((assets & (1 << k)) > 0) {
                set.add(k);
            }
        }
        formats.add(format);
        parts.add(set);
        return formats.size() - 1;
    }

    private List<Integer> look(int piece, int day) {
        List<Integer> look = new ArrayList<>();
        for (int asset : parts.get(piece)) {
            look.add(versionThen(asset, day));
        }
        return look;
    }

    private boolean laid(int piece, int day) {
        return !look(piece, day).contains(-1);
    }

    private boolean fit(int piece, int land, int day) {
        List<Integer> told = approved.get(piece + " " + land);
        return laid(piece, day) && told != null && told.equals(look(piece, day));
    }

    private boolean allRights(int piece, int land, int day) {
        for (int asset : parts.get(piece)) {
            if (!hasRightsThen(asset, land, day)) {
                return false;
            }
        }
        return true;
    }

    private int why(int piece, int land, int day) {
        if (!laid(piece, day)) {
            return 1;
        }
        if (!allRights(piece, land, day)) {
            return 2;
        }
        return fit(piece, land, day) ? 0 : 3;
    }

    boolean approve(int piece, int land) {
        bounds(isPiece(piece) && within(land, 0, 3));
        state(laid(piece, today));
        boolean before = fit(piece, land, today);
        approved.put(piece + " " + land, look(piece, today));
        return before;
    }

    boolean hold(int piece, int land) {
        bounds(isPiece(piece) && within(land, 0, 3));
        boolean before = fit(piece, land, today);
        approved.remove(piece + " " + land);
        return before;
    }

    int reason(int piece, int land, int day) {
        bounds(isPiece(piece) && within(land, 0, 3));
        argument(within(day, 0, 99));
        return why(piece, land, day);
    }

    boolean isFit(int piece, int land, int day) {
        bounds(isPiece(piece) && within(land, 0, 3));
        argument(within(day, 0, 99));
        return fit(piece, land, day);
    }

    int ofPiece(int piece, int what) {
        bounds(isPiece(piece));
        argument(within(what, 0, 4));
        if (what == 0) {
            return formats.get(piece);
        }
        int sum = 0;
        if (what == 1) {
            for (int asset : parts.get(piece)) {
                sum += 1 << asset;
            }
        }
        if (what == 2) {
            for (int land = 0; land < 4; land++) {
                sum += fit(piece, land, today) ? 1 : 0;
            }
        }
        if (what == 3) {
            for (Order order : orders) {
                sum += order.piece == piece && order.counts() ? 1 : 0;
            }
        }
        if (what == 4) {
            while (sum <= 99 && !laid(piece, sum)) {
                sum++;
            }
            return sum > 99 ? -1 : sum;
        }
        return sum;
    }

    private List<Integer> daysOf(int from, int to) {
        List<Integer> days = new ArrayList<>();
        for (int day = from; day <= to; day++) {
            days.add(day);
        }
        return days;
    }

    private boolean clashes(int land, int medium, List<Integer> days, int own) {
        for (int other = 0; other < orders.size(); other++) {
            Order order = orders.get(other);
            if (other != own && order.counts() && order.land == land && order.medium == medium) {
                for (int day : days) {
                    if (order.days.contains(day)) {
                        return true;
                    }
                }
            }
        }
        return false;
    }

    int book(int piece, int land, int medium, int from, int to, int base) {
        bounds(isPiece(piece) && within(land, 0, 3) && within(medium, 0, 3));
        argument(from > today && within(to, from, 99) && within(base, 1, 999));
        state(orders.size() < 16);
        Order order = new Order();
        order.piece = piece;
        order.land = land;
        order.medium = medium;
        order.days = daysOf(from, to);
        state(!clashes(land, medium, order.days, -1));
        order.price = price(from, to, base);
        orders.add(order);
        return orders.size() - 1;
    }

    int cancel(int booking) {
        bounds(isOrder(booking));
        Order order = orders.get(booking);
        state(order.counts());
        order.cancelledAsBooked = order.state == State.BOOKED;
        order.state = State.CANCELLED;
        order.on = false;
        return order.cost();
    }

    private boolean swappable(Order order, int piece) {
        if (piece == order.piece || !formats.get(piece).equals(formats.get(order.piece))) {
            return false;
        }
        if (!fit(piece, order.land, today)) {
            return false;
        }
        for (int day : order.days) {
            if (!allRights(piece, order.land, day)) {
                return false;
            }
        }
        for (Order other : orders) {
            if (other.counts() && other.land == order.land && other.piece == piece) {
                return false;
            }
        }
        return true;
    }

    private int bestSwap(Order order) {
        for (int piece = 0; piece < formats.size(); piece++) {
            if (swappable(order, piece)) {
                return piece;
            }
        }
        return -1;
    }

    int swap(int booking, int piece) {
        bounds(isOrder(booking) && isPiece(piece));
        Order order = orders.get(booking);
        state(order.state == State.BOOKED);
        state(swappable(order, piece));
        int before = order.piece;
        order.piece = piece;
        order.swapped++;
        return before;
    }

    int ofBooking(int booking, int what) {
        bounds(isOrder(booking));
        argument(within(what, 0, 11));
        Order order = orders.get(booking);
        int first = order.days.get(0);
        int last = order.days.get(order.days.size() - 1);
        int[] all = {order.piece, order.land, order.medium, first, last, order.state.ordinal(), order.price,
            order.cost(), order.moved, order.pulled, order.on ? 1 : 0, order.swapped};
        return all[what];
    }

    int day() {
        state(today < 99);
        today++;
        for (Order order : orders) {
            if (order.state == State.RUNNING && order.days.get(order.days.size() - 1) == today - 1) {
                order.state = State.OVER;
            }
        }
        int touched = 0;
        for (int own = 0; own < orders.size(); own++) {
            Order order = orders.get(own);
            if (order.state != State.BOOKED) {
                continue;
            }
            if (order.days.get(0) - 3 == today && !fit(order.piece, order.land, today)) {
                touched++;
                deadline(own, order);
            }
            if (order.state == State.BOOKED && order.days.get(0) == today) {
                order.state = State.RUNNING;
            }
        }
        for (Order order : orders) {
            order.on = order.state == State.RUNNING && why(order.piece, order.land, today) == 0;
            if (order.state == State.RUNNING && !order.on) {
                order.pulled++;
            }
        }
        return touched;
    }

    private void deadline(int own, Order order) {
        int next = bestSwap(order);
        if (next >= 0) {
            order.piece = next;
            order.swapped++;
            return;
        }
        List<Integer> later = new ArrayList<>();
        boolean above = false;
        for (int day : order.days) {
            later.add(day + 2);
            above = above || day + 2 > 99;
        }
        if (above || order.moved == 3 || clashes(order.land, order.medium, later, own)) {
            order.state = State.LOST;
            return;
        }
        order.days = later;
        order.price += order.price / 5;
        order.moved++;
    }

    int at(int land, int medium, int day) {
        bounds(within(land, 0, 3) && within(medium, 0, 3));
        argument(within(day, 0, 99));
        for (int k = 0; k < orders.size(); k++) {
            Order order = orders.get(k);
            if ((order.counts() || order.state == State.OVER) && order.land == land && order.medium == medium
                    && order.days.contains(day)) {
                return k;
            }
        }
        return -1;
    }

    int many(int what) {
        argument(within(what, 0, 10));
        if (what == 0) {
            return comes.size();
        }
        if (what == 1) {
            return formats.size();
        }
        if (what == 10) {
            return today;
        }
        int sum = 0;
        for (Order order : orders) {
            if (what == 2 || what == 8 && order.on || order.state.ordinal() == what - 3) {
                sum++;
            }
            if (what == 9) {
                sum += order.cost();
            }
        }
        return sum;
    }

    double meanPrice() {
        double sum = 0;
        for (Order order : orders) {
            sum += order.price;
        }
        return orders.isEmpty() ? 0 : sum / orders.size();
    }

    int groups(int medium, int land, int set) {
        bounds(within(medium, 0, 3) && within(land, 0, 3));
        argument(within(set, 0, 1023));
        Integer before = groups.put(medium + " " + land, set);
        return before == null ? 0 : before;
    }

    private int reached(int land, Order also) {
        int count = 0;
        for (int group = 0; group <= 9; group++) {
            boolean seen = false;
            for (Order order : orders) {
                int set = groups.getOrDefault(order.medium + " " + order.land, 0);
                if (order.land == land && (order.on || order == also) && (set & (1 << group)) > 0) {
                    seen = true;
                }
            }
            count += seen ? 1 : 0;
        }
        return count;
    }

    int reach(int land) {
        bounds(within(land, 0, 3));
        return reached(land, null);
    }

    int price(int from, int to, int base) {
        argument(from > today && within(to, from, 99) && within(base, 1, 999));
        int plain = 0;
        for (int day = from; day <= to; day++) {
            plain += base;
        }
        int price = plain;
        for (int day = from - 10; day < today; day++) {
            price += plain / 10;
        }
        return price;
    }

    int swapFor(int booking) {
        bounds(isOrder(booking));
        return bestSwap(orders.get(booking));
    }

    int offIn(int booking) {
        bounds(isOrder(booking));
        Order order = orders.get(booking);
        int off = 0;
        for (int day : order.days) {
            off += day >= today && why(order.piece, order.land, day) != 0 ? 1 : 0;
        }
        return off;
    }

    int lostIn(int days) {
        argument(within(days, 1, 30));
        int now = today;
        List<Order> kept = orders;
        orders = new ArrayList<>();
        for (Order order : kept) {
            orders.add(order.copy());
        }
        for (int k = 0; k < days && today < 99; k++) {
            day();
        }
        int lost = 0;
        for (int k = 0; k < kept.size(); k++) {
            lost += kept.get(k).state != State.LOST && orders.get(k).state == State.LOST ? 1 : 0;
        }
        orders = kept;
        today = now;
        return lost;
    }

    int reachWith(int booking) {
        bounds(isOrder(booking) && orders.get(booking).counts());
        return reached(orders.get(booking).land, orders.get(booking));
    }

    long digest() {
        List<Integer> all = new ArrayList<>();
        for (int what = 0; what <= 10; what++) {
            all.add(many(what));
        }
        for (int asset = 0; asset < comes.size(); asset++) {
            all.add(versionOn(asset, today));
            all.add(versionOn(asset, 99));
        }
        for (int piece = 0; piece < formats.size(); piece++) {
            for (int what = 0; what <= 4; what++) {
                all.add(ofPiece(piece, what));
            }
            for (int land = 0; land <= 3; land++) {
                all.add(why(piece, land, today));
            }
        }
        for (int booking = 0; booking < orders.size(); booking++) {
            for (int what = 0; what <= 11; what++) {
                all.add(ofBooking(booking, what));
            }
            all.add(swapFor(booking));
            all.add(offIn(booking));
        }
        for (int land = 0; land <= 3; land++) {
            all.add(reach(land));
        }
        all.add(lostIn(20));
        long d = 5741;
        for (int v : all) {
            d = d * 31 + v;
        }
        return d;
    }
}
