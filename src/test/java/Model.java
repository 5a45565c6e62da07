import java.util.ArrayList;
import java.util.Collections;
import java.util.List;

/** A second town, written from the document and not from the class, without care for speed or room. */
final class Model {
    static final class Lane {
        int pitches;
        int[] passers = new int[24];
        int[] taste = {5, 5, 5, 5, 5, 5};
        int[] weary = new int[6];
        int given;
        int banishments;
    }

    static final class Player {
        int lane;
        int pitch;
        int toGo;
        int loudness;
        int coins;
        String barrel = "1";
        int place;
        int[] wear = new int[6];
        int[] complaints = new int[6];
        int[] banished = new int[6];

        int tune() {
            return barrel.charAt(place) - '1';
        }

        int sound(int someLane, int somePitch) {
            boolean stands = toGo == 0 && lane == someLane;
            return stands ? Math.max(loudness - Math.abs(pitch - somePitch), 0) : 0;
        }
    }

    List<Lane> lanes = new ArrayList<>();
    List<Player> players = new ArrayList<>();
    int hour;
    String paper = "";

    Model copy() {
        Model other = new Model();
        for (Lane each : lanes) {
            Lane lane = new Lane();
            lane.pitches = each.pitches;
            lane.passers = each.passers.clone();
            lane.taste = each.taste.clone();
            lane.weary = each.weary.clone();
            lane.given = each.given;
            lane.banishments = each.banishments;
            other.lanes.add(lane);
        }
        for (Player each : players) {
            Player player = new Player();
            player.lane = each.lane;
            player.pitch = each.pitch;
            player.toGo = each.toGo;
            player.loudness = each.loudness;
            player.coins = each.coins;
            player.barrel = each.barrel;
            player.place = each.place;
            player.wear = each.wear.clone();
            player.complaints = each.complaints.clone();
            player.banished = each.banished.clone();
            other.players.add(player);
        }
        other.hour = hour;
        other.paper = paper;
        return other;
    }

    private static void index(boolean holds) {
        if (!holds) {
            throw new IndexOutOfBoundsException();
        }
    }

    private static void argument(boolean holds) {
        if (!holds) {
            throw new IllegalArgumentException();
        }
    }

    private static void state(boolean holds) {
        if (!holds) {
            throw new IllegalStateException();
        }
    }

    private static boolean within(int value, int least, int greatest) {
        return least <= value && value <= greatest;
    }

    private boolean isLane(int s) {
        return within(s, 0, lanes.size() - 1);
    }

    private boolean isPlayer(int o) {
        return within(o, 0, players.size() - 1);
    }

    int build(int pitches) {
        argument(within(pitches, 3, 20));
        state(lanes.size() < 6);
        Lane lane = new Lane();
        lane.pitches = pitches;
        lanes.add(lane);
        return lanes.size() - 1;
    }

    int setPassers(int s, int h, int passers) {
        index(isLane(s) && within(h, 0, 23));
        argument(within(passers, 0, 99));
        int before = lanes.get(s).passers[h];
        lanes.get(s).passers[h] = passers;
        return before;
    }

    int setTaste(int s, int tune, int taste) {
        index(isLane(s) && within(tune, 0, 5));
        argument(within(taste, 0, 9));
        int before = lanes.get(s).taste[tune];
        lanes.get(s).taste[tune] = taste;
        return before;
    }

    int street(int s, int what) {
        index(isLane(s) && within(what, 0, 7));
        Lane lane = lanes.get(s);
        int standing = 0;
        int complaints = 0;
        for (Player player : players) {
            standing += player.toGo == 0 && player.lane == s ? 1 : 0;
            complaints += player.complaints[s];
        }
        int drowned = 0;
        int clear = 0;
        for (int p = 0; p < lane.pitches; p++) {
            drowned += heard(s, p) == -2 ? 1 : 0;
            clear += heard(s, p) >= 0 ? 1 : 0;
        }
        int[] facts = {lane.pitches, lane.passers[hour % 24], standing, complaints, lane.given, lane.banishments, drowned, clear};
        return facts[what];
    }

    int ear(int s, int tune, boolean isTaste) {
        index(isLane(s) && within(tune, 0, 5));
        return (isTaste ? lanes.get(s).taste : lanes.get(s).weary)[tune];
    }

    int addOrgan(int s, int pitch, int loudness) {
        index(isLane(s) && within(pitch, 0, lanes.get(s).pitches - 1));
        argument(within(loudness, 1, 9));
        state(players.size() < 8);
        Player player = new Player();
        player.lane = s;
        player.pitch = pitch;
        player.loudness = loudness;
        players.add(player);
        return players.size() - 1;
    }

    int setBarrel(int o, int barrel) {
        index(isPlayer(o));
        argument(String.valueOf(barrel).matches("[1-6]{1,8}"));
        Player player = players.get(o);
        int before = Integer.parseInt(player.barrel);
        player.barrel = String.valueOf(barrel);
        player.place = 0;
        player.wear = new int[6];
        return before;
    }

    int send(int o, int s, int pitch) {
        index(isPlayer(o) && isLane(s) && within(pitch, 0, lanes.get(s).pitches - 1));
        Player player = players.get(o);
        state(player.banished[s] == 0);
        int hours = 2 * Math.abs(player.lane - s);
        if (player.lane == s) {
            hours = Math.abs(player.pitch - pitch) / 5;
        }
        player.lane = s;
        player.pitch = pitch;
        player.toGo = hours;
        return hours;
    }

    int organ(int o, int what) {
        index(isPlayer(o) && within(what, 0, 10));
        Player player = players.get(o);
        int complaints = 0;
        int banished = 0;
        for (int s = 0; s < 6; s++) {
            complaints += player.complaints[s];
            banished += player.banished[s] > 0 ? 1 : 0;
        }
        int[] facts = {player.lane, player.pitch, player.toGo, player.loudness, player.coins, Integer.parseInt(player.barrel),
            player.place, player.tune(), player.wear[player.tune()], complaints, banished};
        return facts[what];
    }

    int banished(int o, int s) {
        index(isPlayer(o) && isLane(s));
        return players.get(o).banished[s];
    }

    int heard(int s, int pitch) {
        index(isLane(s) && within(pitch, 0, lanes.get(s).pitches - 1));
        List<Integer> sounds = new ArrayList<>();
        for (Player player : players) {
            sounds.add(player.sound(s, pitch));
        }
        List<Integer> order = new ArrayList<>(sounds);
        order.removeIf(sound -> sound == 0);
        if (order.isEmpty()) {
            return -1;
        }
        order.sort(Collections.reverseOrder());
        if (order.size() > 1 && order.get(0) - order.get(1) <= 1) {
            return -2;
        }
        return sounds.indexOf(order.get(0));
    }

    int pass(int hours) {
        argument(within(hours, 1, 100));
        int before = count(4);
        for (int i = 0; i < hours; i++) {
            anHour();
        }
        return count(4) - before;
    }

    private void anHour() {
        Model begin = copy();
        for (int s = 0; s < lanes.size(); s++) {
            for (int p = 0; p < lanes.get(s).pitches; p++) {
                coinsAndComplaints(begin, s, p);
            }
            for (int tune = 0; tune < 6; tune++) {
                boolean played = false;
                for (Player player : begin.players) {
                    played |= player.toGo == 0 && player.lane == s && player.tune() == tune;
                }
                int weary = begin.lanes.get(s).weary[tune];
                lanes.get(s).weary[tune] = played ? Math.min(weary + 2, 9) : Math.max(weary - 1, 0);
            }
        }
        for (Player player : players) {
            if (player.toGo == 0) {
                int tune = player.tune();
                player.wear[tune] = Math.min(player.wear[tune] + 1, 90);
                player.place = (player.place + 1) % player.barrel.length();
            }
        }
        boolean[][] fresh = new boolean[players.size()][6];
        for (int s = 0; s < lanes.size(); s++) {
            constables(s, fresh);
        }
        for (int o = 0; o < players.size(); o++) {
            Player player = players.get(o);
            if (begin.players.get(o).toGo > 0) {
                player.toGo--;
            }
            for (int s = 0; s < 6; s++) {
                if (!fresh[o][s] && player.banished[s] > 0) {
                    player.banished[s]--;
                }
            }
        }
        hour++;
    }

    private void coinsAndComplaints(Model begin, int s, int p) {
        int who = begin.heard(s, p);
        if (who >= 0) {
            Lane lane = begin.lanes.get(s);
            int tune = begin.players.get(who).tune();
            int worth = lane.taste[tune] - lane.weary[tune] - begin.players.get(who).wear[tune] / 10;
            int coins = lane.passers[hour % 24] * Math.max(worth, 0) / 10;
            players.get(who).coins += coins;
            lanes.get(s).given += coins;
        }
        if (who == -2) {
            int loudest = 0;
            for (Player player : begin.players) {
                loudest = Math.max(loudest, player.sound(s, p));
            }
            for (int o = 0; o < players.size(); o++) {
                int sound = begin.players.get(o).sound(s, p);
                if (sound > 0 && (sound == loudest || sound == loudest - 1)) {
                    players.get(o).complaints[s]++;
                }
            }
        }
    }

    private void constables(int s, boolean[][] fresh) {
        int all = 0;
        int most = 0;
        for (Player player : players) {
            all += player.complaints[s];
            most = Math.max(most, player.complaints[s]);
        }
        if (all < 10) {
            return;
        }
        int who = 0;
        while (players.get(who).complaints[s] != most) {
            who++;
        }
        for (Player player : players) {
            player.complaints[s] = 0;
        }
        Player player = players.get(who);
        player.banished[s] = 24;
        fresh[who][s] = true;
        lanes.get(s).banishments++;
        if (player.lane == s && player.toGo == 0) {
            List<Integer> refuges = new ArrayList<>();
            for (int i = 1; i < lanes.size(); i++) {
                refuges.add((s + i) % lanes.size());
            }
            refuges.removeIf(other -> player.banished[other] > 0);
            player.lane = refuges.isEmpty() ? s : refuges.get(0);
            player.pitch = 0;
            player.toGo = 2;
        }
    }

    int count(int what) {
        index(within(what, 0, 7));
        int[] counts = {hour, lanes.size(), players.size(), 0, 0, 0, 0, paper.length()};
        for (int o = 0; o < players.size(); o++) {
            counts[3] += players.get(o).toGo == 0 ? 1 : 0;
            counts[4] += players.get(o).coins;
            counts[5] += organ(o, 9);
            counts[6] += organ(o, 10);
        }
        return counts[what];
    }

    int foresee(int o, int hours) {
        index(isPlayer(o));
        argument(within(hours, 1, 100));
        Model later = copy();
        later.pass(hours);
        return later.players.get(o).coins - players.get(o).coins;
    }

    int advise(int o, int s, int hours) {
        index(isPlayer(o) && isLane(s));
        argument(within(hours, 1, 24));
        List<Integer> gains = new ArrayList<>();
        for (int p = 0; p < lanes.get(s).pitches; p++) {
            Model other = copy();
            other.players.get(o).lane = s;
            other.players.get(o).pitch = p;
            other.players.get(o).toGo = 0;
            gains.add(other.foresee(o, hours));
        }
        return gains.indexOf(Collections.max(gains));
    }

    int census() {
        StringBuilder text = new StringBuilder("street organs coins\n");
        for (int s = 0; s < lanes.size(); s++) {
            text.append(s + " " + street(s, 2) + " " + lanes.get(s).given + "\n");
        }
        text.append("organ coins tune\n");
        for (int o = 0; o < players.size(); o++) {
            text.append(o + " " + players.get(o).coins + " " + players.get(o).tune() + "\n");
        }
        paper = text.toString();
        return paper.length();
    }

    int byteAt(int place) {
        index(within(place, 0, paper.length() - 1));
        return paper.charAt(place);
    }

    double mean() {
        return players.isEmpty() ? 0.0 : (double) count(4) / players.size();
    }

    long digest() {
        List<Integer> row = new ArrayList<>();
        for (int what = 0; what < 8; what++) {
            row.add(count(what));
        }
        for (int s = 0; s < lanes.size(); s++) {
            for (int what = 0; what < 8; what++) {
                row.add(street(s, what));
            }
            for (int tune = 0; tune < 6; tune++) {
                row.add(ear(s, tune, true));
                row.add(ear(s, tune, false));
            }
        }
        for (int o = 0; o < players.size(); o++) {
            for (int what = 0; what < 11; what++) {
                row.add(organ(o, what));
            }
            for (int s = 0; s < lanes.size(); s++) {
                row.add(banished(o, s));
            }
        }
        for (int i = 0; i < paper.length(); i++) {
            row.add((int) paper.charAt(i));
        }
        long d = 587;
        for (int x : row) {
            d = d * 31 + x;
        }
        return d;
    }
}
