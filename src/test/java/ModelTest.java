/** Long runs of mixed calls, right and wrong ones, each answer and digest against those of the Model. */
public final class ModelTest {
    private static final int RUNS = 90;
    private static final int CALLS = 512;
    private static final int NOT_A_CALL = 100;

    private final OrganCensus x = new OrganCensus();
    private final Model m = new Model();
    /** Towns of 0 are narrow and loud, so that many are banished; those of 2 are wide and quiet. */
    private final int width;
    private long seed;

    private ModelTest(int run) {
        seed = run * 7919L + 1;
        width = run % 3;
    }

    public static void main(String[] args) {
        int banishments = 0;
        int coins = 0;
        for (int run = 0; run < RUNS; run++) {
            ModelTest test = new ModelTest(run);
            test.run(run);
            coins += test.x.count(4) > 0 ? 1 : 0;
            banishments += test.x.count(6) > 0 ? 1 : 0;
        }
        Check.isTrue("most runs give coins: " + coins, coins > RUNS * 2 / 3);
        Check.isTrue("many runs end with banishments: " + banishments, banishments > RUNS / 3);
        Check.end("ModelTest");
    }

    private void run(int run) {
        for (int call = 0; call < CALLS; call++) {
            String at = "run " + run + ", call " + call + ": ";
            int kind = call < 12 ? any(4) : any(NOT_A_CALL);
            if (kind < 20) {
                makeTown(at, kind);
            } else if (kind < 50) {
                changeTown(at, kind);
            } else if (kind < 78) {
                ask(at, kind);
            } else {
                lookAhead(at, kind);
            }
            Check.same(at + "digest", x.digest(), m.digest());
        }
    }

    private void makeTown(String at, int kind) {
        int s = near(m.lanes.size());
        if (kind < 2) {
            int pitches = 3 + near(width == 0 ? 4 : 18);
            same(at + "build " + pitches, () -> x.build(pitches), () -> m.build(pitches));
        } else if (kind < 4) {
            int pitch = pitchOf(s);
            int loudness = width == 2 ? 1 + near(5) : 1 + near(9);
            same(at + "addOrgan " + s + " " + pitch + " " + loudness,
                () -> x.addOrgan(s, pitch, loudness), () -> m.addOrgan(s, pitch, loudness));
        } else if (kind < 14) {
            int hour = near(24);
            int passers = near(100);
            same(at + "setPassers " + s + " " + hour + " " + passers,
                () -> x.setPassers(s, hour, passers), () -> m.setPassers(s, hour, passers));
        } else {
            int tune = near(6);
            int taste = near(10);
            same(at + "setTaste " + s + " " + tune + " " + taste,
                () -> x.setTaste(s, tune, taste), () -> m.setTaste(s, tune, taste));
        }
    }

    private void changeTown(String at, int kind) {
        int o = near(m.players.size());
        if (kind < 24) {
            int barrel = barrel();
            same(at + "setBarrel " + o + " " + barrel, () -> x.setBarrel(o, barrel), () -> m.setBarrel(o, barrel));
        } else if (kind < 34) {
            int s = near(m.lanes.size());
            int pitch = pitchOf(s);
            same(at + "send " + o + " " + s + " " + pitch, () -> x.send(o, s, pitch), () -> m.send(o, s, pitch));
        } else if (kind < 48) {
            int hours = 1 + near(6);
            same(at + "pass " + hours, () -> x.pass(hours), () -> m.pass(hours));
        } else {
            int hours = 1 + near(100);
            same(at + "pass " + hours, () -> x.pass(hours), () -> m.pass(hours));
        }
    }

    private void ask(String at, int kind) {
        int s = near(m.lanes.size());
        int o = near(m.players.size());
        int what = near(kind < 62 ? 8 : 11);
        if (kind < 56) {
            same(at + "street " + s + " " + what, () -> x.street(s, what), () -> m.street(s, what));
        } else if (kind < 60) {
            int tune = near(6);
            boolean isTaste = any(2) == 0;
            same(at + "ear " + s + " " + tune, () -> x.ear(s, tune, isTaste), () -> m.ear(s, tune, isTaste));
        } else if (kind < 62) {
            same(at + "count " + what, () -> x.count(what), () -> m.count(what));
        } else if (kind < 68) {
            same(at + "organ " + o + " " + what, () -> x.organ(o, what), () -> m.organ(o, what));
        } else if (kind < 72) {
            same(at + "banished " + o + " " + s, () -> x.banished(o, s), () -> m.banished(o, s));
        } else {
            int pitch = pitchOf(s);
            same(at + "heard " + s + " " + pitch, () -> x.heard(s, pitch), () -> m.heard(s, pitch));
        }
    }

    private void lookAhead(String at, int kind) {
        int o = near(m.players.size());
        if (kind < 84) {
            int hours = 1 + near(any(4) == 0 ? 100 : 12);
            same(at + "foresee " + o + " " + hours, () -> x.foresee(o, hours), () -> m.foresee(o, hours));
        } else if (kind < 89) {
            int s = near(m.lanes.size());
            int hours = 1 + near(any(4) == 0 ? 24 : 4);
            same(at + "advise " + o + " " + s + " " + hours, () -> x.advise(o, s, hours), () -> m.advise(o, s, hours));
        } else if (kind < 92) {
            same(at + "census", x::census, m::census);
        } else if (kind < 96) {
            int index = near(m.paper.length());
            same(at + "byteAt " + index, () -> x.byteAt(index), () -> m.byteAt(index));
        } else {
            same(at + "mean", x::mean, m::mean);
        }
    }

    private int pitchOf(int s) {
        boolean isLane = s >= 0 && s < m.lanes.size();
        int pitches = isLane ? m.lanes.get(s).pitches : 3;
        return near(width == 1 ? Math.min(pitches, 8) : pitches);
    }

    private int barrel() {
        int digits = any(30) == 0 ? 9 : 1 + any(8);
        int number = 0;
        for (int i = 0; i < digits; i++) {
            number = number * 10 + (any(60) == 0 ? any(10) : 1 + any(6));
        }
        return any(30) == 0 ? -number : number;
    }

    /** Mostly one of 0 to n - 1; now and then just outside of them, or far away. */
    private int near(int n) {
        int kind = any(60);
        if (kind == 0) {
            return -1;
        }
        if (kind == 1) {
            return n;
        }
        if (kind == 2) {
            return any(2) == 0 ? Integer.MAX_VALUE - any(2) : Integer.MIN_VALUE + any(2);
        }
        return n > 0 ? any(n) : 0;
    }

    /** One of 0 to n - 1, the same ones in every run of the test. */
    private int any(int n) {
        seed = seed * 6364136223846793005L + 1442695040888963407L;
        return (int) ((seed >>> 33) % n);
    }

    private static void same(String what, Check.Call got, Check.Call want) {
        Check.same(what, Check.outcome(got), Check.outcome(want));
    }
}
