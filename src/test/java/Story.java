import java.util.ArrayList;
import java.util.List;

/** What a town answers, now and in what comes: of two towns that differ in anything that shows, the stories differ. */
final class Story {
    private static final int HOURS = 26;

    private final OrganCensus x;
    private final List<String> lines = new ArrayList<>();

    private Story(OrganCensus x) {
        this.x = x;
    }

    /** The town is used up by it: hours go by, and it is changed. */
    static List<String> of(OrganCensus x) {
        Story story = new Story(x);
        story.now();
        story.ahead();
        story.hours();
        story.changes();
        story.now();
        return story.lines;
    }

    private void now() {
        for (int what = 0; what <= 7; what++) {
            line("count", x.count(what));
        }
        for (int s = 0; s < x.count(1); s++) {
            for (int what = 0; what <= 7; what++) {
                line("street " + s, x.street(s, what));
            }
            for (int tune = 0; tune < 6; tune++) {
                line("taste in " + s, x.ear(s, tune, true));
                line("weariness in " + s, x.ear(s, tune, false));
            }
            for (int pitch = 0; pitch < x.street(s, 0); pitch++) {
                line("heard in " + s, x.heard(s, pitch));
            }
        }
        for (int i = 0; i < x.count(2); i++) {
            for (int what = 0; what <= 10; what++) {
                line("organ " + i, x.organ(i, what));
            }
            for (int s = 0; s < x.count(1); s++) {
                line("banished, " + i, x.banished(i, s));
            }
        }
        for (int i = 0; i < x.count(7); i++) {
            line("byte " + i, x.byteAt(i));
        }
        line("mean", x.mean());
        lines.add("digest: " + x.digest());
    }

    private void ahead() {
        for (int i = 0; i < x.count(2); i++) {
            line("foresee 1, " + i, x.foresee(i, 1));
            line("foresee 30, " + i, x.foresee(i, 30));
            for (int s = 0; s < x.count(1); s++) {
                line("advise " + i, x.advise(i, s, 2));
            }
        }
    }

    private void hours() {
        for (int hour = 0; hour < HOURS; hour++) {
            line("pass", x.pass(1));
            lines.add("digest: " + x.digest());
        }
    }

    private void changes() {
        for (int s = 0; s < x.count(1); s++) {
            for (int hour = 0; hour < 24; hour++) {
                line("setPassers", x.setPassers(s, hour, 10 + hour));
            }
            for (int tune = 0; tune < 6; tune++) {
                line("setTaste", x.setTaste(s, tune, 3 + tune));
            }
        }
        for (int i = 0; i < x.count(2); i++) {
            int number = i;
            line("setBarrel", x.setBarrel(i, 1234));
            for (int s = 0; s < x.count(1); s++) {
                int street = s;
                lines.add("send: " + Check.outcome(() -> x.send(number, street, 1)));
            }
        }
        lines.add("build: " + Check.outcome(() -> x.build(9)));
        lines.add("addOrgan: " + Check.outcome(() -> x.addOrgan(0, 1, 6)));
        line("pass", x.pass(40));
        line("census", x.census());
    }

    private void line(String what, double answer) {
        lines.add(what + ": " + answer);
    }
}
