/** Promises 1 to 3: a new object, feed, end; of 6 the tape's bytes. */
public final class TapeTest {
    private TapeTest() {
    }

    public static void main(String[] args) {
        newObject();
        feedAnswersSize();
        feedTakesHighestByteFirst();
        feedStopsAtLimit();
        endCutsTheTape();
        Probe.finish();
    }

    private static void newObject() {
        FreightShare desk = new FreightShare();
        for (int what = 0; what <= 11; what++) {
            Probe.due("new: now " + what, desk.now(what), 0);
        }
        Probe.due("new: fault", desk.fault(), 0);
        Probe.due("new: busiest", desk.busiest(), -1);
        Probe.due("new: dearest", desk.dearest(), -1);
        Probe.due("new: undo", desk.undo(), -1);
        Probe.due("new: text of an empty tape", desk.text(), 0);
        Probe.due("NONE", FreightShare.NONE, -1);
    }

    private static void feedAnswersSize() {
        FreightShare desk = new FreightShare();
        Probe.due("feed once", desk.feed(0, 0, 0, 0, 0), 20);
        Probe.due("feed twice", desk.feed(-1, -1, -1, -1, -1), 40);
        Probe.due("bytes", desk.now(11), 40);
    }

    private static void feedTakesHighestByteFirst() {
        FreightShare desk = new FreightShare();
        // "desk 123;place 9 8 ;"
        desk.feed(0x6465736b, 0x20313233, 0x3b706c61, 0x63652039, 0x2038203b);
        Probe.due("text in order", desk.text(), 2);
        Probe.due("rate", desk.now(0), 123);
        Probe.due("places", desk.now(1), 1);
        desk.feed(0x6b736564, 0, 0, 0, 0);
        Probe.due("turned bytes", desk.text(), -1);
        // A byte above 127 is no token wherever it comes.
        desk.feed(0x6465736b, 0x20313b80, 0, 0, 0);
        Probe.due("high byte", desk.text(), -8);
    }

    private static void feedStopsAtLimit() {
        FreightShare desk = new FreightShare();
        for (int k = 1; k <= 42; k++) {
            Probe.due("feed " + k, desk.feed(k, k, k, k, k), 20 * k);
        }
        Probe.due("feed beyond 840", desk.feed(1, 1, 1, 1, 1), -1);
        Probe.due("none come", desk.now(11), 840);
        Probe.due("end 821", desk.end(821), true);
        Probe.due("feed to 841", desk.feed(1, 1, 1, 1, 1), -1);
        Probe.due("still 821", desk.now(11), 821);
        Probe.due("end 820", desk.end(820), true);
        Probe.due("feed to 840", desk.feed(1, 1, 1, 1, 1), 840);
    }

    private static void endCutsTheTape() {
        FreightShare desk = new FreightShare();
        Probe.due("end 0 of nothing", desk.end(0), true);
        Probe.due("end 1 of nothing", desk.end(1), false);
        Probe.put(desk, "desk 12;place 1 1;");
        Probe.due("end -1", desk.end(-1), false);
        Probe.due("end least", desk.end(Integer.MIN_VALUE), false);
        Probe.due("end greatest", desk.end(Integer.MAX_VALUE), false);
        Probe.due("end 19", desk.end(19), false);
        Probe.due("nothing was cut", desk.now(11), 18);
        Probe.due("end 18", desk.end(18), true);
        Probe.due("end 8", desk.end(8), true);
        Probe.due("bytes", desk.now(11), 8);
        Probe.due("text of the first bytes", desk.text(), 1);
        Probe.due("rate", desk.now(0), 12);
        // What comes next stands right behind the first n bytes.
        Probe.put(desk, "desk 4 #############");
        desk.end(6);
        desk.feed(0x3b202020, 0x20202020, 0x20202020, 0x20202020, 0x20202020);
        Probe.due("bytes behind", desk.now(11), 26);
        Probe.due("text behind", desk.text(), 1);
        Probe.due("rate behind", desk.now(0), 4);
    }
}
