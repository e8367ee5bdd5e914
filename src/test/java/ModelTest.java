import java.nio.charset.StandardCharsets;
import java.util.Random;

/** Many desks, right and wrong ones, each answer against the model's. All promises. */
public final class ModelTest {
    private static final int ROUNDS = 1500;

    private ModelTest() {
    }

    public static void main(String[] args) {
        int right = 0;
        for (int round = 0; round < ROUNDS && Probe.wrongSoFar() < 50; round++) {
            Random random = new Random(7000 + round);
            FreightShare desk = new FreightShare();
            Model model = new Model();
            int texts = 1 + random.nextInt(3);
            for (int k = 0; k < texts; k++) {
                String text = Texts.any(random);
                String name = "round " + round + " \"" + text + "\"";
                int want = model.text(text.getBytes(StandardCharsets.ISO_8859_1));
                Probe.due(name + " text", Probe.tell(desk, text), want);
                Probe.due(name + " fault", desk.fault(), model.fault);
                right += want > 0 ? 1 : 0;
                compareAll(name, desk, model);
                changeSome(name, random, desk, model);
                compareAll(name + " changed", desk, model);
            }
        }
        Probe.due("right texts were told", right > ROUNDS / 3, true);
        Probe.finish();
    }

    private static void changeSome(String name, Random random, FreightShare desk, Model model) {
        int changes = random.nextInt(20);
        for (int k = 0; k < changes; k++) {
            int which = random.nextInt(18) - 1;
            int value = random.nextInt(8) == 0 ? random.nextInt(12000) - 1000 : random.nextInt(120) - 2;
            switch (random.nextInt(5)) {
                case 0 -> Probe.due(name + " fuel " + which + " " + value,
                        desk.fuel(which, value), model.fuel(which, value));
                case 1 -> Probe.due(name + " buy " + which + " " + value,
                        desk.buy(which % 5, value), model.buy(which % 5, value));
                case 2, 3 -> Probe.due(name + " weigh " + which + " " + value,
                        desk.weigh(which, value), model.weigh(which, value));
                default -> Probe.due(name + " undo", desk.undo(), model.undo());
            }
        }
    }

    private static void compareAll(String name, FreightShare desk, Model model) {
        for (int what = -1; what <= 12; what++) {
            Probe.due(name + " now " + what, desk.now(what), model.now(what, 0));
        }
        for (int a = -1; a <= model.places.size(); a++) {
            Probe.due(name + " hub " + a, desk.hub(a), model.hub(a));
            for (int b = -1; b <= model.places.size(); b++) {
                Probe.due(name + " direct " + a + " " + b, desk.direct(a, b), model.direct(a, b));
                Probe.due(name + " way " + a + " " + b, desk.way(a, b), model.way(a, b));
            }
        }
        for (int truck = -1; truck <= model.trucks.size(); truck++) {
            for (int what = -1; what <= 8; what++) {
                Probe.due(name + " truck " + truck + " " + what,
                        desk.truck(truck, what), model.truck(truck, what));
            }
        }
        for (int k = -1; k <= model.now(9, 0); k++) {
            for (int what = -1; what <= 3; what++) {
                Probe.due(name + " gap " + k + " " + what, desk.gap(k, what), model.gap(k, what));
            }
        }
        compareTripsAndLoads(name, desk, model);
        Probe.due(name + " busiest", desk.busiest(), model.busiest());
        Probe.due(name + " dearest", desk.dearest(), model.dearest());
    }

    private static void compareTripsAndLoads(String name, FreightShare desk, Model model) {
        for (int trip = -2; trip <= model.trips.size(); trip++) {
            for (int what = -1; what <= 12; what++) {
                Probe.due(name + " trip " + trip + " " + what,
                        Probe.trip(desk, trip, what), model.trip(trip, what));
            }
            for (int load = -1; load <= model.loads.size(); load++) {
                Probe.due(name + " share " + trip + " " + load,
                        desk.share(trip, load), model.share(trip, load));
            }
        }
        for (int load = -1; load <= model.loads.size(); load++) {
            for (int what = -1; what <= 10; what++) {
                Probe.due(name + " load " + load + " " + what,
                        Probe.load(desk, load, what), model.load(load, what));
            }
            for (int other = -1; other <= model.loads.size(); other++) {
                Probe.due(name + " without " + load + " " + other,
                        desk.without(load, other), model.without(load, other));
            }
            int weight = load >= 0 && load < model.loads.size() ? model.loads.get(load).weight : 3;
            int[] parts = {-1, 0, 1, weight / 3, weight - 1, weight, 100};
            for (int w : parts) {
                for (int what = -1; what <= 2; what++) {
                    Probe.due(name + " split " + load + " " + w + " " + what,
                            desk.split(load, w, what), model.split(load, w, what));
                }
            }
        }
    }
}
