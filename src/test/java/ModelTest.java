/** Long runs of calls, a question behind each and all of them at the end, held against the model. */
public final class ModelTest {
    private static final int RUNS = 3000;
    /** With a question each, and all questions on 60 lots at last, no more than 512 calls. */
    private static final int MOST_CHANGES = 96;
    private long seed;

    private ModelTest(long seed) {
        this.seed = seed;
    }

    public static void main(String[] args) {
        for (int run = 0; run < RUNS; run++) {
            new ModelTest(run * 7919L + 1).run(run);
        }
        Check.end();
    }

    /** A fixed chain of numbers, so that each run of the test makes the same calls. */
    private int pick(int many) {
        seed = seed * 6364136223846793005L + 1442695040888963407L;
        return (int) ((seed >>> 33) % many);
    }

    private void run(int run) {
        InspectionOffice office = new InspectionOffice();
        Model model = new Model();
        int orders = 20 + pick(181);
        int badness = pick(6);
        int changes = run % 8 == 0 ? 1 + pick(MOST_CHANGES) : MOST_CHANGES;
        for (int call = 0; call < changes; call++) {
            String told = "run " + run + ", call " + call;
            change(told, office, model, orders, badness);
            model.workOut();
            ask(told, office, model, pick(orders));
        }
        compare("run " + run, office, model);
    }

    private void ask(String told, InspectionOffice office, Model model, int order) {
        Model.Told lot = model.lots.get(order);
        int kind = pick(6);
        if (kind == 0) {
            Check.due(told + " state", model.state, office.state());
        } else if (kind == 1) {
            Check.due(told + " isSkipping", model.skipping, office.isSkipping());
        } else if (lot == null) {
            Check.dueIllegalState(told + " verdict " + order, () -> office.verdict(order));
        } else if (kind == 2) {
            Check.due(told + " verdict " + order, lot.verdict, office.verdict(order));
        } else if (kind == 3) {
            Check.due(told + " stateAt " + order, lot.state, office.stateAt(order));
        } else if (kind == 4) {
            Check.due(told + " inspected " + order, lot.inspected, office.inspected(order));
        } else {
            Check.due(told + " badIn " + order, lot.bad, office.badIn(order));
        }
    }

    private long findings(int badness) {
        long findings = 0;
        for (int item = 0; item < 50; item++) {
            if (pick(100) < badness * badness) {
                findings |= 1L << item;
            }
        }
        return pick(4) == 0 ? findings : findings & ((1L << pick(51)) - 1);
    }

    private int size() {
        int[] ends = {
            2, 3, 4, 5, 7, 8, 9, 15, 16, 20, 31, 32, 49, 50, 51, 150, 151, 500, 501, 5000};
        return pick(2) == 0 ? ends[pick(ends.length)] : 2 + pick(4999);
    }

    private void change(String told, InspectionOffice office, Model model, int orders, int badness) {
        int kind = pick(40);
        int order = pick(orders);
        if (kind == 0) {
            setPlan(office, model);
        } else if (kind == 1) {
            setWays(office, model);
        } else if (kind < 5) {
            boolean now = model.marks.add(order);
            if (!now) {
                model.marks.remove(order);
            }
            Check.due(told + " toggleMark", now, office.toggleMark(order));
        } else if (kind < 8) {
            strike(told, office, model, order);
        } else if (kind < 12) {
            correct(told, office, model, order, findings(badness));
        } else {
            record(told, office, model, order, size(), findings(badness));
        }
    }

    private void setPlan(InspectionOffice office, Model model) {
        model.level = pick(3);
        model.quality = pick(4);
        office.setPlan(model.level, model.quality);
    }

    private void setWays(InspectionOffice office, Model model) {
        int[] rates = {0, 2, 3, 4, 5};
        model.twice = pick(2) == 0;
        model.steady = pick(3) > 0;
        model.rate = rates[pick(5)];
        office.setWays(model.twice, model.steady, model.rate);
    }

    private void strike(String told, InspectionOffice office, Model model, int order) {
        if (model.lots.remove(order) == null) {
            Check.dueIllegalState(told + " strike", () -> office.strike(order));
        } else {
            Check.due(told + " strike", model.lots.size(), office.strike(order));
        }
    }

    private void correct(String told, InspectionOffice office, Model model, int order, long to) {
        Model.Told lot = model.lots.get(order);
        if (lot == null) {
            Check.dueIllegalState(told + " correct", () -> office.correct(order, to));
        } else {
            Check.due(told + " correct", lot.findings, office.correct(order, to));
            lot.findings = to;
        }
    }

    private void record(String told, InspectionOffice office, Model model, int order, int size,
            long findings) {
        if (model.lots.containsKey(order) || model.lots.size() == 60) {
            Check.dueIllegalState(told + " record", () -> office.record(order, size, findings));
            return;
        }
        Model.Told lot = new Model.Told();
        lot.size = size;
        lot.findings = findings;
        model.lots.put(order, lot);
        Check.due(told + " record", model.lots.size(), office.record(order, size, findings));
    }

    private void compare(String told, InspectionOffice office, Model model) {
        Check.due(told + " lots", model.lots.size(), office.lots());
        Check.due(told + " state", model.state, office.state());
        Check.due(told + " isSkipping", model.skipping, office.isSkipping());
        int[] counts = new int[4];
        int place = 0;
        for (int order : model.lots.keySet()) {
            Model.Told lot = model.lots.get(order);
            counts[lot.verdict]++;
            Check.due(told + " orderAt " + place, order, office.orderAt(place));
            Check.due(told + " verdict " + order, lot.verdict, office.verdict(order));
            Check.due(told + " stateAt " + order, lot.state, office.stateAt(order));
            Check.due(told + " inspected " + order, lot.inspected, office.inspected(order));
            Check.due(told + " badIn " + order, lot.bad, office.badIn(order));
            place++;
        }
        for (int verdict = 0; verdict <= 3; verdict++) {
            Check.due(told + " count " + verdict, counts[verdict], office.count(verdict));
        }
        int size = size();
        Check.due(told + " letter", model.letter(size), office.letter(size));
        for (int state = 0; state <= 2; state++) {
            Check.due(told + " sample", model.sample(size, state), office.sample(size, state));
            Check.due(told + " accepting", model.accepting(size, state),
                    office.accepting(size, state));
        }
    }
}
