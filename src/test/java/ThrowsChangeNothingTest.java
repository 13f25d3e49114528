import java.util.ArrayList;
import java.util.List;

/** For every promise that throws: behind a call that throws, every answer is as it was before. */
public final class ThrowsChangeNothingTest {
    private ThrowsChangeNothingTest() {
    }

    public static void main(String[] args) {
        InspectionOffice office = busyOffice();
        List<Long> before = answers(office);
        for (Check.Act act : wrongCalls(office)) {
            boolean threw = false;
            try {
                act.go();
            } catch (IllegalArgumentException | IllegalStateException e) {
                threw = true;
            } catch (IndexOutOfBoundsException e) {
                threw = e.getClass() == IndexOutOfBoundsException.class;
            }
            Check.due("a wrong call throws", true, threw);
            Check.due("nothing has changed", true, before.equals(answers(office)));
        }
        Check.end();
    }

    private static InspectionOffice busyOffice() {
        InspectionOffice office = new InspectionOffice();
        office.setPlan(2, 2);
        office.setWays(true, true, 3);
        office.toggleMark(150);
        for (int lot = 0; lot < 60; lot++) {
            office.record(lot * 3, 40 * lot + 2, lot % 7 < 3 ? 0 : 1L << lot % 40);
        }
        return office;
    }

    private static List<Check.Act> wrongCalls(InspectionOffice office) {
        List<Check.Act> calls = new ArrayList<>();
        calls.add(() -> office.setPlan(0, 4));
        calls.add(() -> office.setPlan(3, 0));
        calls.add(() -> office.setWays(false, false, 1));
        calls.add(() -> office.toggleMark(200));
        calls.add(() -> office.record(1, 2, 0));
        calls.add(() -> office.record(3, 5000, 9));
        calls.add(() -> office.record(0, 1, 0));
        calls.add(() -> office.correct(0, -1));
        calls.add(() -> office.correct(1, 5));
        calls.add(() -> office.strike(1));
        calls.add(() -> office.orderAt(60));
        calls.add(() -> office.verdict(1));
        calls.add(() -> office.stateAt(1));
        calls.add(() -> office.inspected(1));
        calls.add(() -> office.badIn(1));
        calls.add(() -> office.count(4));
        calls.add(() -> office.letter(1));
        calls.add(() -> office.sample(2, 3));
        calls.add(() -> office.accepting(2, 3));
        calls.add(() -> office.samples(1, 1));
        calls.add(() -> office.accepted(2, 3, 1, 1));
        calls.add(() -> office.acceptedByListing(15, 3, 1, 1));
        calls.add(() -> office.acceptedTwice(3, 3, 2, 1));
        return calls;
    }

    private static List<Long> answers(InspectionOffice office) {
        List<Long> answers = new ArrayList<>();
        answers.add((long) office.lots());
        answers.add((long) office.state());
        answers.add(office.isSkipping() ? 1L : 0L);
        for (int verdict = 0; verdict <= 3; verdict++) {
            answers.add((long) office.count(verdict));
        }
        for (int place = 0; place < office.lots(); place++) {
            int order = office.orderAt(place);
            answers.add((long) order);
            answers.add((long) office.verdict(order));
            answers.add((long) office.stateAt(order));
            answers.add((long) office.inspected(order));
            answers.add((long) office.badIn(order));
            long findings = office.correct(order, 0);
            office.correct(order, findings);
            answers.add(findings);
        }
        for (int size : new int[] {2, 8, 20, 100, 400, 5000}) {
            answers.add((long) office.letter(size));
            for (int state = 0; state <= 2; state++) {
                answers.add((long) office.sample(size, state));
                answers.add((long) office.accepting(size, state));
            }
        }
        return answers;
    }
}
