/**
 * Random sessions, every answer compared with the Model's. They are longer than the document promises,
 * so that sessions get full; the program does not count calls.
 */
public final class ModelTest {
    private static final int SESSIONS = 400;
    private static final int LINES = 60;
    private static final int[] TALLY = new int[8];

    public static void main(String[] args) {
        Lines lines = new Lines(15112026);
        for (int i = 0; i < SESSIONS; i++) {
            runSession(lines);
        }
        checkTally();
        Check.end();
    }

    private static void runSession(Lines lines) {
        RationalSession session = new RationalSession();
        Model model = new Model();
        for (int i = 0; i < LINES; i++) {
            String line = lines.good();
            int want = model.enter(line);
            Check.due(line, Typist.enter(session, line), want);
            TALLY[want > 0 ? 0 : -want]++;
            if (want > 0) {
                compareLabel(session, model, want, lines);
            }
            compareState(session, model);
        }
        for (int label = 1; label <= model.labels.size(); label++) {
            compareLabel(session, model, label, lines);
        }
    }

    /** The random lines must bring every end that a good line can have. */
    private static void checkTally() {
        for (int code : new int[] {RationalSession.FULL, RationalSession.UNBOUND, RationalSession.DIVIDE,
                RationalSession.TOO_BIG}) {
            Check.that("some lines answered " + code, TALLY[-code] > 100);
        }
        Check.that("many labels", TALLY[0] > 5000);
    }

    private static void compareState(RationalSession session, Model model) {
        Check.due("labels()", session.labels(), model.labels.size());
        Check.due("shapes()", session.shapes(), model.shapeCount());
        for (int name = 0; name < 3; name++) {
            int want = model.names[name] == null ? 0 : model.shapeOf(model.names[name]);
            Check.due("bound(" + name + ")", session.bound(name), want);
        }
    }

    private static void compareLabel(RationalSession session, Model model, int label, Lines lines) {
        Model.Fraction form = model.labels.get(label - 1);
        Check.due("shape", session.shape(label), model.shapes.get(label - 1));
        Check.due("text", Typist.text(session, label), Model.text(form));
        for (int part = 0; part < 2; part++) {
            int[] row = form.part(part == 1);
            Check.due("degree", session.degree(label, part == 1), row.length - 1);
            for (int i = 0; i <= 12; i++) {
                int want = i < row.length ? row[i] : 0;
                Check.due("coefficient", session.coefficient(label, part == 1, i), want);
            }
        }
        for (int i = 0; i < 5; i++) {
            int at = i < 3 ? i - 1 : lines.below(40000) - 20000;
            int point = Math.floorMod(at, Model.P);
            int below = Model.valueAt(form.under, point);
            int want = below == 0 ? RationalSession.POLE
                    : Model.valueAt(form.over, point) * Model.inverse(below) % Model.P;
            Check.due("value", session.value(label, at), want);
        }
    }
}
