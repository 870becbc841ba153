/** Calls of the public face by their names, so that a test can tell a call, or hold a list of them. */
final class Calls {
    private Calls() {
    }

    static int answer(RidingYard x, String name, int... n) {
        switch (name) {
            case "horse": return x.horse(n[0], n[1], n[2]);
            case "wagon": return x.wagon(n[0], n[1]);
            case "lead": return x.lead(n[0], n[1]);
            case "empty": return x.empty(n[0], n[1]);
            case "tear": return x.tear(n[0], n[1]);
            case "hang": return x.hang(n[0], n[1]);
            case "act": return x.act(n[0], n[1], n[2], n[3]);
            case "came": return x.came();
            case "task": return x.task(n[0], n[1], n[2], n[3]);
            case "clear": return x.clear();
            case "day": return x.day();
            case "book": return x.book(n[0], n[1]);
            case "horseTells": return x.horseTells(n[0], n[1]);
            case "shed": return x.shed(n[0]);
            case "same": return x.same(n[0], n[1]);
            case "count": return x.count(n[0]);
            default: throw new IllegalArgumentException(name);
        }
    }

    static String text(String name, int... n) {
        StringBuilder text = new StringBuilder(name).append("(");
        for (int i = 0; i < n.length; i++) {
            text.append(i == 0 ? "" : ", ").append(n[i]);
        }
        return text.append(")").toString();
    }
}
