/** Makes a call of RankBoard by its name. */
final class Calls {
    private Calls() {
    }

    /** Boolean arguments are 1 or 0. */
    static long ask(RankBoard board, String name, int... a) {
        switch (name) {
            case "wrestler": return board.wrestler(a[0], a[1], a[2]);
            case "leave": return board.leave(a[0]);
            case "told": return board.told(a[0], a[1]);
            case "is": return board.is(a[0], a[1]);
            case "on": return board.on(a[0]);
            case "mark": return board.mark(a[0], a[1]);
            case "mean": return board.mean(a[0]);
            case "sheet": return board.sheet(a[0], a[1]);
            case "lay": return board.lay(a[0], a[1], a[2]);
            case "tear": return board.tear(a[0]);
            case "copy": return board.copy(a[0], a[1], a[2], a[3], a[4]);
            case "prices": return board.prices(a[0]);
            case "price": return board.price(a[0]);
            case "meet": return board.meet(a[0]);
            case "absent": return board.absent(a[0], a[1] == 1);
            case "barred": return board.barred(a[0], a[1]);
            case "draw": return board.draw();
            case "cost": return board.cost();
            case "result": return board.result(a[0], a[1] == 1);
            case "bout": return board.bout(a[0], a[1]);
            case "sat": return board.sat();
            case "line": return board.line(a[0], a[1], a[2]);
            case "anew": return board.anew();
            case "why": return board.why(a[0]);
            case "passed": return board.passed(a[0], a[1]);
            case "beside": return board.beside(a[0]);
            case "rungBeside": return board.rungBeside(a[0]);
            case "leaders": return board.leaders();
            case "playOff": return board.playOff();
            case "meets": return board.meets(a[0] == 1);
            case "wins": return board.wins(a[0] == 1);
            case "champion": return board.champion();
            case "count": return board.count(a[0]);
            case "finding": return board.finding();
            case "findings": return board.findings(a[0]);
            case "digest": return board.digest();
            default: throw new IllegalArgumentException(name);
        }
    }
}
