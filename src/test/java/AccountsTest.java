/** Promises 35 to 42 in ordinary runs: accounts of volume and sugar. */
final class AccountsTest {
    public static void main(String[] args) {
        noTank();
        wholeSeason();
        shares();
        Check.end("AccountsTest");
    }

    private static void noTank() {
        SapNetwork x = new SapNetwork();
        x.addTap(0, 0, 10, 3, 0);
        x.pass(-1);
        x.pass(1);
        accounts(x, 10, 0, 10, 30);
        Check.due("41 all lost", x.lossShare(), 1f);
        Check.due("42 one tap", x.meanSweetness(), 3.0);
    }

    private static void wholeSeason() {
        SapNetwork x = new SapNetwork();
        x.addTap(0, 0, 10, 1, 0);
        x.addTap(0, 0, 5, 6, 0);
        x.addTank(4);
        x.addTank(9);
        x.pass(-1);
        x.pass(1);
        // 40 * 4 / 15 = 10.7, 30 * 9 / 11 = 24.5
        accounts(x, 15, 0, 2, 6);
        x.load(1, 9);
        x.setFire(1);
        x.pass(-1);
        accounts(x, 15, 5, 2, 6);
        x.pass(-1);
        accounts(x, 15, 8, 2, 6);
        x.draw();
        accounts(x, 15, 8, 2, 6);
        x.load(0, 3);
        // 10 * 3 / 4 = 7.5
        Check.due("22 left", x.tankSugar(0), 3);
        x.dump();
        accounts(x, 15, 8, 5, 13);
        x.drain(0);
        accounts(x, 15, 8, 6, 16);
        Check.due("41 share", x.lossShare(), 6f / 15f);
        Check.due("42 mean", x.meanSweetness(), 40.0 / 15.0);
    }

    private static void shares() {
        SapNetwork x = new SapNetwork();
        x.addTap(0, 0, 7, 4, 0);
        x.addTap(0, 0, 6, 5, 1);
        x.addTank(9);
        x.pass(-1);
        Check.due("13 one tap", x.pass(0), 7);
        Check.due("41 nothing lost", x.lossShare(), 0f);
        Check.due("42 of one", x.meanSweetness(), 4.0);
        x.pass(-1);
        Check.due("13 both taps", x.pass(1), 13);
        accounts(x, 20, 0, 11, 50);
        Check.due("41 share", x.lossShare(), 0.55f);
        Check.due("42 mean", x.meanSweetness(), 4.3);
        x.addTap(0, 0, 1, 1, 0);
        x.pass(-1);
        x.pass(0);
        // 7 and 1 more come, all of it lost: 19 of 28
        Check.due("41 rounded to a float", (double) x.lossShare(), 0.6785714030265808);
        Check.due("42 mean", x.meanSweetness(), 115.0 / 28.0);
    }

    private static void accounts(SapNetwork x, long sap, long steam, long loss, long sugar) {
        Check.due("35 totalSap", x.totalSap(), sap);
        Check.due("36 steam", x.steam(), steam);
        Check.due("37 loss", x.loss(), loss);
        Check.due("38 lossByBalance", x.lossByBalance(), loss);
        Check.due("39 lostSugar", x.lostSugar(), sugar);
        Check.due("40 isBalanced", x.isBalanced(), true);
    }
}
