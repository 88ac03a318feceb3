/** Promise 19: carbon. */
public final class CarbonTest {
    public static void main(String[] args) {
        ResidueFlows x = new ResidueFlows();
        Check.equal("without bins", x.carbon(), 0);
        for (int i = 0; i < 8; i++) {
            x.bin(i % 4, 1000000);
        }
        x.pour(0, 1, 999);
        Check.equal("half of one gram, cut off", x.carbon(), 0);
        x.pour(7, 1, 999);
        Check.equal("half of one gram in each of two bins", x.carbon(), 1);
        x.pour(3, 1, 0);
        Check.equal("half of all dry grams", x.carbon(), 501);
        x.pour(4, 100, 1000);
        Check.equal("water is no carbon", x.carbon(), 501);
        x.mix(3, 4, 1);
        Check.equal("mixing keeps it", x.carbon(), 501);
        x.scale(4, 0);
        x.begin();
        Check.equal("scales and shifts keep it", x.carbon(), 501);
        x.burn(4, 101, 0);
        Check.equal("burning takes it away", x.carbon(), 1);
        for (int i = 0; i < 8; i++) {
            x.pour(i, 999999, 0);
        }
        Check.equal("eight large bins", x.carbon(), 8 * 999999000L / 2 + 1);
        Check.end();
    }
}
