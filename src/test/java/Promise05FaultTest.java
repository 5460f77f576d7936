/** Promise 5, fault: "The FAULT of the latest laws(); 0." */
public final class Promise05FaultTest {
    private static final String[] WITH_FAULT = {"", "*", "top", "hang 0;", "top 1;top 1;", "pound 1 1;pound 1 1;"};

    public static void main(String[] args) {
        none();
        eachFault();
        theLatest();
        otherCallsKeepIt();
        Due.end();
    }

    private static void none() {
        SlateQuarry x = new SlateQuarry();
        Due.is("ahead of all laws()", x.fault(), 0);
        Due.tape(x, "*");
        Due.is("a text that is not read yet", x.fault(), 0);
        x.end(0);
        x.laws();
        Due.is("an empty text", x.fault(), 0);
    }

    private static void eachFault() {
        for (int fault = 0; fault < WITH_FAULT.length; fault++) {
            SlateQuarry x = new SlateQuarry();
            Due.tape(x, WITH_FAULT[fault]);
            x.laws();
            Due.is("fault of '" + WITH_FAULT[fault] + "'", x.fault(), fault);
            Due.is("again", x.fault(), fault);
        }
    }

    private static void theLatest() {
        SlateQuarry x = new SlateQuarry();
        for (int later = 5; later >= 0; later--) {
            for (int fault = 0; fault <= 5; fault++) {
                Due.tape(x, WITH_FAULT[fault]);
                x.laws();
                Due.is("the latest", x.fault(), fault);
            }
            Due.tape(x, WITH_FAULT[later]);
            x.laws();
            Due.is("the latest", x.fault(), later);
        }
    }

    private static void otherCallsKeepIt() {
        SlateQuarry x = new SlateQuarry();
        Due.fault(x, "hang 0;", 3, 5);
        x.feed(-1);
        Due.is("behind feed", x.fault(), 3);
        x.end(9);
        Due.is("behind a refused end", x.fault(), 3);
        x.end(0);
        Due.is("behind end", x.fault(), 3);
        x.law(0);
        x.gang(1);
        x.let();
        x.month();
        x.sheet(0, 0, -1);
        Due.is("behind others", x.fault(), 3);
        x.laws();
        Due.is("behind laws", x.fault(), 0);
    }
}
