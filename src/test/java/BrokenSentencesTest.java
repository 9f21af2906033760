import java.io.ByteArrayOutputStream;
import java.io.IOException;
import java.io.InputStream;
import java.io.UncheckedIOException;
import java.nio.file.Files;
import java.nio.file.Path;
import java.util.ArrayList;
import java.util.Arrays;
import java.util.Collections;
import java.util.Comparator;
import java.util.List;
import java.util.TreeSet;
import java.util.stream.IntStream;
import java.util.stream.Stream;
import javax.tools.JavaCompiler;
import javax.tools.ToolProvider;

/**
 * Whether the test of each sentence would fail if the sentence were broken. Each row breaks the class on purpose:
 * words of its source, what stands in their place, and the tests that must fail then. Run from the project's folder.
 */
public final class BrokenSentencesTest {
    private static final Path SOURCE = Path.of("src/main/java/HardestVows.java");
    private static final List<Class<?>> TESTS = List.of(TermsSentencesTest.class, PromiseSentencesTest.class);
    private static final List<String> FAULTS = Collections.synchronizedList(new ArrayList<>());

    private static final String[][] NUMBERS = {
        {"int NONE = -1;", "int NONE = -2;", "theConstant"},
        {"int MONKS = 7;", "int MONKS = 6;", "monksAreSevenAtMost countsOfWhatThereIs whatWhoTells rowsWithoutRoom"},
        {"int MONKS = 7;", "int MONKS = 8;", "monksAreSevenAtMost noRoomForAMonk refusedForWantOfRoom rowsWithoutRoom"},
        {"int LONGEST_HELD = 99;", "int LONGEST_HELD = 100;", "heldIsZeroToNinetyNine heldInAYear keptYearByYear"},
        {"int LONGEST_HELD = 99;", "int LONGEST_HELD = 98;", "heldIsZeroToNinetyNine heldInAYear"},
        {"int LAST_YEAR = 999;", "int LAST_YEAR = 998;", "theYearIsZeroToLast aTerm theNextYear whatPassTells countsOfTerms"},
        {"int LAST_YEAR = 999;", "int LAST_YEAR = 1000;", "theYearIsZeroToLast aTermThatCantBe theNextYear noYearBehindTheLast"},
        {"int MOODS = 10;", "int MOODS = 9;", "theMoodIsZeroToNine aTerm countsOfTerms wordsOfLaws"},
        {"int MOODS = 10;", "int MOODS = 11;", "theMoodIsZeroToNine aTermThatCantBe"},
        {"int LAWS = 6;", "int LAWS = 5;", "sixLaws aLaw countsOfWhatThereIs aLawInForce"},
        {"int LAWS = 6;", "int LAWS = 7;", "sixLaws noRoomForALaw refusedForWantOfRoom"},
        {"int SEEN = 8;", "int SEEN = 7;", "seenIsEightAtMost whatSeenTells whatForgetTells countsOfWhatThereIs"},
        {"int SEEN = 8;", "int SEEN = 9;", "seenIsEightAtMost noRoomForSeen refusedForWantOfRoom"},
        {"int IMAGES = 2;", "int IMAGES = 3;", "whatImagesDoNotKeep noSuchImage backToNoNumber refusedByANumber"},
        {"int IMAGES = 2;", "int IMAGES = 1;", "whatImagesDoNotKeep anImageIsKept backToAnImage"},
        {"int TAPE = 400;", "int TAPE = 399;", "theTapeHasFourHundredBytes moreThanFourHundred theLatestFault"},
        {"int TAPE = 400;", "int TAPE = 420;", "theTapeHasFourHundredBytes moreThanFourHundred"},
        {"int UNDONE = 16;", "int UNDONE = 15;", "theLatestIsUndone countsOfWhatThereIs"},
        {"int UNDONE = 16;", "int UNDONE = 17;", "theLatestIsUndone countsOfWhatThereIs"},
        {"int CLAUSES = 12;", "int CLAUSES = 11;", "twelveClauses whereItStopped ordersAreRun"},
        {"int CLAUSES = 12;", "int CLAUSES = 13;", "twelveClauses"},
        {"int PARTS = 50;", "int PARTS = 49;", "fiftyParts whatCountsAsAPart"},
        {"int PARTS = 50;", "int PARTS = 51;", "fiftyParts whatCountsAsAPart"},
        {"int BRACKETS = 8;", "int BRACKETS = 7;", "eightBrackets"},
        {"int BRACKETS = 8;", "int BRACKETS = 9;", "eightBrackets"},
        {"int GREATEST_NUMBER = 1000;", "int GREATEST_NUMBER = 999;", "parts"},
        {"int GREATEST_NUMBER = 1000;", "int GREATEST_NUMBER = 1001;", "parts"},
        {"int MOST_TIMES = 20;", "int MOST_TIMES = 19;", "timesOfOrders asOftenAsTimesTell"},
        {"int MOST_TIMES = 20;", "int MOST_TIMES = 21;", "timesOfOrders"},
        {"long BOUND = 1000000000L;", "long BOUND = 999999999L;", "beyondTheBound"},
        {"long BOUND = 1000000000L;", "long BOUND = 1000000001L;", "beyondTheBound"},
        {"int MOST_TOLD = 99;", "int MOST_TOLD = 98;", "falls rises shows"},
        {"int MOST_TOLD = 99;", "int MOST_TOLD = 100;", "falls rises shows"},
        {"int USUAL_FALL = 5;", "int USUAL_FALL = 4;", "falls"},
        {"int USUAL_RISE = 1;", "int USUAL_RISE = 2;", "rises"},
        {"int USUAL_BREAKS = 1;", "int USUAL_BREAKS = 0;", "breaks theChanceKept eachPartIsCut"},
        {"int MOST_BELOW = 700;", "int MOST_BELOW = 699;", "whatSoftTells"},
        {"int MOST_BELOW = 700;", "int MOST_BELOW = 701;", "whatSoftTells"},
        {"int LAST_SOFT_YEAR = 100;", "int LAST_SOFT_YEAR = 99;", "notSoftInAHundred softBehindTheLastYear"},
        {"int LAST_SOFT_YEAR = 100;", "int LAST_SOFT_YEAR = 101;", "notSoftInAHundred"},
        {"int KEPT_YEARS = 60;", "int KEPT_YEARS = 59;", "whatKeptTells theChanceKept"},
        {"int KEPT_YEARS = 60;", "int KEPT_YEARS = 61;", "whatKeptTells"},
        {"long ALL_PARTS = 1000000000000L;", "long ALL_PARTS = 1000000000L;", "theChanceKept whatKeptTells"},
        {"int MOST_SEED = 1000000;", "int MOST_SEED = 999999;", "seeds"},
        {"int MOST_SEED = 1000000;", "int MOST_SEED = 1000001;", "seeds yearsThatCantBe"},
        {"int DRAWN_YEARS = 100;", "int DRAWN_YEARS = 99;", "yearsOneToAHundred"},
        {"int DRAWN_YEARS = 100;", "int DRAWN_YEARS = 101;", "yearsOneToAHundred yearsThatCantBe"},
    };

    private static final String[][] CALLS = {
        {"public HardestVows() {", "public HardestVows() {\n        house.addMonk();", "anOrderWithoutMonks"},
        {"return vow >= 0 && vow < VOWS;", "return vow >= 0 && vow <= VOWS;", "vowsAreZeroToSix refusedByANumber ofNone"
            + " putOfANumberThatCantBe giveNoVow seenThatCantBe whatIsSeenIsZeroToNinetyNine theFirstReasonCounts"},
        {"return vow >= 0 && vow < VOWS;", "return vow < VOWS;", "vowsAreZeroToSix putOfANumberThatCantBe ofNone nothingDrawn"},
        {"return hard >= 0 && hard <= HARDEST;", "return hard >= 0 && hard < HARDEST;",
            "hardIsZeroToNinetyNine aMonkIsMade hardIsPut rowsBySevens whatSeenTells whatIsSeenIsZeroToNinetyNine"},
        {"return hard >= 0 && hard <= HARDEST;", "return hard >= 0 && hard <= HARDEST + 1;",
            "hardIsZeroToNinetyNine aMonkTooHard rowsThatCantBe seenThatCantBe putOfANumberThatCantBe"},
        {"return hard >= 0 && hard <= HARDEST;", "return hard <= HARDEST;", "hardIsZeroToNinetyNine aMonkTooHard"},
        {"return monk >= 0 && monk < cells[MONKS_AT];", "return monk >= 0 && monk <= cells[MONKS_AT];",
            "monksAreSevenAtMost refusedAsThereIsNone putOfNoMonk ofNone noSuchMonkHasOne giveToNobody layOfNobody"
            + " swapWithNobody bestOfNone wishedOfNone nothingIsKept nothingDrawn"},
        {"return monk >= 0 && monk < cells[MONKS_AT];", "return monk < cells[MONKS_AT];",
            "monksAreSevenAtMost refusedAsThereIsNone putOfNoMonk ofNone noSuchMonkHasOne giveToNobody layOfNobody"},
        {"case CANT_BE: refused[0]++;", "case CANT_BE: refused[0] = Math.min(500, refused[0] + 1);", "fiveHundredAndTwelveCalls"},
        {"case CANT_BE: refused[0]++;", "case CANT_BE:", "refusedByANumber countsOfRefusals aMonkTooHard"},
        {"case NO_SUCH: refused[1]++;", "case NO_SUCH: refused[0]++;", "refusedAsThereIsNone countsOfRefusals noSuchLaw"},
        {"case NOT_NOW: refused[2]++;", "case NOT_NOW: refused[3]++;", "refusedByWhatStands countsOfRefusals nothingToUndo"},
        {"case NO_ROOM: refused[3]++;", "case NO_ROOM: refused[4]++;", "refusedForWantOfRoom countsOfRefusals noRoomForSeen"},
        {"default: refused[4]++;", "default:", "refusedAsATextOrARow countsOfRefusals noLaw noOrders anEmptyRow"},
        {"if (seed < 0 || seed", "if (house.monks() > 0 && seed < 0 || seed", "theFirstReasonCounts"},
        {"if (!isHard(hard)) {", "if (house.monks() < MONKS && !isHard(hard)) {", "theFirstReasonCounts"},
        {"if (now.lawCount >= LAWS) {", "if (now.lawCount >= LAWS && reader.faultOf(length, false) == NONE) {",
            "theFirstReasonCounts noRoomForALaw"},
        {"house.setHard(monk, vow, hard);\n        }", "house.setHard(monk, vow, vow == 6 ? 0 : hard);\n        }", "aMonkIsMade"},
        {"int before = house.hardOf(monk, vow);\n        house.setHard(monk, vow, hard);",
            "house.setHard(monk, vow, hard);\n        int before = house.hardOf(monk, vow);", "hardIsPut hardIsZeroToNinetyNine"},
        {"case 5: return asked.fallOf(monk, vow);", "case 5: return asked.riseOf(monk, vow);", "ofAMonkAndAVow falls"},
        {"return house.isMonk(monk) ? house.vowOf(monk) : NONE;", "return house.isMonk(monk) ? house.vowOf(0) : NONE;",
            "theVowHeHas"},
        {"int before = ofYear ? house.year() : house.mood();", "int before = house.year();", "aTerm theMoodIsZeroToNine"},
        {"(number >> shift) & 255", "(number >> (24 - shift)) & 255", "twentyBytes"},
        {"(number >> shift) & 255", "(number >> shift) & 127", "twentyBytes rowsThatCantBe"},
        {"if (tapeLength + FED * 4 > TAPE) {", "if (tapeLength + FED * 4 >= TAPE) {", "moreThanFourHundred"},
        {"        tapeLength = n;\n", "", "theFirstBytesAlone"},
        {"if (n < 0 || n > tapeLength) {", "if (n < 0 || n > TAPE) {", "notSoManyBytes"},
        {"if (n < 0 || n > tapeLength) {", "if (n > tapeLength) {", "bytesBelowZero"},
        {"        tapeLength = 0;\n        deeds.trail.clear();", "        deeds.trail.clear();", "aRow"},
        {"if (tapeLength == 0) {", "if (tapeLength < 0) {", "anEmptyRow refusedAsATextOrARow"},
        {"int came = 0;\n        crumbCount = 0;", "int came = 0;", "crumbsOfTheLatestRow"},
        {"if (tapeLength == 0) {", "crumbCount = 0;\n        if (tapeLength == 0) {", "crumbsOfTheLatestRow"},
        {"house.setHard(monk, vow, tape[from + vow]);", "house.setHard(monk, vow, tape[from + 6 - vow]);",
            "rowsBySevens twentyBytes"},
        {"from + VOWS > tapeLength", "from + VOWS > tapeLength + 1", "rowsWithinWhichTheTapeEnds"},
        {"if (isRow(from) && house.monks() < MONKS) {", "if (isRow(from) && house.monks() <= MONKS) {", "rowsWithoutRoom"},
        {"lawCount++;\n            return lawCount - 1;", "lawCount++;\n            return lawCount;", "aLaw sixLaws"},
        {"int length = tapeLength;\n        tapeLength = 0;\n        if (", "int length = tapeLength;\n        if (",
            "aLaw noRoomForALaw noLaw"},
        {"int length = tapeLength;\n        tapeLength = 0;\n        deeds", "int length = tapeLength;\n        deeds",
            "ordersAreRun ordersThatCantBe noOrders"},
        {"faultPlace = reader.faultOf(length, false);", "faultPlace = Math.max(faultPlace, reader.faultOf(length, false));",
            "noFault"},
        {"faultPlace = reader.faultOf(length, true);\n        if (faultPlace != NONE) {",
            "int place = reader.faultOf(length, true);\n        if (place != NONE) {", "theLatestFault noFault noOrders"},
        {"        deeds.stoppedAt = NONE;\n        faultPlace", "        faultPlace", "itDidNotStop"},
        {"int before = now.inForce;\n        now.inForce = law;", "now.inForce = law;\n        int before = now.inForce;",
            "aLawInForce"},
        {"return law >= 0 && law < lawCount;", "return law >= 0 && law <= lawCount;", "noSuchLaw compareNoLaw"},
        {"if (what < 0 || what > house.monks() + 1) {", "if (what < 0) {", "whatFairTells"},
        {"return what == 1 ? chooser.total() : chooser.chosen(what - 2);",
            "return what == 1 ? least : chooser.chosen(what - 2);", "whatFairTells theFairest"},
        {"return i == NONE ? found : NONE;", "return i == NONE ? found - 1 : NONE;", "whatSwapsTells"},
        {"return i == NONE ? found : NONE;", "return found;", "swapsOfNone"},
        {"return lower * 10 + higher;", "return higher * 10 + lower;", "numbersOfExchanges whatSwapsTells"},
        {"if (!house.isMonk(monk) || what < 0 || what > 2) {",
            "monk = house.isMonk(monk) ? monk : 0;\n        if (what < 0 || what > 2) {", "nobodyHides"},
        {"!house.isMonk(monk) || house.vowOf(monk) == NONE) {", "!house.isMonk(monk)) {", "nothingIsKept"},
        {"        now.seenCount = 0;\n", "", "whatForgetTells"},
        {"rules.take(house, now.lawOf(law));", "rules.take(house, now.lawOf(now.inForce));", "lawsCompared whatCompareTells"},
        {"if (house.monks() == 0) {\n            return refuse(NOT_NOW);", "if (house.monks() < 0) {\n            return refuse(NOT_NOW);",
            "yearsWithoutMonks refusedByWhatStands"},
        {"return latest.vowOf(monk);", "return house.vowOf(monk);", "whatDrawnTells whatYearsTells imagesDoNotKeepDraws"},
        {"if (vow == VOWS) {", "if (vow >= VOWS) {", "nothingDrawn"},
        {"        kept.copyFrom(now);\n", "", "anImageIsKept allIsAsItWasThen"},
        {"        now.copyFrom(kept);\n", "", "backToAnImage allIsAsItWasThen"},
        {"if (kept == null) {\n            return refuse(NO_SUCH);", "if (kept == null) {\n            return refuse(CANT_BE);",
            "backToWhatWasNotKept refusedAsThereIsNone"},
        {"now.copyFrom(kept);\n        deeds.trail.clear();", "now.copyFrom(kept);", "nothingIsUndoneBehindBack"},
        {"now.copyFrom(kept);", "now.copyFrom(kept);\n        tapeLength = 0;", "whatImagesDoNotKeep"},
        {"now.copyFrom(kept);", "now.copyFrom(kept);\n        crumbCount = 0;", "whatImagesDoNotKeep"},
        {"now.copyFrom(kept);", "now.copyFrom(kept);\n        faultPlace = NONE;", "whatImagesDoNotKeep"},
        {"now.copyFrom(kept);", "now.copyFrom(kept);\n        deeds.stoppedAt = NONE;", "whatImagesDoNotKeep"},
        {"now.copyFrom(kept);", "now.copyFrom(kept);\n        paper.drawnHouse.copyFrom(house);", "imagesDoNotKeepDraws"},
        {"now.copyFrom(kept);", "now.copyFrom(kept);\n        refused[1] = 0;", "countsOfRefusals"},
        {"case 2: return house.hardOfAllHad();", "case 2: return house.given();", "countsOfWhatThereIs aMonkHasOneVowOrNone"},
        {"case 8: return refused[1];", "case 8: return refused[2];", "countsOfRefusals refusedAsThereIsNone"},
        {"case 12: return now.inForce;", "case 12: return Math.max(0, now.inForce);", "countsOfTerms oneLawIsInForce"},
        {"house.mood();\n            default: return NONE;", "house.mood();\n            default: return 0;", "countsOfNothing"},
        {"        latestRefusal = reason;\n", "", "theLatestRefusal"},
        {"        latestRefusal = 0;\n        return told;", "        return told;", "theLatestWasNotRefused"},
        {"        deeds.trail.clear();\n        return accept(monk);", "        return accept(monk);", "whatEndsUndoing"},
        {"house.setHard(monk, vow, hard);\n        deeds.trail.clear();", "house.setHard(monk, vow, hard);", "whatEndsUndoing"},
        {"house.setMood(value);\n        }\n        deeds.trail.clear();", "house.setMood(value);\n        }", "whatEndsUndoing"},
        {"        deeds.trail.clear();\n        return accept(came);", "        return accept(came);", "whatEndsUndoing"},
    };

    private static final String[][] STATE_AND_TEXTS = {
        {"setVow(monk, NONE);\n            return monk;", "setVow(monk, 0);\n            return monk;",
            "aMonkHasOneVowOrNone heHasNone hasInLaws"},
        {"cells[VOW_AT + monk] = vow;\n            cells[HELD_AT + monk] = 0;", "cells[VOW_AT + monk] = vow;",
            "whatIsGiven heldBehindASwap whatIsLaidDown"},
        {"return cells[VOW_AT + monk] == vow ? cells[HELD_AT + monk] : 0;", "return cells[HELD_AT + monk];",
            "heldIsZeroToNinetyNine heldInLaws ofAMonkAndAVow"},
        {"private int inForce = NONE;", "private int inForce = 0;", "oneLawIsInForce countsOfTerms"},
        {"            seenCount = other.seenCount;\n", "", "allIsAsItWasThen"},
        {"            inForce = other.inForce;\n", "", "allIsAsItWasThen"},
        {"            lawCount = other.lawCount;\n", "", "allIsAsItWasThen"},
        {"            house.copyFrom(other.house);\n", "", "allIsAsItWasThen backToAnImage"},
        {"mark(OFTEN, 1);", "mark(OFTEN, 2);", "asOftenAsTimesTell"},
        {"which == BARS || readsMarkedSum(FIRST_SUM)", "readsMarkedSum(FIRST_SUM)", "clausesOfLaws"},
        {"takesWord(which == GIVE ? \"to\" : \"with\")", "takesWord(\"to\")", "clausesOfOrders"},
        {"if (kind != DIGITS || number < 1 || number > MOST_TIMES) {", "if (kind != DIGITS || number > MOST_TIMES) {",
            "timesOfOrders"},
        {"fine && takesWord(\"or\"); i++", "fine && takesWord(\"or\"); i += TAPE", "testsWithOr"},
        {"fine && takesWord(\"and\"); i++", "fine && takesWord(\"and\"); i += TAPE", "testsWithAnd"},
        {"(kind == '*' || kind == '/' || kind == '%'); i++", "(kind == '*' || kind == '/' || kind == '%'); i += TAPE", "terms"},
        {"if (kind != DIGITS || number >= MONKS) {", "if (kind != DIGITS || number > MONKS) {", "wordsOfOrders"},
        {"which = (which == HAS_WORD ? HAS_WORD : HELD_WORD) + number;",
            "parts++;\n                which = (which == HAS_WORD ? HAS_WORD : HELD_WORD) + number;", "whatCountsAsAPart"},
        {"while (at < length && tape[at] == ' ') {", "while (at < length && tape[at] <= ' ') {", "blanks"},
        {"return sign >= 'a' && sign <= 'z';", "return sign >= 'a' && sign < 'z';", "rowsOfLetters"},
        {"return sign >= 'a' && sign <= 'z';", "return sign > 'a' && sign <= 'z';", "rowsOfLetters"},
        {"return sign >= 'a' && sign <= 'z';", "return sign >= 'a' && sign <= '{';", "rowsOfLetters"},
        {"return sign >= 'a' && sign <= 'z';", "return sign >= '`' && sign <= 'z';", "rowsOfLetters"},
        {"return sign >= '0' && sign <= '9';", "return sign >= '0' && sign < '9';", "rowsOfDigits"},
        {"return sign >= '0' && sign <= '9';", "return sign > '0' && sign <= '9';", "rowsOfDigits"},
        {"return sign >= '0' && sign <= '9';", "return sign >= '0' && sign <= ':';", "rowsOfDigits"},
        {"kind = tape[at];\n                behind++;", "kind = tape[at];\n                behind++;\n"
            + "                while (behind < length && tape[behind] == kind) {\n                    behind++;\n                }",
            "singleBytes"},
        {"if (at >= length) {\n                kind = AT_END;",
            "if (at >= length) {\n                at = Math.max(0, length - 1);\n                kind = AT_END;",
            "theFirstFault noLaw noOrders"},
        {"year mood\";", "mood year\";", "wordsOfLaws"},
        {"case LESS: result = left < right ? 1 : 0;", "case LESS: result = left <= right ? 1 : 0;", "plainTests"},
        {"case MORE: result = left > right ? 1 : 0;", "case MORE: result = left >= right ? 1 : 0;", "plainTests"},
        {"case MINUS: result = left - right;", "case MINUS: result = right - left;", "sums"},
        {"case OVER: result = left / right;", "case OVER: result = Math.floorDiv(left, right);", "dividedByZero"},
        {"case REST: result = left % right;", "case REST: result = Math.floorMod(left, right);", "dividedByZero"},
        {"if (right == 0 && (kind == OVER || kind == REST)) {\n                return false;",
            "if (right == 0 && (kind == OVER || kind == REST)) {\n                right = 1;",
            "dividedByZero aBrokenClauseDoesNotHold oneThatCantBe"},
        {"if (result > BOUND || result < -BOUND) {", "if (result > BOUND) {", "beyondTheBound"},
        {"} else if (isSettled(kind)) {", "} else if (isSettled(kind) && operand < 0) {", "whatCanStillMatter"},
        {"words[4] = house.vowOf(monk);", "words[4] = Math.max(0, house.vowOf(monk));", "hasInLaws"},
        {"(!machine.works(law, condition, words) || machine.told() == 0)", "!machine.works(law, condition, words)",
            "aClauseHolds"},
        {"if (machine.works(law, sum, words)) {", "if (machine.works(law, sum, words) || clause > 0) {",
            "aBrokenClauseDoesNotHold"},
        {"for (int clause = law.clauses - 1; clause >= 0; clause--) {", "for (int clause = 0; clause < law.clauses; clause++) {",
            "falls"},
        {"kind == BREAKS ? TENTHS : MOST_TOLD", "MOST_TOLD", "breaks"},
        {"return Math.max(0, Math.min(kind", "return Math.max(-1, Math.min(kind", "falls rises shows breaks"},
        {"case SHOWS: return house.hardOf(monk, vow);", "case SHOWS: return 0;", "shows"},
        {"boolean isBarred(int monk, int vow) {\n            return told(BARS, monk, vow) != 0;",
            "boolean isBarred(int monk, int vow) {\n            return told(BARS, monk, vow) == 0;", "bars"},
    };

    private static final String[][] DEEDS_AND_PAPER = {
        {"return house.isHad(vow) || told(BARS, monk, vow) != 0 ? NOT_NOW : 0;", "return told(BARS, monk, vow) != 0 ? NOT_NOW : 0;",
            "aVowIsHadByOneMonk whatCanBeGiven giveWhatCantBe whatIsDrawnIsGiven draws"},
        {"return house.isHad(vow) || told(BARS, monk, vow) != 0 ? NOT_NOW : 0;", "return house.isHad(vow) ? NOT_NOW : 0;",
            "whatCanBeGiven giveWhatCantBe refusedByWhatStands oneThatCantBe whatIsDrawnIsGiven"},
        {"if (one == other) {", "if (one == other && house.isMonk(one)) {", "swapWithHimself theFirstReasonCounts"},
        {"if (vowOfOne == NONE || vowOfOther == NONE) {", "if (vowOfOne == NONE && vowOfOther == NONE) {",
            "whoCanSwap swapThatCantBe"},
        {"told(BARS, one, vowOfOther) != 0 || told(BARS, other, vowOfOne) != 0;", "told(BARS, one, vowOfOther) != 0;",
            "whoCanSwap swapThatCantBe"},
        {"house.hardOf(other, vowOfOne) > ahead;", "house.hardOf(other, vowOfOne) >= ahead;",
            "exchangesThatMakeItHarder"},
        {"house.setHard(monk, vow, Math.max(0, Math.min(HARDEST, hard)));", "house.setHard(monk, vow, Math.min(HARDEST, hard));",
            "hardInAYear"},
        {"house.setHard(monk, vow, Math.max(0, Math.min(HARDEST, hard)));", "house.setHard(monk, vow, Math.max(0, hard));",
            "hardInAYear"},
        {"void passYear() {", "void passYear() {\n            house.setYear(house.year() + 1);", "askedAsItWasAhead whatPassTells"},
        {"house.setHard(monk, vow, Math.max(0, hard));", "house.setHard(monk, vow, hard);", "keptYearByYear"},
        {"house.holdOneMore(monk);\n            house.setYear(house.year() + 1);", "house.holdOneMore(monk);", "keptYearByYear"},
        {"house.setVow(monk, vow);\n            return house.hardOf(monk, vow);",
            "house.setVow(monk, vow);\n            return rules.shownBy(monk, vow);", "whatGiveTells"},
        {"            house.setVow(monk, NONE);\n            return vow;", "            return vow;",
            "whatIsLaidDown whatLayTells layOfNothing"},
        {"house.setVow(monk, NONE);\n            return vow;", "house.setVow(monk, NONE);\n            return monk;", "whatLayTells"},
        {"if (vow == NONE) {\n                return NOT_NOW;", "if (vow == NONE) {\n                return NO_SUCH;", "layOfNothing"},
        {"return house.hardOf(one, vowOfOther) + house.hardOf(other, vowOfOne);",
            "return house.hardOf(one, vowOfOne) + house.hardOf(other, vowOfOther);", "whatSwapTells"},
        {"if (house.year() >= LAST_YEAR) {", "if (house.year() > LAST_YEAR) {",
            "theNextYear noYearBehindTheLast refusedByWhatStands oneThatCantBe"},
        {"rules.passYear();\n            return house.year();", "rules.passYear();\n            return house.year() - 1;",
            "whatPassTells theNextYear"},
        {"return trail.length() == 0 ? NOT_NOW", "return trail.length() == 0 ? 0", "nothingToUndo refusedByWhatStands"},
        {"return kinds[length];", "return 3 - kinds[length];", "theLatestIsUndone"},
        {"time < often; time++", "time < Math.min(often, 19); time++", "asOftenAsTimesTell ordersAreRun"},
        {"(machine.works(text, condition, words) && machine.told() != 0)",
            "(!machine.works(text, condition, words) || machine.told() != 0)", "theIfIsAskedEachTime"},
        {"                    setWords();\n                    if (!isWanted", "                    if (!isWanted",
            "theIfIsAskedEachTime done givenAndSum hasAndHeldWithout"},
        {"                    done++;\n", "                    done += 2;\n", "done ordersAreRun"},
        {"            done = 0;\n            latestGiven = NONE;", "            latestGiven = NONE;", "done ordersAreRun"},
        {"            done = 0;\n            latestGiven = NONE;", "            done = 0;", "latest"},
        {"words[3] = house.given();", "words[3] = house.monks();", "givenAndSum"},
        {"words[HELD_WORD + monk] = vow == NONE ? NONE", "words[HELD_WORD + monk] = vow == NONE ? 0", "hasAndHeldWithout"},
        {"if (second != NONE && !machine.works(text, second, words)) {",
            "if (second != NONE && !machine.works(text, second, words) && done > 99) {", "oneThatCantBe"},
        {"latestGiven = giveVow(one, other);", "latestGiven = giveVow(other, one);", "whatOrdersAskFor"},
        {"                        house.copyFrom(houseAhead);\n", "", "allIsAsItWas ordersThatCantBe"},
        {"                        trail.copyFrom(trailAhead);\n", "", "allIsAsItWas nothingToUndo"},
        {"stoppedAt = clause;", "stoppedAt = done;", "whereItStopped"},
        {"stoppedAt = clause;\n                        return NOT_NOW;", "stoppedAt = clause;\n                        return CANT_BE;",
            "ordersThatCantBe oneThatCantBe"},
        {"worth[monk * VOWS + vow] = barred ? CANT : rules.shownBy(monk, vow);",
            "worth[monk * VOWS + vow] = rules.shownBy(monk, vow);", "rowsOfBest whatBestTells whoCanStillWish"},
        {"int own = worth[monk * VOWS + vow];\n            if (own < 0 ||", "int own = worth[monk * VOWS + vow];\n            if (own <= 0 ||",
            "theFirstBest"},
        {"int others = most[(monk + 1) * SETS + (taken | 1 << vow)];", "int others = most[(monk + 1) * SETS + taken];", "rowsOfBest"},
        {"for (int vow = 0; vow < VOWS && goal >= 0; vow++) {", "for (int vow = VOWS - 1; vow >= 0 && goal >= 0; vow--) {",
            "theFirstBest theFairest"},
        {"return monk >= 0 && monk < MONKS ? row[monk] : NO_VOW;", "return monk >= 0 && monk < MONKS - 1 ? row[monk] : NO_VOW;",
            "whatBestTells whatFairTells whatWishedTells"},
        {"allMustHave = true;", "allMustHave = false;", "fairIsForAll notAllCanHaveOne"},
        {"leastCounts = true;", "leastCounts = false;", "theFairest"},
        {"if (house.monks() == 0) {\n                return CANT;", "if (house.monks() < 0) {\n                return CANT;",
            "fairWithoutMonks anOrderWithoutMonks"},
        {"if ((asked[monk] >> vow & 1) != 0 || worthOf(monk, vow) < 0) {", "if (worthOf(monk, vow) < 0) {",
            "whoCanStillWish whatIsWished"},
        {"house.hardOf(monk, vow) < house.hardOf(monk, wish)", "house.hardOf(monk, vow) <= house.hardOf(monk, wish)", "whatIsWished"},
        {"worthOf(other, vow) >= worthOf(monk, vow)", "worthOf(other, vow) > worthOf(monk, vow)", "whomAVowKeeps"},
        {"                asks++;\n", "                asks += 2;\n", "whatWishedTells"},
        {"return isVow(vow) ? house.hardOf(monk, vow) : 0;", "return isVow(vow) ? house.hardOf(monk, vow) : HARDEST;",
            "whatCanBeHidden"},
        {"lie <= HARDEST && ever >= 0; lie += HARDEST", "lie < HARDEST && ever >= 0; lie += HARDEST", "whatCanBeHidden whatHideTells"},
        {"if (hard < least) {", "if (hard <= least) {", "theLowestToHide nothingGained whatCanBeHidden"},
        {"return what == 0 ? vowThen : what == 1 ? shownThen : least;", "return what == 0 ? shownThen : what == 1 ? vowThen : least;",
            "whatHideTells"},
        {"for (int year = 0; year <= LAST_SOFT_YEAR; year++) {",
            "for (int year = 0; year <= LAST_SOFT_YEAR && sheet.year() <= LAST_YEAR; year++) {", "softBehindTheLastYear"},
        {"if (sheet.vowOf(monk) != vow) {", "if (monk >= 0) {", "heldWhileSoft"},
        {"                sheet.setVow(monk, vow);\n", "                sheet.cells[House.VOW_AT + monk] = vow;\n", "heldWhileSoft"},
        {"if (sheet.hardOfAllHad() < below) {", "if (sheet.hardOfAllHad() <= below) {", "theFirstSoftYear whatSoftTells"},
        {"parts = parts * (TENTHS - rules.breaksOf(monk, vow)) / TENTHS;",
            "parts = (parts * (TENTHS - rules.breaksOf(monk, vow)) + TENTHS - 1) / TENTHS;", "eachPartIsCut"},
        {"possible |= 1 << monk;", "possible |= 2 << monk;", "whatWhoTells whoShowsWhatWasSeen"},
        {"for (int i = 0; i < now.seenCount; i++) {", "for (int i = 0; i < Math.min(2, now.seenCount); i++) {", "whoShowsWhatWasSeen"},
        {"if (possible == 0) {", "if (possible < 0) {", "lookAtNobody anOrderWithoutMonks"},
        {"if (alike < fewest) {", "if (alike <= fewest) {", "whatToSeeNext whatLookTells"},
        {"return what == 0 ? vowThen : fewest;", "return what == 0 ? fewest : vowThen;", "whatLookTells whatToSeeNext"},
        {"year < n && drawnHouse.year() < LAST_YEAR; year++", "year < n; year++", "drawsEndAtTheLastYear whatYearsTells"},
        {"if (rules.refusalToGive(vow, monk) == 0) {", "if (rules.refusalToGive(vow, monk) <= 0) {", "whatIsDrawnIsGiven draws"},
        {"                    given++;\n                }\n                rules", "                }\n                rules",
            "whatYearsTells draws"},
        {"% 1000003;", "% 1000033;", "draws seeds"},
        {"drawState * 1103", "drawState * 2207", "draws seeds"},
    };

    /** Classes of the class path, but for those that a folder has: the broken class and the classes inside it. */
    private static final class Loader extends ClassLoader {
        private final Path broken;

        Loader(Path broken) {
            super(ClassLoader.getPlatformClassLoader());
            this.broken = broken;
        }

        @Override
        protected Class<?> findClass(String name) throws ClassNotFoundException {
            Path file = broken.resolve(name + ".class");
            try (InputStream in = Files.exists(file) ? Files.newInputStream(file)
                : BrokenSentencesTest.class.getResourceAsStream("/" + name + ".class")) {
                if (in == null) {
                    throw new ClassNotFoundException(name);
                }
                byte[] code = in.readAllBytes();
                return defineClass(name, code, 0, code.length);
            } catch (IOException e) {
                throw new ClassNotFoundException(name, e);
            }
        }
    }

    private static boolean compiles(String source, Path folder) throws IOException {
        Path file = folder.resolve("HardestVows.java");
        Files.writeString(file, source);
        JavaCompiler compiler = ToolProvider.getSystemJavaCompiler();
        ByteArrayOutputStream said = new ByteArrayOutputStream();
        return compiler.run(null, said, said, "-proc:none", "-d", folder.toString(), file.toString()) == 0;
    }

    private static void ask(String source, String[] row) {
        int at = source.indexOf(row[0]);
        if (at < 0 || source.indexOf(row[0], at + 1) >= 0) {
            FAULTS.add("the class does not have once: " + row[0]);
            return;
        }
        try {
            Path folder = Files.createTempDirectory("broken");
            if (compiles(source.substring(0, at) + row[1] + source.substring(at + row[0].length()), folder)) {
                askTests(new Loader(folder), row);
            } else {
                FAULTS.add("this does not compile: " + row[1]);
            }
            remove(folder);
        } catch (IOException e) {
            throw new UncheckedIOException(e);
        }
    }

    private static void askTests(ClassLoader loader, String[] row) {
        for (String name : row[2].split(" ")) {
            try {
                Class<?> tests = loader.loadClass(testsWith(name).getName());
                Object fails = loader.loadClass("Sentences").getMethod("fails", Class.class, String.class).invoke(null, tests, name);
                if (!Boolean.TRUE.equals(fails)) {
                    FAULTS.add(name + " does not fail by: " + row[1]);
                }
            } catch (ReflectiveOperationException e) {
                FAULTS.add(name + " can't be asked: " + e);
            }
        }
    }

    private static Class<?> testsWith(String name) throws ClassNotFoundException {
        for (Class<?> tests : TESTS) {
            if (Sentences.of(tests).containsKey(name)) {
                return tests;
            }
        }
        throw new ClassNotFoundException("no test " + name);
    }

    private static void remove(Path folder) throws IOException {
        try (Stream<Path> all = Files.walk(folder)) {
            for (Path p : (Iterable<Path>) all.sorted(Comparator.reverseOrder())::iterator) {
                Files.delete(p);
            }
        }
    }

    public static void main(String[] args) throws IOException {
        String source = Files.readString(SOURCE);
        List<String[]> rows = new ArrayList<>();
        for (String[][] some : List.of(NUMBERS, CALLS, STATE_AND_TEXTS, DEEDS_AND_PAPER)) {
            rows.addAll(Arrays.asList(some));
        }
        TreeSet<String> unbroken = new TreeSet<>();
        for (Class<?> tests : TESTS) {
            unbroken.addAll(Sentences.of(tests).keySet());
        }
        int sentences = unbroken.size();
        for (String[] row : rows) {
            unbroken.removeAll(Arrays.asList(row[2].split(" ")));
        }
        IntStream.range(0, rows.size()).parallel().forEach(i -> ask(source, rows.get(i)));
        unbroken.forEach(name -> FAULTS.add(name + " is broken by no row"));
        FAULTS.forEach(System.out::println);
        System.out.println(sentences + " sentences broken in " + rows.size() + " ways, " + FAULTS.size() + " faults");
        if (!FAULTS.isEmpty()) {
            System.exit(1);
        }
    }
}
