theorem openC_r0 (co : Nat → Int → Int) (d : Int) (o : Int) : openC co d o 0 = updZ (co 0) 0 (co 0 0 + 1) := rfl
theorem openC_r1 (co : Nat → Int → Int) (d : Int) (o : Int) : openC co d o 1 = updZ (co 1) (co 0 0) d := rfl
theorem openC_r2 (co : Nat → Int → Int) (d : Int) (o : Int) : openC co d o 2 = updZ (co 2) (co 0 0) o := rfl
theorem openC_r3 (co : Nat → Int → Int) (d : Int) (o : Int) : openC co d o 3 = updZ (co 3) (co 0 0) 0 := rfl
theorem openC_r4 (co : Nat → Int → Int) (d : Int) (o : Int) : openC co d o 4 = co 4 := rfl
theorem openC_r5 (co : Nat → Int → Int) (d : Int) (o : Int) : openC co d o 5 = co 5 := rfl
theorem openC_r6 (co : Nat → Int → Int) (d : Int) (o : Int) : openC co d o 6 = co 6 := rfl
theorem openC_r7 (co : Nat → Int → Int) (d : Int) (o : Int) : openC co d o 7 = co 7 := rfl
theorem openC_r8 (co : Nat → Int → Int) (d : Int) (o : Int) : openC co d o 8 = co 8 := rfl
theorem openC_r9 (co : Nat → Int → Int) (d : Int) (o : Int) : openC co d o 9 = co 9 := rfl
theorem openC_r10 (co : Nat → Int → Int) (d : Int) (o : Int) : openC co d o 10 = co 10 := rfl
theorem openC_r11 (co : Nat → Int → Int) (d : Int) (o : Int) : openC co d o 11 = co 11 := rfl
theorem openC_r12 (co : Nat → Int → Int) (d : Int) (o : Int) : openC co d o 12 = co 12 := rfl
theorem openC_r13 (co : Nat → Int → Int) (d : Int) (o : Int) : openC co d o 13 = co 13 := rfl
theorem registerC_r0 (co : Nat → Int → Int) (x : Int) : registerC co x 0 = updZ (co 0) 1 (co 0 1 + 1) := rfl
theorem registerC_r1 (co : Nat → Int → Int) (x : Int) : registerC co x 1 = co 1 := rfl
theorem registerC_r2 (co : Nat → Int → Int) (x : Int) : registerC co x 2 = co 2 := rfl
theorem registerC_r3 (co : Nat → Int → Int) (x : Int) : registerC co x 3 = co 3 := rfl
theorem registerC_r4 (co : Nat → Int → Int) (x : Int) : registerC co x 4 = co 4 := rfl
theorem registerC_r5 (co : Nat → Int → Int) (x : Int) : registerC co x 5 = co 5 := rfl
theorem registerC_r6 (co : Nat → Int → Int) (x : Int) : registerC co x 6 = co 6 := rfl
theorem registerC_r7 (co : Nat → Int → Int) (x : Int) : registerC co x 7 = co 7 := rfl
theorem registerC_r8 (co : Nat → Int → Int) (x : Int) : registerC co x 8 = co 8 := rfl
theorem registerC_r9 (co : Nat → Int → Int) (x : Int) : registerC co x 9 = co 9 := rfl
theorem registerC_r10 (co : Nat → Int → Int) (x : Int) : registerC co x 10 = co 10 := rfl
theorem registerC_r11 (co : Nat → Int → Int) (x : Int) : registerC co x 11 = updZ (co 11) (co 0 1) x := rfl
theorem registerC_r12 (co : Nat → Int → Int) (x : Int) : registerC co x 12 = co 12 := rfl
theorem registerC_r13 (co : Nat → Int → Int) (x : Int) : registerC co x 13 = updZ (co 13) (co 0 1) (co 0 1) := rfl
theorem hearC1_r0 (co : Nat → Int → Int) (k : Int) (w : Int) (z : Int) : hearC1 co k w z 0 = co 0 := rfl
theorem hearC1_r1 (co : Nat → Int → Int) (k : Int) (w : Int) (z : Int) : hearC1 co k w z 1 = co 1 := rfl
theorem hearC1_r2 (co : Nat → Int → Int) (k : Int) (w : Int) (z : Int) : hearC1 co k w z 2 = co 2 := rfl
theorem hearC1_r3 (co : Nat → Int → Int) (k : Int) (w : Int) (z : Int) : hearC1 co k w z 3 = co 3 := rfl
theorem hearC1_r4 (co : Nat → Int → Int) (k : Int) (w : Int) (z : Int) : hearC1 co k w z 4 = co 4 := rfl
theorem hearC1_r5 (co : Nat → Int → Int) (k : Int) (w : Int) (z : Int) : hearC1 co k w z 5 = co 5 := rfl
theorem hearC1_r6 (co : Nat → Int → Int) (k : Int) (w : Int) (z : Int) : hearC1 co k w z 6 = updZ (co 6) k (co 6 k + 1) := rfl
theorem hearC1_r7 (co : Nat → Int → Int) (k : Int) (w : Int) (z : Int) : hearC1 co k w z 7 = updZ (co 7) (k * 6 + co 6 k) w := rfl
theorem hearC1_r8 (co : Nat → Int → Int) (k : Int) (w : Int) (z : Int) : hearC1 co k w z 8 = updZ (co 8) (k * 8 + w) 1 := rfl
theorem hearC1_r9 (co : Nat → Int → Int) (k : Int) (w : Int) (z : Int) : hearC1 co k w z 9 = updZ (co 9) (k * 8 + w) z := rfl
theorem hearC1_r10 (co : Nat → Int → Int) (k : Int) (w : Int) (z : Int) : hearC1 co k w z 10 = co 10 := rfl
theorem hearC1_r11 (co : Nat → Int → Int) (k : Int) (w : Int) (z : Int) : hearC1 co k w z 11 = co 11 := rfl
theorem hearC1_r12 (co : Nat → Int → Int) (k : Int) (w : Int) (z : Int) : hearC1 co k w z 12 = co 12 := rfl
theorem hearC1_r13 (co : Nat → Int → Int) (k : Int) (w : Int) (z : Int) : hearC1 co k w z 13 = updZ (co 13) (rtF (co 13) 8 w) (rtF (co 13) 8 ((updZ (co 7) (k * 6 + co 6 k) w) (k * 6 + 0))) := rfl
theorem askC1_r0 (co : Nat → Int → Int) (k : Int) (w : Int) : askC1 co k w 0 = updZ (co 0) 3 (co 0 3 + 1) := rfl
theorem askC1_r1 (co : Nat → Int → Int) (k : Int) (w : Int) : askC1 co k w 1 = co 1 := rfl
theorem askC1_r2 (co : Nat → Int → Int) (k : Int) (w : Int) : askC1 co k w 2 = co 2 := rfl
theorem askC1_r3 (co : Nat → Int → Int) (k : Int) (w : Int) : askC1 co k w 3 = co 3 := rfl
theorem askC1_r4 (co : Nat → Int → Int) (k : Int) (w : Int) : askC1 co k w 4 = co 4 := rfl
theorem askC1_r5 (co : Nat → Int → Int) (k : Int) (w : Int) : askC1 co k w 5 = co 5 := rfl
theorem askC1_r6 (co : Nat → Int → Int) (k : Int) (w : Int) : askC1 co k w 6 = co 6 := rfl
theorem askC1_r7 (co : Nat → Int → Int) (k : Int) (w : Int) : askC1 co k w 7 = co 7 := rfl
theorem askC1_r8 (co : Nat → Int → Int) (k : Int) (w : Int) : askC1 co k w 8 = co 8 := rfl
theorem askC1_r9 (co : Nat → Int → Int) (k : Int) (w : Int) : askC1 co k w 9 = co 9 := rfl
theorem askC1_r10 (co : Nat → Int → Int) (k : Int) (w : Int) : askC1 co k w 10 = updZ (co 10) (k * 8 + w) (co 10 (k * 8 + w) + 1) := rfl
theorem askC1_r11 (co : Nat → Int → Int) (k : Int) (w : Int) : askC1 co k w 11 = updZ (co 11) w (min (co 11 w + 1) 9) := rfl
theorem askC1_r12 (co : Nat → Int → Int) (k : Int) (w : Int) : askC1 co k w 12 = co 12 := rfl
theorem askC1_r13 (co : Nat → Int → Int) (k : Int) (w : Int) : askC1 co k w 13 = co 13 := rfl
theorem hearC0_r0 (co : Nat → Int → Int) (k : Int) (w : Int) (z : Int) : hearC0 co k w z 0 = co 0 := rfl
theorem hearC0_r1 (co : Nat → Int → Int) (k : Int) (w : Int) (z : Int) : hearC0 co k w z 1 = co 1 := rfl
theorem hearC0_r2 (co : Nat → Int → Int) (k : Int) (w : Int) (z : Int) : hearC0 co k w z 2 = co 2 := rfl
theorem hearC0_r3 (co : Nat → Int → Int) (k : Int) (w : Int) (z : Int) : hearC0 co k w z 3 = co 3 := rfl
theorem hearC0_r4 (co : Nat → Int → Int) (k : Int) (w : Int) (z : Int) : hearC0 co k w z 4 = co 4 := rfl
theorem hearC0_r5 (co : Nat → Int → Int) (k : Int) (w : Int) (z : Int) : hearC0 co k w z 5 = co 5 := rfl
theorem hearC0_r6 (co : Nat → Int → Int) (k : Int) (w : Int) (z : Int) : hearC0 co k w z 6 = updZ (co 6) k (co 6 k + 1) := rfl
theorem hearC0_r7 (co : Nat → Int → Int) (k : Int) (w : Int) (z : Int) : hearC0 co k w z 7 = updZ (co 7) (k * 6 + co 6 k) w := rfl
theorem hearC0_r8 (co : Nat → Int → Int) (k : Int) (w : Int) (z : Int) : hearC0 co k w z 8 = updZ (co 8) (k * 8 + w) (-1) := rfl
theorem hearC0_r9 (co : Nat → Int → Int) (k : Int) (w : Int) (z : Int) : hearC0 co k w z 9 = updZ (co 9) (k * 8 + w) z := rfl
theorem hearC0_r10 (co : Nat → Int → Int) (k : Int) (w : Int) (z : Int) : hearC0 co k w z 10 = co 10 := rfl
theorem hearC0_r11 (co : Nat → Int → Int) (k : Int) (w : Int) (z : Int) : hearC0 co k w z 11 = co 11 := rfl
theorem hearC0_r12 (co : Nat → Int → Int) (k : Int) (w : Int) (z : Int) : hearC0 co k w z 12 = co 12 := rfl
theorem hearC0_r13 (co : Nat → Int → Int) (k : Int) (w : Int) (z : Int) : hearC0 co k w z 13 = updZ (co 13) (rtF (co 13) 8 w) (rtF (co 13) 8 ((updZ (co 7) (k * 6 + co 6 k) w) (k * 6 + 0))) := rfl
theorem askC0_r0 (co : Nat → Int → Int) (k : Int) (w : Int) : askC0 co k w 0 = updZ (co 0) 3 (co 0 3 + 1) := rfl
theorem askC0_r1 (co : Nat → Int → Int) (k : Int) (w : Int) : askC0 co k w 1 = co 1 := rfl
theorem askC0_r2 (co : Nat → Int → Int) (k : Int) (w : Int) : askC0 co k w 2 = co 2 := rfl
theorem askC0_r3 (co : Nat → Int → Int) (k : Int) (w : Int) : askC0 co k w 3 = co 3 := rfl
theorem askC0_r4 (co : Nat → Int → Int) (k : Int) (w : Int) : askC0 co k w 4 = co 4 := rfl
theorem askC0_r5 (co : Nat → Int → Int) (k : Int) (w : Int) : askC0 co k w 5 = co 5 := rfl
theorem askC0_r6 (co : Nat → Int → Int) (k : Int) (w : Int) : askC0 co k w 6 = co 6 := rfl
theorem askC0_r7 (co : Nat → Int → Int) (k : Int) (w : Int) : askC0 co k w 7 = co 7 := rfl
theorem askC0_r8 (co : Nat → Int → Int) (k : Int) (w : Int) : askC0 co k w 8 = co 8 := rfl
theorem askC0_r9 (co : Nat → Int → Int) (k : Int) (w : Int) : askC0 co k w 9 = co 9 := rfl
theorem askC0_r10 (co : Nat → Int → Int) (k : Int) (w : Int) : askC0 co k w 10 = updZ (co 10) (k * 8 + w) (co 10 (k * 8 + w) + 1) := rfl
theorem askC0_r11 (co : Nat → Int → Int) (k : Int) (w : Int) : askC0 co k w 11 = updZ (co 11) w (max (co 11 w - 2) 0) := rfl
theorem askC0_r12 (co : Nat → Int → Int) (k : Int) (w : Int) : askC0 co k w 12 = co 12 := rfl
theorem askC0_r13 (co : Nat → Int → Int) (k : Int) (w : Int) : askC0 co k w 13 = co 13 := rfl
theorem judgeC11_r0 (co : Nat → Int → Int) (k : Int) : judgeC11 co k 0 = updZ (co 0) 2 (co 0 2 + 1) := rfl
theorem judgeC11_r1 (co : Nat → Int → Int) (k : Int) : judgeC11 co k 1 = co 1 := rfl
theorem judgeC11_r2 (co : Nat → Int → Int) (k : Int) : judgeC11 co k 2 = co 2 := rfl
theorem judgeC11_r3 (co : Nat → Int → Int) (k : Int) : judgeC11 co k 3 = updZ (co 3) k 2 := rfl
theorem judgeC11_r4 (co : Nat → Int → Int) (k : Int) : judgeC11 co k 4 = updZ (co 4) k 1 := rfl
theorem judgeC11_r5 (co : Nat → Int → Int) (k : Int) : judgeC11 co k 5 = co 5 := rfl
theorem judgeC11_r6 (co : Nat → Int → Int) (k : Int) : judgeC11 co k 6 = co 6 := rfl
theorem judgeC11_r7 (co : Nat → Int → Int) (k : Int) : judgeC11 co k 7 = co 7 := rfl
theorem judgeC11_r8 (co : Nat → Int → Int) (k : Int) : judgeC11 co k 8 = co 8 := rfl
theorem judgeC11_r9 (co : Nat → Int → Int) (k : Int) : judgeC11 co k 9 = co 9 := rfl
theorem judgeC11_r10 (co : Nat → Int → Int) (k : Int) : judgeC11 co k 10 = co 10 := rfl
theorem judgeC11_r11 (co : Nat → Int → Int) (k : Int) : judgeC11 co k 11 = co 11 := rfl
theorem judgeC11_r12 (co : Nat → Int → Int) (k : Int) : judgeC11 co k 12 = updZ (co 12) (co 1 k) (co 12 (co 1 k) + (co 2 k + 1)) := rfl
theorem judgeC11_r13 (co : Nat → Int → Int) (k : Int) : judgeC11 co k 13 = co 13 := rfl
theorem judgeC10_r0 (co : Nat → Int → Int) (k : Int) : judgeC10 co k 0 = updZ (co 0) 2 (co 0 2 + 1) := rfl
theorem judgeC10_r1 (co : Nat → Int → Int) (k : Int) : judgeC10 co k 1 = co 1 := rfl
theorem judgeC10_r2 (co : Nat → Int → Int) (k : Int) : judgeC10 co k 2 = co 2 := rfl
theorem judgeC10_r3 (co : Nat → Int → Int) (k : Int) : judgeC10 co k 3 = updZ (co 3) k 1 := rfl
theorem judgeC10_r4 (co : Nat → Int → Int) (k : Int) : judgeC10 co k 4 = updZ (co 4) k 1 := rfl
theorem judgeC10_r5 (co : Nat → Int → Int) (k : Int) : judgeC10 co k 5 = co 5 := rfl
theorem judgeC10_r6 (co : Nat → Int → Int) (k : Int) : judgeC10 co k 6 = co 6 := rfl
theorem judgeC10_r7 (co : Nat → Int → Int) (k : Int) : judgeC10 co k 7 = co 7 := rfl
theorem judgeC10_r8 (co : Nat → Int → Int) (k : Int) : judgeC10 co k 8 = co 8 := rfl
theorem judgeC10_r9 (co : Nat → Int → Int) (k : Int) : judgeC10 co k 9 = co 9 := rfl
theorem judgeC10_r10 (co : Nat → Int → Int) (k : Int) : judgeC10 co k 10 = co 10 := rfl
theorem judgeC10_r11 (co : Nat → Int → Int) (k : Int) : judgeC10 co k 11 = co 11 := rfl
theorem judgeC10_r12 (co : Nat → Int → Int) (k : Int) : judgeC10 co k 12 = updZ (co 12) (co 1 k) (co 12 (co 1 k) + (co 2 k + 1)) := rfl
theorem judgeC10_r13 (co : Nat → Int → Int) (k : Int) : judgeC10 co k 13 = co 13 := rfl
theorem reopenC1_r0 (co : Nat → Int → Int) (k : Int) : reopenC1 co k 0 = co 0 := rfl
theorem reopenC1_r1 (co : Nat → Int → Int) (k : Int) : reopenC1 co k 1 = co 1 := rfl
theorem reopenC1_r2 (co : Nat → Int → Int) (k : Int) : reopenC1 co k 2 = co 2 := rfl
theorem reopenC1_r3 (co : Nat → Int → Int) (k : Int) : reopenC1 co k 3 = updZ (co 3) k 0 := rfl
theorem reopenC1_r4 (co : Nat → Int → Int) (k : Int) : reopenC1 co k 4 = updZ (co 4) k 0 := rfl
theorem reopenC1_r5 (co : Nat → Int → Int) (k : Int) : reopenC1 co k 5 = updZ (co 5) k (co 5 k + 1) := rfl
theorem reopenC1_r6 (co : Nat → Int → Int) (k : Int) : reopenC1 co k 6 = co 6 := rfl
theorem reopenC1_r7 (co : Nat → Int → Int) (k : Int) : reopenC1 co k 7 = co 7 := rfl
theorem reopenC1_r8 (co : Nat → Int → Int) (k : Int) : reopenC1 co k 8 = co 8 := rfl
theorem reopenC1_r9 (co : Nat → Int → Int) (k : Int) : reopenC1 co k 9 = co 9 := rfl
theorem reopenC1_r10 (co : Nat → Int → Int) (k : Int) : reopenC1 co k 10 = co 10 := rfl
theorem reopenC1_r11 (co : Nat → Int → Int) (k : Int) : reopenC1 co k 11 = co 11 := rfl
theorem reopenC1_r12 (co : Nat → Int → Int) (k : Int) : reopenC1 co k 12 = updZ (co 12) (co 1 k) (co 12 (co 1 k) + (-(co 2 k + 1))) := rfl
theorem reopenC1_r13 (co : Nat → Int → Int) (k : Int) : reopenC1 co k 13 = co 13 := rfl
theorem judgeC01_r0 (co : Nat → Int → Int) (k : Int) : judgeC01 co k 0 = updZ (co 0) 2 (co 0 2 + 1) := rfl
theorem judgeC01_r1 (co : Nat → Int → Int) (k : Int) : judgeC01 co k 1 = co 1 := rfl
theorem judgeC01_r2 (co : Nat → Int → Int) (k : Int) : judgeC01 co k 2 = co 2 := rfl
theorem judgeC01_r3 (co : Nat → Int → Int) (k : Int) : judgeC01 co k 3 = updZ (co 3) k 2 := rfl
theorem judgeC01_r4 (co : Nat → Int → Int) (k : Int) : judgeC01 co k 4 = updZ (co 4) k 0 := rfl
theorem judgeC01_r5 (co : Nat → Int → Int) (k : Int) : judgeC01 co k 5 = co 5 := rfl
theorem judgeC01_r6 (co : Nat → Int → Int) (k : Int) : judgeC01 co k 6 = co 6 := rfl
theorem judgeC01_r7 (co : Nat → Int → Int) (k : Int) : judgeC01 co k 7 = co 7 := rfl
theorem judgeC01_r8 (co : Nat → Int → Int) (k : Int) : judgeC01 co k 8 = co 8 := rfl
theorem judgeC01_r9 (co : Nat → Int → Int) (k : Int) : judgeC01 co k 9 = co 9 := rfl
theorem judgeC01_r10 (co : Nat → Int → Int) (k : Int) : judgeC01 co k 10 = co 10 := rfl
theorem judgeC01_r11 (co : Nat → Int → Int) (k : Int) : judgeC01 co k 11 = co 11 := rfl
theorem judgeC01_r12 (co : Nat → Int → Int) (k : Int) : judgeC01 co k 12 = co 12 := rfl
theorem judgeC01_r13 (co : Nat → Int → Int) (k : Int) : judgeC01 co k 13 = co 13 := rfl
theorem judgeC00_r0 (co : Nat → Int → Int) (k : Int) : judgeC00 co k 0 = updZ (co 0) 2 (co 0 2 + 1) := rfl
theorem judgeC00_r1 (co : Nat → Int → Int) (k : Int) : judgeC00 co k 1 = co 1 := rfl
theorem judgeC00_r2 (co : Nat → Int → Int) (k : Int) : judgeC00 co k 2 = co 2 := rfl
theorem judgeC00_r3 (co : Nat → Int → Int) (k : Int) : judgeC00 co k 3 = updZ (co 3) k 1 := rfl
theorem judgeC00_r4 (co : Nat → Int → Int) (k : Int) : judgeC00 co k 4 = updZ (co 4) k 0 := rfl
theorem judgeC00_r5 (co : Nat → Int → Int) (k : Int) : judgeC00 co k 5 = co 5 := rfl
theorem judgeC00_r6 (co : Nat → Int → Int) (k : Int) : judgeC00 co k 6 = co 6 := rfl
theorem judgeC00_r7 (co : Nat → Int → Int) (k : Int) : judgeC00 co k 7 = co 7 := rfl
theorem judgeC00_r8 (co : Nat → Int → Int) (k : Int) : judgeC00 co k 8 = co 8 := rfl
theorem judgeC00_r9 (co : Nat → Int → Int) (k : Int) : judgeC00 co k 9 = co 9 := rfl
theorem judgeC00_r10 (co : Nat → Int → Int) (k : Int) : judgeC00 co k 10 = co 10 := rfl
theorem judgeC00_r11 (co : Nat → Int → Int) (k : Int) : judgeC00 co k 11 = co 11 := rfl
theorem judgeC00_r12 (co : Nat → Int → Int) (k : Int) : judgeC00 co k 12 = co 12 := rfl
theorem judgeC00_r13 (co : Nat → Int → Int) (k : Int) : judgeC00 co k 13 = co 13 := rfl
theorem reopenC0_r0 (co : Nat → Int → Int) (k : Int) : reopenC0 co k 0 = co 0 := rfl
theorem reopenC0_r1 (co : Nat → Int → Int) (k : Int) : reopenC0 co k 1 = co 1 := rfl
theorem reopenC0_r2 (co : Nat → Int → Int) (k : Int) : reopenC0 co k 2 = co 2 := rfl
theorem reopenC0_r3 (co : Nat → Int → Int) (k : Int) : reopenC0 co k 3 = updZ (co 3) k 0 := rfl
theorem reopenC0_r4 (co : Nat → Int → Int) (k : Int) : reopenC0 co k 4 = updZ (co 4) k 0 := rfl
theorem reopenC0_r5 (co : Nat → Int → Int) (k : Int) : reopenC0 co k 5 = updZ (co 5) k (co 5 k + 1) := rfl
theorem reopenC0_r6 (co : Nat → Int → Int) (k : Int) : reopenC0 co k 6 = co 6 := rfl
theorem reopenC0_r7 (co : Nat → Int → Int) (k : Int) : reopenC0 co k 7 = co 7 := rfl
theorem reopenC0_r8 (co : Nat → Int → Int) (k : Int) : reopenC0 co k 8 = co 8 := rfl
theorem reopenC0_r9 (co : Nat → Int → Int) (k : Int) : reopenC0 co k 9 = co 9 := rfl
theorem reopenC0_r10 (co : Nat → Int → Int) (k : Int) : reopenC0 co k 10 = co 10 := rfl
theorem reopenC0_r11 (co : Nat → Int → Int) (k : Int) : reopenC0 co k 11 = co 11 := rfl
theorem reopenC0_r12 (co : Nat → Int → Int) (k : Int) : reopenC0 co k 12 = co 12 := rfl
theorem reopenC0_r13 (co : Nat → Int → Int) (k : Int) : reopenC0 co k 13 = co 13 := rfl
theorem finishC_r0 (co : Nat → Int → Int) (k : Int) : finishC co k 0 = co 0 := rfl
theorem finishC_r1 (co : Nat → Int → Int) (k : Int) : finishC co k 1 = co 1 := rfl
theorem finishC_r2 (co : Nat → Int → Int) (k : Int) : finishC co k 2 = co 2 := rfl
theorem finishC_r3 (co : Nat → Int → Int) (k : Int) : finishC co k 3 = updZ (co 3) k 2 := rfl
theorem finishC_r4 (co : Nat → Int → Int) (k : Int) : finishC co k 4 = co 4 := rfl
theorem finishC_r5 (co : Nat → Int → Int) (k : Int) : finishC co k 5 = co 5 := rfl
theorem finishC_r6 (co : Nat → Int → Int) (k : Int) : finishC co k 6 = co 6 := rfl
theorem finishC_r7 (co : Nat → Int → Int) (k : Int) : finishC co k 7 = co 7 := rfl
theorem finishC_r8 (co : Nat → Int → Int) (k : Int) : finishC co k 8 = co 8 := rfl
theorem finishC_r9 (co : Nat → Int → Int) (k : Int) : finishC co k 9 = co 9 := rfl
theorem finishC_r10 (co : Nat → Int → Int) (k : Int) : finishC co k 10 = co 10 := rfl
theorem finishC_r11 (co : Nat → Int → Int) (k : Int) : finishC co k 11 = co 11 := rfl
theorem finishC_r12 (co : Nat → Int → Int) (k : Int) : finishC co k 12 = co 12 := rfl
theorem finishC_r13 (co : Nat → Int → Int) (k : Int) : finishC co k 13 = co 13 := rfl
theorem rel_openC {co : Nat → Int → Int} {g : Int → Int} {d o : Int} (hO : OkC co) (h : RelC co g) (hc : co 0 0 < 16) (e4 : co 4 (co 0 0) = 0) (e5 : co 5 (co 0 0) = 0) (e6 : co 6 (co 0 0) = 0) : RelC (openC co d o) (updZ (updZ (clA (updZ g 0 (g 0 + 1)) (co 0 0) 30) (12 + 30 * co 0 0 + 0) d) (12 + 30 * co 0 0 + 1) o) := by
  have hb := hO.b0
  have hw := hO.bw
  have z0 := h.s0
  have z1 := h.s1
  have z2 := h.s2
  have z3 := h.s3
  refine ⟨⟨?_, ?_, ?_, ?_⟩, fun v v0 v1 => ?_, fun q q0 q1 => ⟨?_, fun j j0 j1 => ?_⟩⟩
  · simp only [openC_r0, openC_r1, openC_r2, openC_r3, openC_r4, openC_r5, openC_r6, openC_r7, openC_r8, openC_r9, openC_r10, openC_r11, openC_r12, openC_r13]; simp only [updZ, clA, if_true, if_false]; omega
  · simp only [openC_r0, openC_r1, openC_r2, openC_r3, openC_r4, openC_r5, openC_r6, openC_r7, openC_r8, openC_r9, openC_r10, openC_r11, openC_r12, openC_r13]; simp only [updZ, clA, if_true, if_false]; omega
  · simp only [openC_r0, openC_r1, openC_r2, openC_r3, openC_r4, openC_r5, openC_r6, openC_r7, openC_r8, openC_r9, openC_r10, openC_r11, openC_r12, openC_r13]; simp only [updZ, clA, if_true, if_false]; omega
  · simp only [openC_r0, openC_r1, openC_r2, openC_r3, openC_r4, openC_r5, openC_r6, openC_r7, openC_r8, openC_r9, openC_r10, openC_r11, openC_r12, openC_r13]; simp only [updZ, clA, if_true, if_false]; omega
  · simp only [openC_r0, openC_r1, openC_r2, openC_r3, openC_r4, openC_r5, openC_r6, openC_r7, openC_r8, openC_r9, openC_r10, openC_r11, openC_r12, openC_r13] at v1 ⊢; simp only [updZ, clA, if_true, if_false] at v1 ⊢; have ht := fun e : v < co 0 1 => h.w v0 e; have := ht v1; omega
  · unfold CaR
    simp only [openC_r0, openC_r1, openC_r2, openC_r3, openC_r4, openC_r5, openC_r6, openC_r7, openC_r8, openC_r9, openC_r10, openC_r11, openC_r12, openC_r13] at q1 ⊢
    simp only [updZ, clA, if_true, if_false] at q1 ⊢
    have hc := fun e : q < co 0 0 => h.c q0 e
    unfold CaR at hc
    by_cases e : q = co 0 0
    · subst e; omega
    · have hc := hc (by omega); omega
  · unfold TeR sdC
    simp only [openC_r0, openC_r1, openC_r2, openC_r3, openC_r4, openC_r5, openC_r6, openC_r7, openC_r8, openC_r9, openC_r10, openC_r11, openC_r12, openC_r13] at q1 j1 ⊢
    have q2 : q < co 0 0 := by
      by_cases e : q = co 0 0
      · subst e; omega
      · simp only [updZ, if_true, if_false] at q1; omega
    have b6 := hO.b6 q
    have hc := h.t q0 q2 j0 j1
    unfold TeR sdC at hc
    simp only [updZ, clA, if_true, if_false]
    omega
theorem rel_registerC {co : Nat → Int → Int} {g : Int → Int} {x : Int} (hO : OkC co) (h : RelC co g) (hc : co 0 1 < 8) : RelC (registerC co x) (updZ (updZ g 1 (g 1 + 1)) (4 + co 0 1) x) := by
  have hb := hO.b0
  have hw := hO.bw
  have z0 := h.s0
  have z1 := h.s1
  have z2 := h.s2
  have z3 := h.s3
  refine ⟨⟨?_, ?_, ?_, ?_⟩, fun v v0 v1 => ?_, fun q q0 q1 => ⟨?_, fun j j0 j1 => ?_⟩⟩
  · simp only [registerC_r0, registerC_r1, registerC_r2, registerC_r3, registerC_r4, registerC_r5, registerC_r6, registerC_r7, registerC_r8, registerC_r9, registerC_r10, registerC_r11, registerC_r12, registerC_r13]; simp only [updZ, clA, if_true, if_false]; omega
  · simp only [registerC_r0, registerC_r1, registerC_r2, registerC_r3, registerC_r4, registerC_r5, registerC_r6, registerC_r7, registerC_r8, registerC_r9, registerC_r10, registerC_r11, registerC_r12, registerC_r13]; simp only [updZ, clA, if_true, if_false]; omega
  · simp only [registerC_r0, registerC_r1, registerC_r2, registerC_r3, registerC_r4, registerC_r5, registerC_r6, registerC_r7, registerC_r8, registerC_r9, registerC_r10, registerC_r11, registerC_r12, registerC_r13]; simp only [updZ, clA, if_true, if_false]; omega
  · simp only [registerC_r0, registerC_r1, registerC_r2, registerC_r3, registerC_r4, registerC_r5, registerC_r6, registerC_r7, registerC_r8, registerC_r9, registerC_r10, registerC_r11, registerC_r12, registerC_r13]; simp only [updZ, clA, if_true, if_false]; omega
  · simp only [registerC_r0, registerC_r1, registerC_r2, registerC_r3, registerC_r4, registerC_r5, registerC_r6, registerC_r7, registerC_r8, registerC_r9, registerC_r10, registerC_r11, registerC_r12, registerC_r13] at v1 ⊢; simp only [updZ, clA, if_true, if_false] at v1 ⊢; have ht := fun e : v < co 0 1 => h.w v0 e; rcases (show v = co 0 1 ∨ v < co 0 1 by omega) with e | e
    · subst e; omega
    · have := ht e; omega
  · unfold CaR
    simp only [registerC_r0, registerC_r1, registerC_r2, registerC_r3, registerC_r4, registerC_r5, registerC_r6, registerC_r7, registerC_r8, registerC_r9, registerC_r10, registerC_r11, registerC_r12, registerC_r13] at q1 ⊢
    simp only [updZ, clA, if_true, if_false] at q1 ⊢
    have hc := fun e : q < co 0 0 => h.c q0 e
    unfold CaR at hc
    have hc := hc q1; omega
  · unfold TeR sdC
    simp only [registerC_r0, registerC_r1, registerC_r2, registerC_r3, registerC_r4, registerC_r5, registerC_r6, registerC_r7, registerC_r8, registerC_r9, registerC_r10, registerC_r11, registerC_r12, registerC_r13] at q1 j1 ⊢
    simp only [updZ, clA, if_true, if_false] at q1 j1 ⊢
    have b6 := hO.b6 q
    have hc := h.t q0 q1 j0 j1
    unfold TeR sdC at hc
    omega
theorem rel_hearC1 {co : Nat → Int → Int} {g : Int → Int} {k w z : Int} (hO : OkC co) (h : RelC co g) (hI : TsI co) (k0 : 0 ≤ k) (k1 : k < co 0 0) (w0 : 0 ≤ w) (w1 : w < co 0 1) (hs : co 6 k < 6) (hn : ¬ 0 < co 9 (k * 8 + w)) : RelC (hearC1 co k w z) (updZ (updZ (updZ (updZ (updZ g (12 + 30 * k + (6 + 4 * co 6 k + 0)) w) (12 + 30 * k + (6 + 4 * co 6 k + 1)) 1) (12 + 30 * k + (6 + 4 * co 6 k + 2)) z) (12 + 30 * k + (6 + 4 * co 6 k + 3)) 0) (12 + 30 * k + 5) (co 6 k + 1)) := by
  have hb := hO.b0
  have hw := hO.bw
  have z0 := h.s0
  have z1 := h.s1
  have z2 := h.s2
  have z3 := h.s3
  have h10 := (hI.2.2.2 k w k0 (by omega) w0 (by omega) hn).2
  have h6 := hO.b6 k
  refine ⟨⟨?_, ?_, ?_, ?_⟩, fun v v0 v1 => ?_, fun q q0 q1 => ⟨?_, fun j j0 j1 => ?_⟩⟩
  · simp only [hearC1_r0, hearC1_r1, hearC1_r2, hearC1_r3, hearC1_r4, hearC1_r5, hearC1_r6, hearC1_r7, hearC1_r8, hearC1_r9, hearC1_r10, hearC1_r11, hearC1_r12, hearC1_r13]; simp only [updZ, clA, if_true, if_false]; omega
  · simp only [hearC1_r0, hearC1_r1, hearC1_r2, hearC1_r3, hearC1_r4, hearC1_r5, hearC1_r6, hearC1_r7, hearC1_r8, hearC1_r9, hearC1_r10, hearC1_r11, hearC1_r12, hearC1_r13]; simp only [updZ, clA, if_true, if_false]; omega
  · simp only [hearC1_r0, hearC1_r1, hearC1_r2, hearC1_r3, hearC1_r4, hearC1_r5, hearC1_r6, hearC1_r7, hearC1_r8, hearC1_r9, hearC1_r10, hearC1_r11, hearC1_r12, hearC1_r13]; simp only [updZ, clA, if_true, if_false]; omega
  · simp only [hearC1_r0, hearC1_r1, hearC1_r2, hearC1_r3, hearC1_r4, hearC1_r5, hearC1_r6, hearC1_r7, hearC1_r8, hearC1_r9, hearC1_r10, hearC1_r11, hearC1_r12, hearC1_r13]; simp only [updZ, clA, if_true, if_false]; omega
  · simp only [hearC1_r0, hearC1_r1, hearC1_r2, hearC1_r3, hearC1_r4, hearC1_r5, hearC1_r6, hearC1_r7, hearC1_r8, hearC1_r9, hearC1_r10, hearC1_r11, hearC1_r12, hearC1_r13] at v1 ⊢; simp only [updZ, clA, if_true, if_false] at v1 ⊢; have ht := fun e : v < co 0 1 => h.w v0 e; have := ht v1; omega
  · unfold CaR
    simp only [hearC1_r0, hearC1_r1, hearC1_r2, hearC1_r3, hearC1_r4, hearC1_r5, hearC1_r6, hearC1_r7, hearC1_r8, hearC1_r9, hearC1_r10, hearC1_r11, hearC1_r12, hearC1_r13] at q1 ⊢
    simp only [updZ, clA, if_true, if_false] at q1 ⊢
    have hc := fun e : q < co 0 0 => h.c q0 e
    unfold CaR at hc
    have hc := hc q1; omega
  · unfold TeR sdC
    simp only [hearC1_r0, hearC1_r1, hearC1_r2, hearC1_r3, hearC1_r4, hearC1_r5, hearC1_r6, hearC1_r7, hearC1_r8, hearC1_r9, hearC1_r10, hearC1_r11, hearC1_r12, hearC1_r13] at q1 j1 ⊢
    have b6 := hO.b6 q
    by_cases e : q = k ∧ j = co 6 k
    · obtain ⟨e1, e2⟩ := e
      subst e1
      subst e2
      rw [updZ_at]
      simp only [updZ, clA, if_true, if_false]
      omega
    · have j2 : j < co 6 q := by
        by_cases e2 : q = k
        · subst e2
          simp only [updZ, if_true, if_false] at j1
          omega
        · have j3 : j < updZ (co 6) k (co 6 k + 1) q := j1
          rw [updZ_ne _ _ e2] at j3
          exact j3
      have hy := hO.b7 (q * 6 + j)
      have ha := hI.a q0 q1 j0 j2
      have hne : ¬ q * 8 + co 7 (q * 6 + j) = k * 8 + w := by
        intro z
        have e1 : q = k := by omega
        subst e1
        have e2 : co 7 (q * 6 + j) = w := by omega
        rw [e2] at ha
        exact hn ha.2.1
      rw [updZ_ne (co 7) w (show q * 6 + j ≠ k * 6 + co 6 k by omega), updZ_ne (co 8) 1 hne, updZ_ne (co 9) z hne]
      have hc := h.t q0 q1 j0 j2
      unfold TeR sdC at hc
      simp only [updZ, clA, if_true, if_false]
      omega
theorem rel_hearC0 {co : Nat → Int → Int} {g : Int → Int} {k w z : Int} (hO : OkC co) (h : RelC co g) (hI : TsI co) (k0 : 0 ≤ k) (k1 : k < co 0 0) (w0 : 0 ≤ w) (w1 : w < co 0 1) (hs : co 6 k < 6) (hn : ¬ 0 < co 9 (k * 8 + w)) : RelC (hearC0 co k w z) (updZ (updZ (updZ (updZ (updZ g (12 + 30 * k + (6 + 4 * co 6 k + 0)) w) (12 + 30 * k + (6 + 4 * co 6 k + 1)) 0) (12 + 30 * k + (6 + 4 * co 6 k + 2)) z) (12 + 30 * k + (6 + 4 * co 6 k + 3)) 0) (12 + 30 * k + 5) (co 6 k + 1)) := by
  have hb := hO.b0
  have hw := hO.bw
  have z0 := h.s0
  have z1 := h.s1
  have z2 := h.s2
  have z3 := h.s3
  have h10 := (hI.2.2.2 k w k0 (by omega) w0 (by omega) hn).2
  have h6 := hO.b6 k
  refine ⟨⟨?_, ?_, ?_, ?_⟩, fun v v0 v1 => ?_, fun q q0 q1 => ⟨?_, fun j j0 j1 => ?_⟩⟩
  · simp only [hearC0_r0, hearC0_r1, hearC0_r2, hearC0_r3, hearC0_r4, hearC0_r5, hearC0_r6, hearC0_r7, hearC0_r8, hearC0_r9, hearC0_r10, hearC0_r11, hearC0_r12, hearC0_r13]; simp only [updZ, clA, if_true, if_false]; omega
  · simp only [hearC0_r0, hearC0_r1, hearC0_r2, hearC0_r3, hearC0_r4, hearC0_r5, hearC0_r6, hearC0_r7, hearC0_r8, hearC0_r9, hearC0_r10, hearC0_r11, hearC0_r12, hearC0_r13]; simp only [updZ, clA, if_true, if_false]; omega
  · simp only [hearC0_r0, hearC0_r1, hearC0_r2, hearC0_r3, hearC0_r4, hearC0_r5, hearC0_r6, hearC0_r7, hearC0_r8, hearC0_r9, hearC0_r10, hearC0_r11, hearC0_r12, hearC0_r13]; simp only [updZ, clA, if_true, if_false]; omega
  · simp only [hearC0_r0, hearC0_r1, hearC0_r2, hearC0_r3, hearC0_r4, hearC0_r5, hearC0_r6, hearC0_r7, hearC0_r8, hearC0_r9, hearC0_r10, hearC0_r11, hearC0_r12, hearC0_r13]; simp only [updZ, clA, if_true, if_false]; omega
  · simp only [hearC0_r0, hearC0_r1, hearC0_r2, hearC0_r3, hearC0_r4, hearC0_r5, hearC0_r6, hearC0_r7, hearC0_r8, hearC0_r9, hearC0_r10, hearC0_r11, hearC0_r12, hearC0_r13] at v1 ⊢; simp only [updZ, clA, if_true, if_false] at v1 ⊢; have ht := fun e : v < co 0 1 => h.w v0 e; have := ht v1; omega
  · unfold CaR
    simp only [hearC0_r0, hearC0_r1, hearC0_r2, hearC0_r3, hearC0_r4, hearC0_r5, hearC0_r6, hearC0_r7, hearC0_r8, hearC0_r9, hearC0_r10, hearC0_r11, hearC0_r12, hearC0_r13] at q1 ⊢
    simp only [updZ, clA, if_true, if_false] at q1 ⊢
    have hc := fun e : q < co 0 0 => h.c q0 e
    unfold CaR at hc
    have hc := hc q1; omega
  · unfold TeR sdC
    simp only [hearC0_r0, hearC0_r1, hearC0_r2, hearC0_r3, hearC0_r4, hearC0_r5, hearC0_r6, hearC0_r7, hearC0_r8, hearC0_r9, hearC0_r10, hearC0_r11, hearC0_r12, hearC0_r13] at q1 j1 ⊢
    have b6 := hO.b6 q
    by_cases e : q = k ∧ j = co 6 k
    · obtain ⟨e1, e2⟩ := e
      subst e1
      subst e2
      rw [updZ_at]
      simp only [updZ, clA, if_true, if_false]
      omega
    · have j2 : j < co 6 q := by
        by_cases e2 : q = k
        · subst e2
          simp only [updZ, if_true, if_false] at j1
          omega
        · have j3 : j < updZ (co 6) k (co 6 k + 1) q := j1
          rw [updZ_ne _ _ e2] at j3
          exact j3
      have hy := hO.b7 (q * 6 + j)
      have ha := hI.a q0 q1 j0 j2
      have hne : ¬ q * 8 + co 7 (q * 6 + j) = k * 8 + w := by
        intro z
        have e1 : q = k := by omega
        subst e1
        have e2 : co 7 (q * 6 + j) = w := by omega
        rw [e2] at ha
        exact hn ha.2.1
      rw [updZ_ne (co 7) w (show q * 6 + j ≠ k * 6 + co 6 k by omega), updZ_ne (co 8) (-1) hne, updZ_ne (co 9) z hne]
      have hc := h.t q0 q1 j0 j2
      unfold TeR sdC at hc
      simp only [updZ, clA, if_true, if_false]
      omega
theorem rel_askC1 {co : Nat → Int → Int} {g : Int → Int} {k w : Int} (hO : OkC co) (h : RelC co g) (hI : TsI co) (k0 : 0 ≤ k) (k1 : k < co 0 0) (w0 : 0 ≤ w) (w1 : w < co 0 1) (hh : 0 < co 9 (k * 8 + w)) : RelC (askC1 co k w) (updZ (updZ (updZ g (12 + 30 * k + (6 + 4 * swC co k w + 3)) (co 10 (k * 8 + w) + 1)) (4 + w) (min (co 11 w + 1) 9)) 3 (g 3 + 1)) := by
  have hb := hO.b0
  have hw := hO.bw
  have z0 := h.s0
  have z1 := h.s1
  have z2 := h.s2
  have z3 := h.s3
  have hsp := (swC_iff hO hI k0 k1 w0 (by omega)).mpr hh
  have hsb := swC_b hO k w
  have hsa := swC_at hsp
  refine ⟨⟨?_, ?_, ?_, ?_⟩, fun v v0 v1 => ?_, fun q q0 q1 => ⟨?_, fun j j0 j1 => ?_⟩⟩
  · simp only [askC1_r0, askC1_r1, askC1_r2, askC1_r3, askC1_r4, askC1_r5, askC1_r6, askC1_r7, askC1_r8, askC1_r9, askC1_r10, askC1_r11, askC1_r12, askC1_r13]; simp only [updZ, clA, if_true, if_false]; omega
  · simp only [askC1_r0, askC1_r1, askC1_r2, askC1_r3, askC1_r4, askC1_r5, askC1_r6, askC1_r7, askC1_r8, askC1_r9, askC1_r10, askC1_r11, askC1_r12, askC1_r13]; simp only [updZ, clA, if_true, if_false]; omega
  · simp only [askC1_r0, askC1_r1, askC1_r2, askC1_r3, askC1_r4, askC1_r5, askC1_r6, askC1_r7, askC1_r8, askC1_r9, askC1_r10, askC1_r11, askC1_r12, askC1_r13]; simp only [updZ, clA, if_true, if_false]; omega
  · simp only [askC1_r0, askC1_r1, askC1_r2, askC1_r3, askC1_r4, askC1_r5, askC1_r6, askC1_r7, askC1_r8, askC1_r9, askC1_r10, askC1_r11, askC1_r12, askC1_r13]; simp only [updZ, clA, if_true, if_false]; omega
  · simp only [askC1_r0, askC1_r1, askC1_r2, askC1_r3, askC1_r4, askC1_r5, askC1_r6, askC1_r7, askC1_r8, askC1_r9, askC1_r10, askC1_r11, askC1_r12, askC1_r13] at v1 ⊢; simp only [updZ, clA, if_true, if_false] at v1 ⊢; have ht := fun e : v < co 0 1 => h.w v0 e; have := ht v1; omega
  · unfold CaR
    simp only [askC1_r0, askC1_r1, askC1_r2, askC1_r3, askC1_r4, askC1_r5, askC1_r6, askC1_r7, askC1_r8, askC1_r9, askC1_r10, askC1_r11, askC1_r12, askC1_r13] at q1 ⊢
    simp only [updZ, clA, if_true, if_false] at q1 ⊢
    have hc := fun e : q < co 0 0 => h.c q0 e
    unfold CaR at hc
    have hc := hc q1; omega
  · unfold TeR sdC
    simp only [askC1_r0, askC1_r1, askC1_r2, askC1_r3, askC1_r4, askC1_r5, askC1_r6, askC1_r7, askC1_r8, askC1_r9, askC1_r10, askC1_r11, askC1_r12, askC1_r13] at q1 j1 ⊢
    have b6 := hO.b6 q
    have hy := hO.b7 (q * 6 + j)
    have q2 : q < co 0 0 := q1
    have hc := h.t q0 q2 j0 j1
    unfold TeR sdC at hc
    by_cases e : q = k ∧ j = swC co k w
    · obtain ⟨e1, e2⟩ := e
      subst e1
      subst e2
      rw [hsa] at hc ⊢
      simp only [updZ, clA, if_true, if_false]
      omega
    · have hne : ¬ q * 8 + co 7 (q * 6 + j) = k * 8 + w := by
        intro z
        have e1 : q = k := by omega
        subst e1
        have e2 : co 7 (q * 6 + j) = w := by omega
        rcases (show j < swC co q w ∨ swC co q w < j by omega) with y | y
        · exact hI.2.1 q j (swC co q w) q0 q2 j0 y hsb.2.2 (by rw [e2, hsa])
        · exact hI.2.1 q (swC co q w) j q0 q2 hsp y j1 (by rw [e2, hsa])
      rw [updZ_ne (co 10) _ hne]
      simp only [updZ, clA, if_true, if_false]
      omega
theorem rel_askC0 {co : Nat → Int → Int} {g : Int → Int} {k w : Int} (hO : OkC co) (h : RelC co g) (hI : TsI co) (k0 : 0 ≤ k) (k1 : k < co 0 0) (w0 : 0 ≤ w) (w1 : w < co 0 1) (hh : 0 < co 9 (k * 8 + w)) : RelC (askC0 co k w) (updZ (updZ (updZ g (12 + 30 * k + (6 + 4 * swC co k w + 3)) (co 10 (k * 8 + w) + 1)) (4 + w) (max (co 11 w - 2) 0)) 3 (g 3 + 1)) := by
  have hb := hO.b0
  have hw := hO.bw
  have z0 := h.s0
  have z1 := h.s1
  have z2 := h.s2
  have z3 := h.s3
  have hsp := (swC_iff hO hI k0 k1 w0 (by omega)).mpr hh
  have hsb := swC_b hO k w
  have hsa := swC_at hsp
  refine ⟨⟨?_, ?_, ?_, ?_⟩, fun v v0 v1 => ?_, fun q q0 q1 => ⟨?_, fun j j0 j1 => ?_⟩⟩
  · simp only [askC0_r0, askC0_r1, askC0_r2, askC0_r3, askC0_r4, askC0_r5, askC0_r6, askC0_r7, askC0_r8, askC0_r9, askC0_r10, askC0_r11, askC0_r12, askC0_r13]; simp only [updZ, clA, if_true, if_false]; omega
  · simp only [askC0_r0, askC0_r1, askC0_r2, askC0_r3, askC0_r4, askC0_r5, askC0_r6, askC0_r7, askC0_r8, askC0_r9, askC0_r10, askC0_r11, askC0_r12, askC0_r13]; simp only [updZ, clA, if_true, if_false]; omega
  · simp only [askC0_r0, askC0_r1, askC0_r2, askC0_r3, askC0_r4, askC0_r5, askC0_r6, askC0_r7, askC0_r8, askC0_r9, askC0_r10, askC0_r11, askC0_r12, askC0_r13]; simp only [updZ, clA, if_true, if_false]; omega
  · simp only [askC0_r0, askC0_r1, askC0_r2, askC0_r3, askC0_r4, askC0_r5, askC0_r6, askC0_r7, askC0_r8, askC0_r9, askC0_r10, askC0_r11, askC0_r12, askC0_r13]; simp only [updZ, clA, if_true, if_false]; omega
  · simp only [askC0_r0, askC0_r1, askC0_r2, askC0_r3, askC0_r4, askC0_r5, askC0_r6, askC0_r7, askC0_r8, askC0_r9, askC0_r10, askC0_r11, askC0_r12, askC0_r13] at v1 ⊢; simp only [updZ, clA, if_true, if_false] at v1 ⊢; have ht := fun e : v < co 0 1 => h.w v0 e; have := ht v1; omega
  · unfold CaR
    simp only [askC0_r0, askC0_r1, askC0_r2, askC0_r3, askC0_r4, askC0_r5, askC0_r6, askC0_r7, askC0_r8, askC0_r9, askC0_r10, askC0_r11, askC0_r12, askC0_r13] at q1 ⊢
    simp only [updZ, clA, if_true, if_false] at q1 ⊢
    have hc := fun e : q < co 0 0 => h.c q0 e
    unfold CaR at hc
    have hc := hc q1; omega
  · unfold TeR sdC
    simp only [askC0_r0, askC0_r1, askC0_r2, askC0_r3, askC0_r4, askC0_r5, askC0_r6, askC0_r7, askC0_r8, askC0_r9, askC0_r10, askC0_r11, askC0_r12, askC0_r13] at q1 j1 ⊢
    have b6 := hO.b6 q
    have hy := hO.b7 (q * 6 + j)
    have q2 : q < co 0 0 := q1
    have hc := h.t q0 q2 j0 j1
    unfold TeR sdC at hc
    by_cases e : q = k ∧ j = swC co k w
    · obtain ⟨e1, e2⟩ := e
      subst e1
      subst e2
      rw [hsa] at hc ⊢
      simp only [updZ, clA, if_true, if_false]
      omega
    · have hne : ¬ q * 8 + co 7 (q * 6 + j) = k * 8 + w := by
        intro z
        have e1 : q = k := by omega
        subst e1
        have e2 : co 7 (q * 6 + j) = w := by omega
        rcases (show j < swC co q w ∨ swC co q w < j by omega) with y | y
        · exact hI.2.1 q j (swC co q w) q0 q2 j0 y hsb.2.2 (by rw [e2, hsa])
        · exact hI.2.1 q (swC co q w) j q0 q2 hsp y j1 (by rw [e2, hsa])
      rw [updZ_ne (co 10) _ hne]
      simp only [updZ, clA, if_true, if_false]
      omega
theorem rel_judgeC11 {co : Nat → Int → Int} {g : Int → Int} {k : Int} (hO : OkC co) (h : RelC co g) (k0 : 0 ≤ k) (k1 : k < co 0 0) : RelC (judgeC11 co k) (updZ (updZ (updZ g (12 + 30 * k + 3) 1) (12 + 30 * k + 2) 2) 2 (g 2 + 1)) := by
  have hb := hO.b0
  have hw := hO.bw
  have z0 := h.s0
  have z1 := h.s1
  have z2 := h.s2
  have z3 := h.s3
  refine ⟨⟨?_, ?_, ?_, ?_⟩, fun v v0 v1 => ?_, fun q q0 q1 => ⟨?_, fun j j0 j1 => ?_⟩⟩
  · simp only [judgeC11_r0, judgeC11_r1, judgeC11_r2, judgeC11_r3, judgeC11_r4, judgeC11_r5, judgeC11_r6, judgeC11_r7, judgeC11_r8, judgeC11_r9, judgeC11_r10, judgeC11_r11, judgeC11_r12, judgeC11_r13]; simp only [updZ, clA, if_true, if_false]; omega
  · simp only [judgeC11_r0, judgeC11_r1, judgeC11_r2, judgeC11_r3, judgeC11_r4, judgeC11_r5, judgeC11_r6, judgeC11_r7, judgeC11_r8, judgeC11_r9, judgeC11_r10, judgeC11_r11, judgeC11_r12, judgeC11_r13]; simp only [updZ, clA, if_true, if_false]; omega
  · simp only [judgeC11_r0, judgeC11_r1, judgeC11_r2, judgeC11_r3, judgeC11_r4, judgeC11_r5, judgeC11_r6, judgeC11_r7, judgeC11_r8, judgeC11_r9, judgeC11_r10, judgeC11_r11, judgeC11_r12, judgeC11_r13]; simp only [updZ, clA, if_true, if_false]; omega
  · simp only [judgeC11_r0, judgeC11_r1, judgeC11_r2, judgeC11_r3, judgeC11_r4, judgeC11_r5, judgeC11_r6, judgeC11_r7, judgeC11_r8, judgeC11_r9, judgeC11_r10, judgeC11_r11, judgeC11_r12, judgeC11_r13]; simp only [updZ, clA, if_true, if_false]; omega
  · simp only [judgeC11_r0, judgeC11_r1, judgeC11_r2, judgeC11_r3, judgeC11_r4, judgeC11_r5, judgeC11_r6, judgeC11_r7, judgeC11_r8, judgeC11_r9, judgeC11_r10, judgeC11_r11, judgeC11_r12, judgeC11_r13] at v1 ⊢; simp only [updZ, clA, if_true, if_false] at v1 ⊢; have ht := fun e : v < co 0 1 => h.w v0 e; have := ht v1; omega
  · unfold CaR
    simp only [judgeC11_r0, judgeC11_r1, judgeC11_r2, judgeC11_r3, judgeC11_r4, judgeC11_r5, judgeC11_r6, judgeC11_r7, judgeC11_r8, judgeC11_r9, judgeC11_r10, judgeC11_r11, judgeC11_r12, judgeC11_r13] at q1 ⊢
    simp only [updZ, clA, if_true, if_false] at q1 ⊢
    have hc := fun e : q < co 0 0 => h.c q0 e
    unfold CaR at hc
    have hc := hc q1; omega
  · unfold TeR sdC
    simp only [judgeC11_r0, judgeC11_r1, judgeC11_r2, judgeC11_r3, judgeC11_r4, judgeC11_r5, judgeC11_r6, judgeC11_r7, judgeC11_r8, judgeC11_r9, judgeC11_r10, judgeC11_r11, judgeC11_r12, judgeC11_r13] at q1 j1 ⊢
    simp only [updZ, clA, if_true, if_false] at q1 j1 ⊢
    have b6 := hO.b6 q
    have hc := h.t q0 q1 j0 j1
    unfold TeR sdC at hc
    omega
theorem rel_judgeC10 {co : Nat → Int → Int} {g : Int → Int} {k : Int} (hO : OkC co) (h : RelC co g) (k0 : 0 ≤ k) (k1 : k < co 0 0) : RelC (judgeC10 co k) (updZ (updZ (updZ g (12 + 30 * k + 3) 1) (12 + 30 * k + 2) 1) 2 (g 2 + 1)) := by
  have hb := hO.b0
  have hw := hO.bw
  have z0 := h.s0
  have z1 := h.s1
  have z2 := h.s2
  have z3 := h.s3
  refine ⟨⟨?_, ?_, ?_, ?_⟩, fun v v0 v1 => ?_, fun q q0 q1 => ⟨?_, fun j j0 j1 => ?_⟩⟩
  · simp only [judgeC10_r0, judgeC10_r1, judgeC10_r2, judgeC10_r3, judgeC10_r4, judgeC10_r5, judgeC10_r6, judgeC10_r7, judgeC10_r8, judgeC10_r9, judgeC10_r10, judgeC10_r11, judgeC10_r12, judgeC10_r13]; simp only [updZ, clA, if_true, if_false]; omega
  · simp only [judgeC10_r0, judgeC10_r1, judgeC10_r2, judgeC10_r3, judgeC10_r4, judgeC10_r5, judgeC10_r6, judgeC10_r7, judgeC10_r8, judgeC10_r9, judgeC10_r10, judgeC10_r11, judgeC10_r12, judgeC10_r13]; simp only [updZ, clA, if_true, if_false]; omega
  · simp only [judgeC10_r0, judgeC10_r1, judgeC10_r2, judgeC10_r3, judgeC10_r4, judgeC10_r5, judgeC10_r6, judgeC10_r7, judgeC10_r8, judgeC10_r9, judgeC10_r10, judgeC10_r11, judgeC10_r12, judgeC10_r13]; simp only [updZ, clA, if_true, if_false]; omega
  · simp only [judgeC10_r0, judgeC10_r1, judgeC10_r2, judgeC10_r3, judgeC10_r4, judgeC10_r5, judgeC10_r6, judgeC10_r7, judgeC10_r8, judgeC10_r9, judgeC10_r10, judgeC10_r11, judgeC10_r12, judgeC10_r13]; simp only [updZ, clA, if_true, if_false]; omega
  · simp only [judgeC10_r0, judgeC10_r1, judgeC10_r2, judgeC10_r3, judgeC10_r4, judgeC10_r5, judgeC10_r6, judgeC10_r7, judgeC10_r8, judgeC10_r9, judgeC10_r10, judgeC10_r11, judgeC10_r12, judgeC10_r13] at v1 ⊢; simp only [updZ, clA, if_true, if_false] at v1 ⊢; have ht := fun e : v < co 0 1 => h.w v0 e; have := ht v1; omega
  · unfold CaR
    simp only [judgeC10_r0, judgeC10_r1, judgeC10_r2, judgeC10_r3, judgeC10_r4, judgeC10_r5, judgeC10_r6, judgeC10_r7, judgeC10_r8, judgeC10_r9, judgeC10_r10, judgeC10_r11, judgeC10_r12, judgeC10_r13] at q1 ⊢
    simp only [updZ, clA, if_true, if_false] at q1 ⊢
    have hc := fun e : q < co 0 0 => h.c q0 e
    unfold CaR at hc
    have hc := hc q1; omega
  · unfold TeR sdC
    simp only [judgeC10_r0, judgeC10_r1, judgeC10_r2, judgeC10_r3, judgeC10_r4, judgeC10_r5, judgeC10_r6, judgeC10_r7, judgeC10_r8, judgeC10_r9, judgeC10_r10, judgeC10_r11, judgeC10_r12, judgeC10_r13] at q1 j1 ⊢
    simp only [updZ, clA, if_true, if_false] at q1 j1 ⊢
    have b6 := hO.b6 q
    have hc := h.t q0 q1 j0 j1
    unfold TeR sdC at hc
    omega
theorem rel_reopenC1 {co : Nat → Int → Int} {g : Int → Int} {k : Int} (hO : OkC co) (h : RelC co g) (k0 : 0 ≤ k) (k1 : k < co 0 0) : RelC (reopenC1 co k) (updZ (updZ (updZ g (12 + 30 * k + 4) (co 5 k + 1)) (12 + 30 * k + 2) 0) (12 + 30 * k + 3) 0) := by
  have hb := hO.b0
  have hw := hO.bw
  have z0 := h.s0
  have z1 := h.s1
  have z2 := h.s2
  have z3 := h.s3
  refine ⟨⟨?_, ?_, ?_, ?_⟩, fun v v0 v1 => ?_, fun q q0 q1 => ⟨?_, fun j j0 j1 => ?_⟩⟩
  · simp only [reopenC1_r0, reopenC1_r1, reopenC1_r2, reopenC1_r3, reopenC1_r4, reopenC1_r5, reopenC1_r6, reopenC1_r7, reopenC1_r8, reopenC1_r9, reopenC1_r10, reopenC1_r11, reopenC1_r12, reopenC1_r13]; simp only [updZ, clA, if_true, if_false]; omega
  · simp only [reopenC1_r0, reopenC1_r1, reopenC1_r2, reopenC1_r3, reopenC1_r4, reopenC1_r5, reopenC1_r6, reopenC1_r7, reopenC1_r8, reopenC1_r9, reopenC1_r10, reopenC1_r11, reopenC1_r12, reopenC1_r13]; simp only [updZ, clA, if_true, if_false]; omega
  · simp only [reopenC1_r0, reopenC1_r1, reopenC1_r2, reopenC1_r3, reopenC1_r4, reopenC1_r5, reopenC1_r6, reopenC1_r7, reopenC1_r8, reopenC1_r9, reopenC1_r10, reopenC1_r11, reopenC1_r12, reopenC1_r13]; simp only [updZ, clA, if_true, if_false]; omega
  · simp only [reopenC1_r0, reopenC1_r1, reopenC1_r2, reopenC1_r3, reopenC1_r4, reopenC1_r5, reopenC1_r6, reopenC1_r7, reopenC1_r8, reopenC1_r9, reopenC1_r10, reopenC1_r11, reopenC1_r12, reopenC1_r13]; simp only [updZ, clA, if_true, if_false]; omega
  · simp only [reopenC1_r0, reopenC1_r1, reopenC1_r2, reopenC1_r3, reopenC1_r4, reopenC1_r5, reopenC1_r6, reopenC1_r7, reopenC1_r8, reopenC1_r9, reopenC1_r10, reopenC1_r11, reopenC1_r12, reopenC1_r13] at v1 ⊢; simp only [updZ, clA, if_true, if_false] at v1 ⊢; have ht := fun e : v < co 0 1 => h.w v0 e; have := ht v1; omega
  · unfold CaR
    simp only [reopenC1_r0, reopenC1_r1, reopenC1_r2, reopenC1_r3, reopenC1_r4, reopenC1_r5, reopenC1_r6, reopenC1_r7, reopenC1_r8, reopenC1_r9, reopenC1_r10, reopenC1_r11, reopenC1_r12, reopenC1_r13] at q1 ⊢
    simp only [updZ, clA, if_true, if_false] at q1 ⊢
    have hc := fun e : q < co 0 0 => h.c q0 e
    unfold CaR at hc
    have hc := hc q1; omega
  · unfold TeR sdC
    simp only [reopenC1_r0, reopenC1_r1, reopenC1_r2, reopenC1_r3, reopenC1_r4, reopenC1_r5, reopenC1_r6, reopenC1_r7, reopenC1_r8, reopenC1_r9, reopenC1_r10, reopenC1_r11, reopenC1_r12, reopenC1_r13] at q1 j1 ⊢
    simp only [updZ, clA, if_true, if_false] at q1 j1 ⊢
    have b6 := hO.b6 q
    have hc := h.t q0 q1 j0 j1
    unfold TeR sdC at hc
    omega
theorem rel_judgeC01 {co : Nat → Int → Int} {g : Int → Int} {k : Int} (hO : OkC co) (h : RelC co g) (k0 : 0 ≤ k) (k1 : k < co 0 0) : RelC (judgeC01 co k) (updZ (updZ (updZ g (12 + 30 * k + 3) 0) (12 + 30 * k + 2) 2) 2 (g 2 + 1)) := by
  have hb := hO.b0
  have hw := hO.bw
  have z0 := h.s0
  have z1 := h.s1
  have z2 := h.s2
  have z3 := h.s3
  refine ⟨⟨?_, ?_, ?_, ?_⟩, fun v v0 v1 => ?_, fun q q0 q1 => ⟨?_, fun j j0 j1 => ?_⟩⟩
  · simp only [judgeC01_r0, judgeC01_r1, judgeC01_r2, judgeC01_r3, judgeC01_r4, judgeC01_r5, judgeC01_r6, judgeC01_r7, judgeC01_r8, judgeC01_r9, judgeC01_r10, judgeC01_r11, judgeC01_r12, judgeC01_r13]; simp only [updZ, clA, if_true, if_false]; omega
  · simp only [judgeC01_r0, judgeC01_r1, judgeC01_r2, judgeC01_r3, judgeC01_r4, judgeC01_r5, judgeC01_r6, judgeC01_r7, judgeC01_r8, judgeC01_r9, judgeC01_r10, judgeC01_r11, judgeC01_r12, judgeC01_r13]; simp only [updZ, clA, if_true, if_false]; omega
  · simp only [judgeC01_r0, judgeC01_r1, judgeC01_r2, judgeC01_r3, judgeC01_r4, judgeC01_r5, judgeC01_r6, judgeC01_r7, judgeC01_r8, judgeC01_r9, judgeC01_r10, judgeC01_r11, judgeC01_r12, judgeC01_r13]; simp only [updZ, clA, if_true, if_false]; omega
  · simp only [judgeC01_r0, judgeC01_r1, judgeC01_r2, judgeC01_r3, judgeC01_r4, judgeC01_r5, judgeC01_r6, judgeC01_r7, judgeC01_r8, judgeC01_r9, judgeC01_r10, judgeC01_r11, judgeC01_r12, judgeC01_r13]; simp only [updZ, clA, if_true, if_false]; omega
  · simp only [judgeC01_r0, judgeC01_r1, judgeC01_r2, judgeC01_r3, judgeC01_r4, judgeC01_r5, judgeC01_r6, judgeC01_r7, judgeC01_r8, judgeC01_r9, judgeC01_r10, judgeC01_r11, judgeC01_r12, judgeC01_r13] at v1 ⊢; simp only [updZ, clA, if_true, if_false] at v1 ⊢; have ht := fun e : v < co 0 1 => h.w v0 e; have := ht v1; omega
  · unfold CaR
    simp only [judgeC01_r0, judgeC01_r1, judgeC01_r2, judgeC01_r3, judgeC01_r4, judgeC01_r5, judgeC01_r6, judgeC01_r7, judgeC01_r8, judgeC01_r9, judgeC01_r10, judgeC01_r11, judgeC01_r12, judgeC01_r13] at q1 ⊢
    simp only [updZ, clA, if_true, if_false] at q1 ⊢
    have hc := fun e : q < co 0 0 => h.c q0 e
    unfold CaR at hc
    have hc := hc q1; omega
  · unfold TeR sdC
    simp only [judgeC01_r0, judgeC01_r1, judgeC01_r2, judgeC01_r3, judgeC01_r4, judgeC01_r5, judgeC01_r6, judgeC01_r7, judgeC01_r8, judgeC01_r9, judgeC01_r10, judgeC01_r11, judgeC01_r12, judgeC01_r13] at q1 j1 ⊢
    simp only [updZ, clA, if_true, if_false] at q1 j1 ⊢
    have b6 := hO.b6 q
    have hc := h.t q0 q1 j0 j1
    unfold TeR sdC at hc
    omega
theorem rel_judgeC00 {co : Nat → Int → Int} {g : Int → Int} {k : Int} (hO : OkC co) (h : RelC co g) (k0 : 0 ≤ k) (k1 : k < co 0 0) : RelC (judgeC00 co k) (updZ (updZ (updZ g (12 + 30 * k + 3) 0) (12 + 30 * k + 2) 1) 2 (g 2 + 1)) := by
  have hb := hO.b0
  have hw := hO.bw
  have z0 := h.s0
  have z1 := h.s1
  have z2 := h.s2
  have z3 := h.s3
  refine ⟨⟨?_, ?_, ?_, ?_⟩, fun v v0 v1 => ?_, fun q q0 q1 => ⟨?_, fun j j0 j1 => ?_⟩⟩
  · simp only [judgeC00_r0, judgeC00_r1, judgeC00_r2, judgeC00_r3, judgeC00_r4, judgeC00_r5, judgeC00_r6, judgeC00_r7, judgeC00_r8, judgeC00_r9, judgeC00_r10, judgeC00_r11, judgeC00_r12, judgeC00_r13]; simp only [updZ, clA, if_true, if_false]; omega
  · simp only [judgeC00_r0, judgeC00_r1, judgeC00_r2, judgeC00_r3, judgeC00_r4, judgeC00_r5, judgeC00_r6, judgeC00_r7, judgeC00_r8, judgeC00_r9, judgeC00_r10, judgeC00_r11, judgeC00_r12, judgeC00_r13]; simp only [updZ, clA, if_true, if_false]; omega
  · simp only [judgeC00_r0, judgeC00_r1, judgeC00_r2, judgeC00_r3, judgeC00_r4, judgeC00_r5, judgeC00_r6, judgeC00_r7, judgeC00_r8, judgeC00_r9, judgeC00_r10, judgeC00_r11, judgeC00_r12, judgeC00_r13]; simp only [updZ, clA, if_true, if_false]; omega
  · simp only [judgeC00_r0, judgeC00_r1, judgeC00_r2, judgeC00_r3, judgeC00_r4, judgeC00_r5, judgeC00_r6, judgeC00_r7, judgeC00_r8, judgeC00_r9, judgeC00_r10, judgeC00_r11, judgeC00_r12, judgeC00_r13]; simp only [updZ, clA, if_true, if_false]; omega
  · simp only [judgeC00_r0, judgeC00_r1, judgeC00_r2, judgeC00_r3, judgeC00_r4, judgeC00_r5, judgeC00_r6, judgeC00_r7, judgeC00_r8, judgeC00_r9, judgeC00_r10, judgeC00_r11, judgeC00_r12, judgeC00_r13] at v1 ⊢; simp only [updZ, clA, if_true, if_false] at v1 ⊢; have ht := fun e : v < co 0 1 => h.w v0 e; have := ht v1; omega
  · unfold CaR
    simp only [judgeC00_r0, judgeC00_r1, judgeC00_r2, judgeC00_r3, judgeC00_r4, judgeC00_r5, judgeC00_r6, judgeC00_r7, judgeC00_r8, judgeC00_r9, judgeC00_r10, judgeC00_r11, judgeC00_r12, judgeC00_r13] at q1 ⊢
    simp only [updZ, clA, if_true, if_false] at q1 ⊢
    have hc := fun e : q < co 0 0 => h.c q0 e
    unfold CaR at hc
    have hc := hc q1; omega
  · unfold TeR sdC
    simp only [judgeC00_r0, judgeC00_r1, judgeC00_r2, judgeC00_r3, judgeC00_r4, judgeC00_r5, judgeC00_r6, judgeC00_r7, judgeC00_r8, judgeC00_r9, judgeC00_r10, judgeC00_r11, judgeC00_r12, judgeC00_r13] at q1 j1 ⊢
    simp only [updZ, clA, if_true, if_false] at q1 j1 ⊢
    have b6 := hO.b6 q
    have hc := h.t q0 q1 j0 j1
    unfold TeR sdC at hc
    omega
theorem rel_reopenC0 {co : Nat → Int → Int} {g : Int → Int} {k : Int} (hO : OkC co) (h : RelC co g) (k0 : 0 ≤ k) (k1 : k < co 0 0) : RelC (reopenC0 co k) (updZ (updZ (updZ g (12 + 30 * k + 4) (co 5 k + 1)) (12 + 30 * k + 2) 0) (12 + 30 * k + 3) 0) := by
  have hb := hO.b0
  have hw := hO.bw
  have z0 := h.s0
  have z1 := h.s1
  have z2 := h.s2
  have z3 := h.s3
  refine ⟨⟨?_, ?_, ?_, ?_⟩, fun v v0 v1 => ?_, fun q q0 q1 => ⟨?_, fun j j0 j1 => ?_⟩⟩
  · simp only [reopenC0_r0, reopenC0_r1, reopenC0_r2, reopenC0_r3, reopenC0_r4, reopenC0_r5, reopenC0_r6, reopenC0_r7, reopenC0_r8, reopenC0_r9, reopenC0_r10, reopenC0_r11, reopenC0_r12, reopenC0_r13]; simp only [updZ, clA, if_true, if_false]; omega
  · simp only [reopenC0_r0, reopenC0_r1, reopenC0_r2, reopenC0_r3, reopenC0_r4, reopenC0_r5, reopenC0_r6, reopenC0_r7, reopenC0_r8, reopenC0_r9, reopenC0_r10, reopenC0_r11, reopenC0_r12, reopenC0_r13]; simp only [updZ, clA, if_true, if_false]; omega
  · simp only [reopenC0_r0, reopenC0_r1, reopenC0_r2, reopenC0_r3, reopenC0_r4, reopenC0_r5, reopenC0_r6, reopenC0_r7, reopenC0_r8, reopenC0_r9, reopenC0_r10, reopenC0_r11, reopenC0_r12, reopenC0_r13]; simp only [updZ, clA, if_true, if_false]; omega
  · simp only [reopenC0_r0, reopenC0_r1, reopenC0_r2, reopenC0_r3, reopenC0_r4, reopenC0_r5, reopenC0_r6, reopenC0_r7, reopenC0_r8, reopenC0_r9, reopenC0_r10, reopenC0_r11, reopenC0_r12, reopenC0_r13]; simp only [updZ, clA, if_true, if_false]; omega
  · simp only [reopenC0_r0, reopenC0_r1, reopenC0_r2, reopenC0_r3, reopenC0_r4, reopenC0_r5, reopenC0_r6, reopenC0_r7, reopenC0_r8, reopenC0_r9, reopenC0_r10, reopenC0_r11, reopenC0_r12, reopenC0_r13] at v1 ⊢; simp only [updZ, clA, if_true, if_false] at v1 ⊢; have ht := fun e : v < co 0 1 => h.w v0 e; have := ht v1; omega
  · unfold CaR
    simp only [reopenC0_r0, reopenC0_r1, reopenC0_r2, reopenC0_r3, reopenC0_r4, reopenC0_r5, reopenC0_r6, reopenC0_r7, reopenC0_r8, reopenC0_r9, reopenC0_r10, reopenC0_r11, reopenC0_r12, reopenC0_r13] at q1 ⊢
    simp only [updZ, clA, if_true, if_false] at q1 ⊢
    have hc := fun e : q < co 0 0 => h.c q0 e
    unfold CaR at hc
    have hc := hc q1; omega
  · unfold TeR sdC
    simp only [reopenC0_r0, reopenC0_r1, reopenC0_r2, reopenC0_r3, reopenC0_r4, reopenC0_r5, reopenC0_r6, reopenC0_r7, reopenC0_r8, reopenC0_r9, reopenC0_r10, reopenC0_r11, reopenC0_r12, reopenC0_r13] at q1 j1 ⊢
    simp only [updZ, clA, if_true, if_false] at q1 j1 ⊢
    have b6 := hO.b6 q
    have hc := h.t q0 q1 j0 j1
    unfold TeR sdC at hc
    omega
theorem rel_finishC {co : Nat → Int → Int} {g : Int → Int} {k : Int} (hO : OkC co) (h : RelC co g) (k0 : 0 ≤ k) (k1 : k < co 0 0) : RelC (finishC co k) (updZ g (12 + 30 * k + 2) 2) := by
  have hb := hO.b0
  have hw := hO.bw
  have z0 := h.s0
  have z1 := h.s1
  have z2 := h.s2
  have z3 := h.s3
  refine ⟨⟨?_, ?_, ?_, ?_⟩, fun v v0 v1 => ?_, fun q q0 q1 => ⟨?_, fun j j0 j1 => ?_⟩⟩
  · simp only [finishC_r0, finishC_r1, finishC_r2, finishC_r3, finishC_r4, finishC_r5, finishC_r6, finishC_r7, finishC_r8, finishC_r9, finishC_r10, finishC_r11, finishC_r12, finishC_r13]; simp only [updZ, clA, if_true, if_false]; omega
  · simp only [finishC_r0, finishC_r1, finishC_r2, finishC_r3, finishC_r4, finishC_r5, finishC_r6, finishC_r7, finishC_r8, finishC_r9, finishC_r10, finishC_r11, finishC_r12, finishC_r13]; simp only [updZ, clA, if_true, if_false]; omega
  · simp only [finishC_r0, finishC_r1, finishC_r2, finishC_r3, finishC_r4, finishC_r5, finishC_r6, finishC_r7, finishC_r8, finishC_r9, finishC_r10, finishC_r11, finishC_r12, finishC_r13]; simp only [updZ, clA, if_true, if_false]; omega
  · simp only [finishC_r0, finishC_r1, finishC_r2, finishC_r3, finishC_r4, finishC_r5, finishC_r6, finishC_r7, finishC_r8, finishC_r9, finishC_r10, finishC_r11, finishC_r12, finishC_r13]; simp only [updZ, clA, if_true, if_false]; omega
  · simp only [finishC_r0, finishC_r1, finishC_r2, finishC_r3, finishC_r4, finishC_r5, finishC_r6, finishC_r7, finishC_r8, finishC_r9, finishC_r10, finishC_r11, finishC_r12, finishC_r13] at v1 ⊢; simp only [updZ, clA, if_true, if_false] at v1 ⊢; have ht := fun e : v < co 0 1 => h.w v0 e; have := ht v1; omega
  · unfold CaR
    simp only [finishC_r0, finishC_r1, finishC_r2, finishC_r3, finishC_r4, finishC_r5, finishC_r6, finishC_r7, finishC_r8, finishC_r9, finishC_r10, finishC_r11, finishC_r12, finishC_r13] at q1 ⊢
    simp only [updZ, clA, if_true, if_false] at q1 ⊢
    have hc := fun e : q < co 0 0 => h.c q0 e
    unfold CaR at hc
    have hc := hc q1; omega
  · unfold TeR sdC
    simp only [finishC_r0, finishC_r1, finishC_r2, finishC_r3, finishC_r4, finishC_r5, finishC_r6, finishC_r7, finishC_r8, finishC_r9, finishC_r10, finishC_r11, finishC_r12, finishC_r13] at q1 j1 ⊢
    simp only [updZ, clA, if_true, if_false] at q1 j1 ⊢
    have b6 := hO.b6 q
    have hc := h.t q0 q1 j0 j1
    unfold TeR sdC at hc
    omega
theorem flC_0_2 {co : Nat → Int → Int} {a y z : Int} (h : flC co 0 a y z = 2) : ¬ ((0 ≤ a ∧ a < 6) ∧ (0 ≤ y ∧ y < 5)) := by
  have h : fCh co a y = 2 := h
  unfold fCh at h
  repeat' split at h
  all_goals (first | omega | (refine ⟨?_, ?_⟩ <;> omega) | exact ⟨by assumption, by assumption⟩)
theorem flC_0_4 {co : Nat → Int → Int} {a y z : Int} (h : flC co 0 a y z = 4) : ((0 ≤ a ∧ a < 6) ∧ (0 ≤ y ∧ y < 5)) ∧ (0 ≤ firstZ (fun j => co 1 j = a ∧ co 2 j = y) (co 0 0).toNat ∨ 16 ≤ co 0 0) := by
  have h : fCh co a y = 4 := h
  unfold fCh at h
  repeat' split at h
  all_goals (first | omega | (refine ⟨?_, ?_⟩ <;> omega) | exact ⟨by assumption, by assumption⟩)
theorem flC_1_2 {co : Nat → Int → Int} {a y z : Int} (h : flC co 1 a y z = 2) : ¬ (0 ≤ a ∧ a ≤ 9) := by
  have h : fWi co a = 2 := h
  unfold fWi at h
  repeat' split at h
  all_goals (first | omega | (refine ⟨?_, ?_⟩ <;> omega) | exact ⟨by assumption, by assumption⟩)
theorem flC_1_4 {co : Nat → Int → Int} {a y z : Int} (h : flC co 1 a y z = 4) : (0 ≤ a ∧ a ≤ 9) ∧ 8 ≤ co 0 1 := by
  have h : fWi co a = 4 := h
  unfold fWi at h
  repeat' split at h
  all_goals (first | omega | (refine ⟨?_, ?_⟩ <;> omega) | exact ⟨by assumption, by assumption⟩)
theorem flC_2_1 {co : Nat → Int → Int} {a y z : Int} (h : flC co 2 a y z = 1) : ¬ ((0 ≤ a ∧ a < co 0 0) ∧ (0 ≤ y ∧ y < co 0 1)) := by
  have h : fTe co a y z = 1 := h
  unfold fTe at h
  repeat' split at h
  all_goals (first | omega | (refine ⟨?_, ?_⟩ <;> omega) | exact ⟨by assumption, by assumption⟩)
theorem flC_2_2 {co : Nat → Int → Int} {a y z : Int} (h : flC co 2 a y z = 2) : ((0 ≤ a ∧ a < co 0 0) ∧ (0 ≤ y ∧ y < co 0 1)) ∧ ¬ (1 ≤ z ∧ z ≤ 5) := by
  have h : fTe co a y z = 2 := h
  unfold fTe at h
  repeat' split at h
  all_goals (first | omega | (refine ⟨?_, ?_⟩ <;> omega) | exact ⟨by assumption, by assumption⟩)
theorem flC_2_4 {co : Nat → Int → Int} {a y z : Int} (h : flC co 2 a y z = 4) : ((0 ≤ a ∧ a < co 0 0) ∧ (0 ≤ y ∧ y < co 0 1)) ∧ (1 ≤ z ∧ z ≤ 5) ∧ ¬ (co 3 a = 0 ∧ ¬ 0 < co 9 (a * 8 + y) ∧ co 6 a < 6) := by
  have h : fTe co a y z = 4 := h
  unfold fTe at h
  repeat' split at h
  all_goals (first | omega | (refine ⟨?_, ?_⟩ <;> omega) | exact ⟨by assumption, by assumption⟩)
theorem flC_3_1 {co : Nat → Int → Int} {a y z : Int} (h : flC co 3 a y z = 1) : ¬ ((0 ≤ a ∧ a < co 0 0) ∧ (0 ≤ y ∧ y < co 0 1)) := by
  have h : fQu co a y = 1 := h
  unfold fQu at h
  repeat' split at h
  all_goals (first | omega | (refine ⟨?_, ?_⟩ <;> omega) | exact ⟨by assumption, by assumption⟩)
theorem flC_3_3 {co : Nat → Int → Int} {a y z : Int} (h : flC co 3 a y z = 3) : ((0 ≤ a ∧ a < co 0 0) ∧ (0 ≤ y ∧ y < co 0 1)) ∧ ¬ 0 < co 9 (a * 8 + y) := by
  have h : fQu co a y = 3 := h
  unfold fQu at h
  repeat' split at h
  all_goals (first | omega | (refine ⟨?_, ?_⟩ <;> omega) | exact ⟨by assumption, by assumption⟩)
theorem flC_3_4 {co : Nat → Int → Int} {a y z : Int} (h : flC co 3 a y z = 4) : ((0 ≤ a ∧ a < co 0 0) ∧ (0 ≤ y ∧ y < co 0 1)) ∧ 0 < co 9 (a * 8 + y) ∧ ¬ (co 3 a = 0 ∧ co 10 (a * 8 + y) < 2) := by
  have h : fQu co a y = 4 := h
  unfold fQu at h
  repeat' split at h
  all_goals (first | omega | (refine ⟨?_, ?_⟩ <;> omega) | exact ⟨by assumption, by assumption⟩)
theorem flC_4_1 {co : Nat → Int → Int} {a y z : Int} (h : flC co 4 a y z = 1) : ¬ (0 ≤ a ∧ a < co 0 0) := by
  have h : fDe co a = 1 := h
  unfold fDe at h
  repeat' split at h
  all_goals (first | omega | (refine ⟨?_, ?_⟩ <;> omega) | exact ⟨by assumption, by assumption⟩)
theorem flC_4_4 {co : Nat → Int → Int} {a y z : Int} (h : flC co 4 a y z = 4) : (0 ≤ a ∧ a < co 0 0) ∧ ¬ (co 3 a = 0 ∧ 0 < co 6 a) := by
  have h : fDe co a = 4 := h
  unfold fDe at h
  repeat' split at h
  all_goals (first | omega | (refine ⟨?_, ?_⟩ <;> omega) | exact ⟨by assumption, by assumption⟩)
theorem flC_5_1 {co : Nat → Int → Int} {a y z : Int} (h : flC co 5 a y z = 1) : ¬ (0 ≤ a ∧ a < co 0 0) := by
  have h : fAf co a = 1 := h
  unfold fAf at h
  repeat' split at h
  all_goals (first | omega | (refine ⟨?_, ?_⟩ <;> omega) | exact ⟨by assumption, by assumption⟩)
theorem flC_5_4 {co : Nat → Int → Int} {a y z : Int} (h : flC co 5 a y z = 4) : (0 ≤ a ∧ a < co 0 0) ∧ ¬ co 3 a = 1 := by
  have h : fAf co a = 4 := h
  unfold fAf at h
  repeat' split at h
  all_goals (first | omega | (refine ⟨?_, ?_⟩ <;> omega) | exact ⟨by assumption, by assumption⟩)
theorem flC_6_1 {co : Nat → Int → Int} {a y z : Int} (h : flC co 6 a y z = 1) : ¬ (0 ≤ a ∧ a < co 0 0) := by
  have h : fAf co a = 1 := h
  unfold fAf at h
  repeat' split at h
  all_goals (first | omega | (refine ⟨?_, ?_⟩ <;> omega) | exact ⟨by assumption, by assumption⟩)
theorem flC_6_4 {co : Nat → Int → Int} {a y z : Int} (h : flC co 6 a y z = 4) : (0 ≤ a ∧ a < co 0 0) ∧ ¬ co 3 a = 1 := by
  have h : fAf co a = 4 := h
  unfold fAf at h
  repeat' split at h
  all_goals (first | omega | (refine ⟨?_, ?_⟩ <;> omega) | exact ⟨by assumption, by assumption⟩)
