theorem openC_r0 (co : Nat → Int → Int) (d : Int) (o : Int) : openC co d o 0 = updZ (co 0) 0 (co 0 0 + 1) := rfl
theorem openC_r1 (co : Nat → Int → Int) (d : Int) (o : Int) : openC co d o 1 = updZ (co 1) (co 0 0) d := rfl
theorem openC_r2 (co : Nat → Int → Int) (d : Int) (o : Int) : openC co d o 2 = updZ (co 2) (co 0 0) o := rfl
theorem openC_r3 (co : Nat → Int → Int) (d : Int) (o : Int) : openC co d o 3 = updZ (co 3) (co 0 0) 0 := rfl
theorem openC_r4 (co : Nat → Int → Int) (d : Int) (o : Int) : openC co d o 4 = co 4 := rfl
theorem openC_r5 (co : Nat → Int → Int) (d : Int) (o : Int) : openC co d o 5 = co 5 := rfl
theorem openC_r6 (co : Nat → Int → Int) (d : Int) (o : Int) : openC co d o 6 = co 6 := rfl
theorem openC_r7 (co : Nat → Int → Int) (d : Int) (o : Int) : openC co d o 7 = co 7 := rfl
theorem openC_r8 (co : Nat → Int → Int) (d : Int) (o : Int) : openC co d o 8 = co 8 := rfl
theorem openC_r9 (co : Nat → Int → Int) (d : Int) (o : Int) : openC co d o 9 = co 9 := rfl
theorem openC_r10 (co : Nat → Int → Int) (d : Int) (o : Int) : openC co d o 10 = co 10 := rfl
theorem openC_r11 (co : Nat → Int → Int) (d : Int) (o : Int) : openC co d o 11 = co 11 := rfl
theorem openC_r12 (co : Nat → Int → Int) (d : Int) (o : Int) : openC co d o 12 = co 12 := rfl
theorem openC_r13 (co : Nat → Int → Int) (d : Int) (o : Int) : openC co d o 13 = co 13 := rfl
theorem registerC_r0 (co : Nat → Int → Int) (x : Int) : registerC co x 0 = updZ (co 0) 1 (co 0 1 + 1) := rfl
theorem registerC_r1 (co : Nat → Int → Int) (x : Int) : registerC co x 1 = co 1 := rfl
theorem registerC_r2 (co : Nat → Int → Int) (x : Int) : registerC co x 2 = co 2 := rfl
theorem registerC_r3 (co : Nat → Int → Int) (x : Int) : registerC co x 3 = co 3 := rfl
theorem registerC_r4 (co : Nat → Int → Int) (x : Int) : registerC co x 4 = co 4 := rfl
theorem registerC_r5 (co : Nat → Int → Int) (x : Int) : registerC co x 5 = co 5 := rfl
theorem registerC_r6 (co : Nat → Int → Int) (x : Int) : registerC co x 6 = co 6 := rfl
theorem registerC_r7 (co : Nat → Int → Int) (x : Int) : registerC co x 7 = co 7 := rfl
theorem registerC_r8 (co : Nat → Int → Int) (x : Int) : registerC co x 8 = co 8 := rfl
theorem registerC_r9 (co : Nat → Int → Int) (x : Int) : registerC co x 9 = co 9 := rfl
theorem registerC_r10 (co : Nat → Int → Int) (x : Int) : registerC co x 10 = co 10 := rfl
theorem registerC_r11 (co : Nat → Int → Int) (x : Int) : registerC co x 11 = updZ (co 11) (co 0 1) x := rfl
theorem registerC_r12 (co : Nat → Int → Int) (x : Int) : registerC co x 12 = co 12 := rfl
theorem registerC_r13 (co : Nat → Int → Int) (x : Int) : registerC co x 13 = updZ (co 13) (co 0 1) (co 0 1) := rfl
theorem hearC1_r0 (co : Nat → Int → Int) (k : Int) (w : Int) (z : Int) : hearC1 co k w z 0 = co 0 := rfl
theorem hearC1_r1 (co : Nat → Int → Int) (k : Int) (w : Int) (z : Int) : hearC1 co k w z 1 = co 1 := rfl
theorem hearC1_r2 (co : Nat → Int → Int) (k : Int) (w : Int) (z : Int) : hearC1 co k w z 2 = co 2 := rfl
theorem hearC1_r3 (co : Nat → Int → Int) (k : Int) (w : Int) (z : Int) : hearC1 co k w z 3 = co 3 := rfl
theorem hearC1_r4 (co : Nat → Int → Int) (k : Int) (w : Int) (z : Int) : hearC1 co k w z 4 = co 4 := rfl
theorem hearC1_r5 (co : Nat → Int → Int) (k : Int) (w : Int) (z : Int) : hearC1 co k w z 5 = co 5 := rfl
theorem hearC1_r6 (co : Nat → Int → Int) (k : Int) (w : Int) (z : Int) : hearC1 co k w z 6 = updZ (co 6) k (co 6 k + 1) := rfl
theorem hearC1_r7 (co : Nat → Int → Int) (k : Int) (w : Int) (z : Int) : hearC1 co k w z 7 = updZ (co 7) (k * 6 + co 6 k) w := rfl
theorem hearC1_r8 (co : Nat → Int → Int) (k : Int) (w : Int) (z : Int) : hearC1 co k w z 8 = updZ (co 8) (k * 8 + w) 1 := rfl
theorem hearC1_r9 (co : Nat → Int → Int) (k : Int) (w : Int) (z : Int) : hearC1 co k w z 9 = updZ (co 9) (k * 8 + w) z := rfl
theorem hearC1_r10 (co : Nat → Int → Int) (k : Int) (w : Int) (z : Int) : hearC1 co k w z 10 = co 10 := rfl
theorem hearC1_r11 (co : Nat → Int → Int) (k : Int) (w : Int) (z : Int) : hearC1 co k w z 11 = co 11 := rfl
theorem hearC1_r12 (co : Nat → Int → Int) (k : Int) (w : Int) (z : Int) : hearC1 co k w z 12 = co 12 := rfl
theorem hearC1_r13 (co : Nat → Int → Int) (k : Int) (w : Int) (z : Int) : hearC1 co k w z 13 = updZ (co 13) (rtF (co 13) 8 w) (rtF (co 13) 8 ((updZ (co 7) (k * 6 + co 6 k) w) (k * 6 + 0))) := rfl
theorem askC1_r0 (co : Nat → Int → Int) (k : Int) (w : Int) : askC1 co k w 0 = updZ (co 0) 3 (co 0 3 + 1) := rfl
theorem askC1_r1 (co : Nat → Int → Int) (k : Int) (w : Int) : askC1 co k w 1 = co 1 := rfl
theorem askC1_r2 (co : Nat → Int → Int) (k : Int) (w : Int) : askC1 co k w 2 = co 2 := rfl
theorem askC1_r3 (co : Nat → Int → Int) (k : Int) (w : Int) : askC1 co k w 3 = co 3 := rfl
theorem askC1_r4 (co : Nat → Int → Int) (k : Int) (w : Int) : askC1 co k w 4 = co 4 := rfl
theorem askC1_r5 (co : Nat → Int → Int) (k : Int) (w : Int) : askC1 co k w 5 = co 5 := rfl
theorem askC1_r6 (co : Nat → Int → Int) (k : Int) (w : Int) : askC1 co k w 6 = co 6 := rfl
theorem askC1_r7 (co : Nat → Int → Int) (k : Int) (w : Int) : askC1 co k w 7 = co 7 := rfl
theorem askC1_r8 (co : Nat → Int → Int) (k : Int) (w : Int) : askC1 co k w 8 = co 8 := rfl
theorem askC1_r9 (co : Nat → Int → Int) (k : Int) (w : Int) : askC1 co k w 9 = co 9 := rfl
theorem askC1_r10 (co : Nat → Int → Int) (k : Int) (w : Int) : askC1 co k w 10 = updZ (co 10) (k * 8 + w) (co 10 (k * 8 + w) + 1) := rfl
theorem askC1_r11 (co : Nat → Int → Int) (k : Int) (w : Int) : askC1 co k w 11 = updZ (co 11) w (min (co 11 w + 1) 9) := rfl
theorem askC1_r12 (co : Nat → Int → Int) (k : Int) (w : Int) : askC1 co k w 12 = co 12 := rfl
theorem askC1_r13 (co : Nat → Int → Int) (k : Int) (w : Int) : askC1 co k w 13 = co 13 := rfl
theorem hearC0_r0 (co : Nat → Int → Int) (k : Int) (w : Int) (z : Int) : hearC0 co k w z 0 = co 0 := rfl
theorem hearC0_r1 (co : Nat → Int → Int) (k : Int) (w : Int) (z : Int) : hearC0 co k w z 1 = co 1 := rfl
theorem hearC0_r2 (co : Nat → Int → Int) (k : Int) (w : Int) (z : Int) : hearC0 co k w z 2 = co 2 := rfl
theorem hearC0_r3 (co : Nat → Int → Int) (k : Int) (w : Int) (z : Int) : hearC0 co k w z 3 = co 3 := rfl
theorem hearC0_r4 (co : Nat → Int → Int) (k : Int) (w : Int) (z : Int) : hearC0 co k w z 4 = co 4 := rfl
theorem hearC0_r5 (co : Nat → Int → Int) (k : Int) (w : Int) (z : Int) : hearC0 co k w z 5 = co 5 := rfl
theorem hearC0_r6 (co : Nat → Int → Int) (k : Int) (w : Int) (z : Int) : hearC0 co k w z 6 = updZ (co 6) k (co 6 k + 1) := rfl
theorem hearC0_r7 (co : Nat → Int → Int) (k : Int) (w : Int) (z : Int) : hearC0 co k w z 7 = updZ (co 7) (k * 6 + co 6 k) w := rfl
theorem hearC0_r8 (co : Nat → Int → Int) (k : Int) (w : Int) (z : Int) : hearC0 co k w z 8 = updZ (co 8) (k * 8 + w) (-1) := rfl
theorem hearC0_r9 (co : Nat → Int → Int) (k : Int) (w : Int) (z : Int) : hearC0 co k w z 9 = updZ (co 9) (k * 8 + w) z := rfl
theorem hearC0_r10 (co : Nat → Int → Int) (k : Int) (w : Int) (z : Int) : hearC0 co k w z 10 = co 10 := rfl
theorem hearC0_r11 (co : Nat → Int → Int) (k : Int) (w : Int) (z : Int) : hearC0 co k w z 11 = co 11 := rfl
theorem hearC0_r12 (co : Nat → Int → Int) (k : Int) (w : Int) (z : Int) : hearC0 co k w z 12 = co 12 := rfl
theorem hearC0_r13 (co : Nat → Int → Int) (k : Int) (w : Int) (z : Int) : hearC0 co k w z 13 = updZ (co 13) (rtF (co 13) 8 w) (rtF (co 13) 8 ((updZ (co 7) (k * 6 + co 6 k) w) (k * 6 + 0))) := rfl
theorem askC0_r0 (co : Nat → Int → Int) (k : Int) (w : Int) : askC0 co k w 0 = updZ (co 0) 3 (co 0 3 + 1) := rfl
theorem askC0_r1 (co : Nat → Int → Int) (k : Int) (w : Int) : askC0 co k w 1 = co 1 := rfl
theorem askC0_r2 (co : Nat → Int → Int) (k : Int) (w : Int) : askC0 co k w 2 = co 2 := rfl
theorem askC0_r3 (co : Nat → Int → Int) (k : Int) (w : Int) : askC0 co k w 3 = co 3 := rfl
theorem askC0_r4 (co : Nat → Int → Int) (k : Int) (w : Int) : askC0 co k w 4 = co 4 := rfl
theorem askC0_r5 (co : Nat → Int → Int) (k : Int) (w : Int) : askC0 co k w 5 = co 5 := rfl
theorem askC0_r6 (co : Nat → Int → Int) (k : Int) (w : Int) : askC0 co k w 6 = co 6 := rfl
theorem askC0_r7 (co : Nat → Int → Int) (k : Int) (w : Int) : askC0 co k w 7 = co 7 := rfl
theorem askC0_r8 (co : Nat → Int → Int) (k : Int) (w : Int) : askC0 co k w 8 = co 8 := rfl
theorem askC0_r9 (co : Nat → Int → Int) (k : Int) (w : Int) : askC0 co k w 9 = co 9 := rfl
theorem askC0_r10 (co : Nat → Int → Int) (k : Int) (w : Int) : askC0 co k w 10 = updZ (co 10) (k * 8 + w) (co 10 (k * 8 + w) + 1) := rfl
theorem askC0_r11 (co : Nat → Int → Int) (k : Int) (w : Int) : askC0 co k w 11 = updZ (co 11) w (max (co 11 w - 2) 0) := rfl
theorem askC0_r12 (co : Nat → Int → Int) (k : Int) (w : Int) : askC0 co k w 12 = co 12 := rfl
theorem askC0_r13 (co : Nat → Int → Int) (k : Int) (w : Int) : askC0 co k w 13 = co 13 := rfl
theorem judgeC11_r0 (co : Nat → Int → Int) (k : Int) : judgeC11 co k 0 = updZ (co 0) 2 (co 0 2 + 1) := rfl
theorem judgeC11_r1 (co : Nat → Int → Int) (k : Int) : judgeC11 co k 1 = co 1 := rfl
theorem judgeC11_r2 (co : Nat → Int → Int) (k : Int) : judgeC11 co k 2 = co 2 := rfl
theorem judgeC11_r3 (co : Nat → Int → Int) (k : Int) : judgeC11 co k 3 = updZ (co 3) k 2 := rfl
theorem judgeC11_r4 (co : Nat → Int → Int) (k : Int) : judgeC11 co k 4 = updZ (co 4) k 1 := rfl
theorem judgeC11_r5 (co : Nat → Int → Int) (k : Int) : judgeC11 co k 5 = co 5 := rfl
theorem judgeC11_r6 (co : Nat → Int → Int) (k : Int) : judgeC11 co k 6 = co 6 := rfl
theorem judgeC11_r7 (co : Nat → Int → Int) (k : Int) : judgeC11 co k 7 = co 7 := rfl
theorem judgeC11_r8 (co : Nat → Int → Int) (k : Int) : judgeC11 co k 8 = co 8 := rfl
theorem judgeC11_r9 (co : Nat → Int → Int) (k : Int) : judgeC11 co k 9 = co 9 := rfl
theorem judgeC11_r10 (co : Nat → Int → Int) (k : Int) : judgeC11 co k 10 = co 10 := rfl
theorem judgeC11_r11 (co : Nat → Int → Int) (k : Int) : judgeC11 co k 11 = co 11 := rfl
theorem judgeC11_r12 (co : Nat → Int → Int) (k : Int) : judgeC11 co k 12 = updZ (co 12) (co 1 k) (co 12 (co 1 k) + (co 2 k + 1)) := rfl
theorem judgeC11_r13 (co : Nat → Int → Int) (k : Int) : judgeC11 co k 13 = co 13 := rfl
theorem judgeC10_r0 (co : Nat → Int → Int) (k : Int) : judgeC10 co k 0 = updZ (co 0) 2 (co 0 2 + 1) := rfl
theorem judgeC10_r1 (co : Nat → Int → Int) (k : Int) : judgeC10 co k 1 = co 1 := rfl
theorem judgeC10_r2 (co : Nat → Int → Int) (k : Int) : judgeC10 co k 2 = co 2 := rfl
theorem judgeC10_r3 (co : Nat → Int → Int) (k : Int) : judgeC10 co k 3 = updZ (co 3) k 1 := rfl
theorem judgeC10_r4 (co : Nat → Int → Int) (k : Int) : judgeC10 co k 4 = updZ (co 4) k 1 := rfl
theorem judgeC10_r5 (co : Nat → Int → Int) (k : Int) : judgeC10 co k 5 = co 5 := rfl
theorem judgeC10_r6 (co : Nat → Int → Int) (k : Int) : judgeC10 co k 6 = co 6 := rfl
theorem judgeC10_r7 (co : Nat → Int → Int) (k : Int) : judgeC10 co k 7 = co 7 := rfl
theorem judgeC10_r8 (co : Nat → Int → Int) (k : Int) : judgeC10 co k 8 = co 8 := rfl
theorem judgeC10_r9 (co : Nat → Int → Int) (k : Int) : judgeC10 co k 9 = co 9 := rfl
theorem judgeC10_r10 (co : Nat → Int → Int) (k : Int) : judgeC10 co k 10 = co 10 := rfl
theorem judgeC10_r11 (co : Nat → Int → Int) (k : Int) : judgeC10 co k 11 = co 11 := rfl
theorem judgeC10_r12 (co : Nat → Int → Int) (k : Int) : judgeC10 co k 12 = updZ (co 12) (co 1 k) (co 12 (co 1 k) + (co 2 k + 1)) := rfl
theorem judgeC10_r13 (co : Nat → Int → Int) (k : Int) : judgeC10 co k 13 = co 13 := rfl
theorem reopenC1_r0 (co : Nat → Int → Int) (k : Int) : reopenC1 co k 0 = co 0 := rfl
theorem reopenC1_r1 (co : Nat → Int → Int) (k : Int) : reopenC1 co k 1 = co 1 := rfl
theorem reopenC1_r2 (co : Nat → Int → Int) (k : Int) : reopenC1 co k 2 = co 2 := rfl
theorem reopenC1_r3 (co : Nat → Int → Int) (k : Int) : reopenC1 co k 3 = updZ (co 3) k 0 := rfl
theorem reopenC1_r4 (co : Nat → Int → Int) (k : Int) : reopenC1 co k 4 = updZ (co 4) k 0 := rfl
theorem reopenC1_r5 (co : Nat → Int → Int) (k : Int) : reopenC1 co k 5 = updZ (co 5) k (co 5 k + 1) := rfl
theorem reopenC1_r6 (co : Nat → Int → Int) (k : Int) : reopenC1 co k 6 = co 6 := rfl
theorem reopenC1_r7 (co : Nat → Int → Int) (k : Int) : reopenC1 co k 7 = co 7 := rfl
theorem reopenC1_r8 (co : Nat → Int → Int) (k : Int) : reopenC1 co k 8 = co 8 := rfl
theorem reopenC1_r9 (co : Nat → Int → Int) (k : Int) : reopenC1 co k 9 = co 9 := rfl
theorem reopenC1_r10 (co : Nat → Int → Int) (k : Int) : reopenC1 co k 10 = co 10 := rfl
theorem reopenC1_r11 (co : Nat → Int → Int) (k : Int) : reopenC1 co k 11 = co 11 := rfl
theorem reopenC1_r12 (co : Nat → Int → Int) (k : Int) : reopenC1 co k 12 = updZ (co 12) (co 1 k) (co 12 (co 1 k) + (-(co 2 k + 1))) := rfl
theorem reopenC1_r13 (co : Nat → Int → Int) (k : Int) : reopenC1 co k 13 = co 13 := rfl
theorem judgeC01_r0 (co : Nat → Int → Int) (k : Int) : judgeC01 co k 0 = updZ (co 0) 2 (co 0 2 + 1) := rfl
theorem judgeC01_r1 (co : Nat → Int → Int) (k : Int) : judgeC01 co k 1 = co 1 := rfl
theorem judgeC01_r2 (co : Nat → Int → Int) (k : Int) : judgeC01 co k 2 = co 2 := rfl
theorem judgeC01_r3 (co : Nat → Int → Int) (k : Int) : judgeC01 co k 3 = updZ (co 3) k 2 := rfl
theorem judgeC01_r4 (co : Nat → Int → Int) (k : Int) : judgeC01 co k 4 = updZ (co 4) k 0 := rfl
theorem judgeC01_r5 (co : Nat → Int → Int) (k : Int) : judgeC01 co k 5 = co 5 := rfl
theorem judgeC01_r6 (co : Nat → Int → Int) (k : Int) : judgeC01 co k 6 = co 6 := rfl
theorem judgeC01_r7 (co : Nat → Int → Int) (k : Int) : judgeC01 co k 7 = co 7 := rfl
theorem judgeC01_r8 (co : Nat → Int → Int) (k : Int) : judgeC01 co k 8 = co 8 := rfl
theorem judgeC01_r9 (co : Nat → Int → Int) (k : Int) : judgeC01 co k 9 = co 9 := rfl
theorem judgeC01_r10 (co : Nat → Int → Int) (k : Int) : judgeC01 co k 10 = co 10 := rfl
theorem judgeC01_r11 (co : Nat → Int → Int) (k : Int) : judgeC01 co k 11 = co 11 := rfl
theorem judgeC01_r12 (co : Nat → Int → Int) (k : Int) : judgeC01 co k 12 = co 12 := rfl
theorem judgeC01_r13 (co : Nat → Int → Int) (k : Int) : judgeC01 co k 13 = co 13 := rfl
theorem judgeC00_r0 (co : Nat → Int → Int) (k : Int) : judgeC00 co k 0 = updZ (co 0) 2 (co 0 2 + 1) := rfl
theorem judgeC00_r1 (co : Nat → Int → Int) (k : Int) : judgeC00 co k 1 = co 1 := rfl
theorem judgeC00_r2 (co : Nat → Int → Int) (k : Int) : judgeC00 co k 2 = co 2 := rfl
theorem judgeC00_r3 (co : Nat → Int → Int) (k : Int) : judgeC00 co k 3 = updZ (co 3) k 1 := rfl
theorem judgeC00_r4 (co : Nat → Int → Int) (k : Int) : judgeC00 co k 4 = updZ (co 4) k 0 := rfl
theorem judgeC00_r5 (co : Nat → Int → Int) (k : Int) : judgeC00 co k 5 = co 5 := rfl
theorem judgeC00_r6 (co : Nat → Int → Int) (k : Int) : judgeC00 co k 6 = co 6 := rfl
theorem judgeC00_r7 (co : Nat → Int → Int) (k : Int) : judgeC00 co k 7 = co 7 := rfl
theorem judgeC00_r8 (co : Nat → Int → Int) (k : Int) : judgeC00 co k 8 = co 8 := rfl
theorem judgeC00_r9 (co : Nat → Int → Int) (k : Int) : judgeC00 co k 9 = co 9 := rfl
theorem judgeC00_r10 (co : Nat → Int → Int) (k : Int) : judgeC00 co k 10 = co 10 := rfl
theorem judgeC00_r11 (co : Nat → Int → Int) (k : Int) : judgeC00 co k 11 = co 11 := rfl
theorem judgeC00_r12 (co : Nat → Int → Int) (k : Int) : judgeC00 co k 12 = co 12 := rfl
theorem judgeC00_r13 (co : Nat → Int → Int) (k : Int) : judgeC00 co k 13 = co 13 := rfl
theorem reopenC0_r0 (co : Nat → Int → Int) (k : Int) : reopenC0 co k 0 = co 0 := rfl
theorem reopenC0_r1 (co : Nat → Int → Int) (k : Int) : reopenC0 co k 1 = co 1 := rfl
theorem reopenC0_r2 (co : Nat → Int → Int) (k : Int) : reopenC0 co k 2 = co 2 := rfl
theorem reopenC0_r3 (co : Nat → Int → Int) (k : Int) : reopenC0 co k 3 = updZ (co 3) k 0 := rfl
theorem reopenC0_r4 (co : Nat → Int → Int) (k : Int) : reopenC0 co k 4 = updZ (co 4) k 0 := rfl
theorem reopenC0_r5 (co : Nat → Int → Int) (k : Int) : reopenC0 co k 5 = updZ (co 5) k (co 5 k + 1) := rfl
theorem reopenC0_r6 (co : Nat → Int → Int) (k : Int) : reopenC0 co k 6 = co 6 := rfl
theorem reopenC0_r7 (co : Nat → Int → Int) (k : Int) : reopenC0 co k 7 = co 7 := rfl
theorem reopenC0_r8 (co : Nat → Int → Int) (k : Int) : reopenC0 co k 8 = co 8 := rfl
theorem reopenC0_r9 (co : Nat → Int → Int) (k : Int) : reopenC0 co k 9 = co 9 := rfl
theorem reopenC0_r10 (co : Nat → Int → Int) (k : Int) : reopenC0 co k 10 = co 10 := rfl
theorem reopenC0_r11 (co : Nat → Int → Int) (k : Int) : reopenC0 co k 11 = co 11 := rfl
theorem reopenC0_r12 (co : Nat → Int → Int) (k : Int) : reopenC0 co k 12 = co 12 := rfl
theorem reopenC0_r13 (co : Nat → Int → Int) (k : Int) : reopenC0 co k 13 = co 13 := rfl
theorem finishC_r0 (co : Nat → Int → Int) (k : Int) : finishC co k 0 = co 0 := rfl
theorem finishC_r1 (co : Nat → Int → Int) (k : Int) : finishC co k 1 = co 1 := rfl
theorem finishC_r2 (co : Nat → Int → Int) (k : Int) : finishC co k 2 = co 2 := rfl
theorem finishC_r3 (co : Nat → Int → Int) (k : Int) : finishC co k 3 = updZ (co 3) k 2 := rfl
theorem finishC_r4 (co : Nat → Int → Int) (k : Int) : finishC co k 4 = co 4 := rfl
theorem finishC_r5 (co : Nat → Int → Int) (k : Int) : finishC co k 5 = co 5 := rfl
theorem finishC_r6 (co : Nat → Int → Int) (k : Int) : finishC co k 6 = co 6 := rfl
theorem finishC_r7 (co : Nat → Int → Int) (k : Int) : finishC co k 7 = co 7 := rfl
theorem finishC_r8 (co : Nat → Int → Int) (k : Int) : finishC co k 8 = co 8 := rfl
theorem finishC_r9 (co : Nat → Int → Int) (k : Int) : finishC co k 9 = co 9 := rfl
theorem finishC_r10 (co : Nat → Int → Int) (k : Int) : finishC co k 10 = co 10 := rfl
theorem finishC_r11 (co : Nat → Int → Int) (k : Int) : finishC co k 11 = co 11 := rfl
theorem finishC_r12 (co : Nat → Int → Int) (k : Int) : finishC co k 12 = co 12 := rfl
theorem finishC_r13 (co : Nat → Int → Int) (k : Int) : finishC co k 13 = co 13 := rfl
theorem rel_openC {co : Nat → Int → Int} {g : Int → Int} {d o : Int} (hO : OkC co) (h : RelC co g) (hc : co 0 0 < 16) (e4 : co 4 (co 0 0) = 0) (e5 : co 5 (co 0 0) = 0) (e6 : co 6 (co 0 0) = 0) : RelC (openC co d o) (updZ (updZ (clA (updZ g 0 (g 0 + 1)) (co 0 0) 30) (12 + 30 * co 0 0 + 0) d) (12 + 30 * co 0 0 + 1) o) := by
  have hb := hO.b0
  have hw := hO.bw
  have z0 := h.s0
  have z1 := h.s1
  have z2 := h.s2
  have z3 := h.s3
  refine ⟨⟨?_, ?_, ?_, ?_⟩, fun v v0 v1 => ?_, fun q q0 q1 => ⟨?_, fun j j0 j1 => ?_⟩⟩
  · simp only [openC_r0, openC_r1, openC_r2, openC_r3, openC_r4, openC_r5, openC_r6, openC_r7, openC_r8, openC_r9, openC_r10, openC_r11, openC_r12, openC_r13]; simp only [updZ, clA]; omega
  · simp only [openC_r0, openC_r1, openC_r2, openC_r3, openC_r4, openC_r5, openC_r6, openC_r7, openC_r8, openC_r9, openC_r10, openC_r11, openC_r12, openC_r13]; simp only [updZ, clA]; omega
  · simp only [openC_r0, openC_r1, openC_r2, openC_r3, openC_r4, openC_r5, openC_r6, openC_r7, openC_r8, openC_r9, openC_r10, openC_r11, openC_r12, openC_r13]; simp only [updZ, clA]; omega
  · simp only [openC_r0, openC_r1, openC_r2, openC_r3, openC_r4, openC_r5, openC_r6, openC_r7, openC_r8, openC_r9, openC_r10, openC_r11, openC_r12, openC_r13]; simp only [updZ, clA]; omega
  · simp only [openC_r0, openC_r1, openC_r2, openC_r3, openC_r4, openC_r5, openC_r6, openC_r7, openC_r8, openC_r9, openC_r10, openC_r11, openC_r12, openC_r13] at v1 ⊢; simp only [updZ, clA] at v1 ⊢; have ht := fun e : v < co 0 1 => h.w v0 e; have := ht v1; omega
  · unfold CaR
    simp only [openC_r0, openC_r1, openC_r2, openC_r3, openC_r4, openC_r5, openC_r6, openC_r7, openC_r8, openC_r9, openC_r10, openC_r11, openC_r12, openC_r13] at q1 ⊢
    simp only [updZ, clA] at q1 ⊢
    have hc := fun e : q < co 0 0 => h.c q0 e
    unfold CaR at hc
    by_cases e : q = co 0 0
    · subst e; omega
    · have hc := hc (by omega); omega
  · unfold TeR sdC
    simp only [openC_r0, openC_r1, openC_r2, openC_r3, openC_r4, openC_r5, openC_r6, openC_r7, openC_r8, openC_r9, openC_r10, openC_r11, openC_r12, openC_r13] at q1 j1 ⊢
    have q2 : q < co 0 0 := by
      by_cases e : q = co 0 0
      · subst e; omega
      · simp only [updZ] at q1; omega
    have b6 := hO.b6 q
    have hc := h.t q0 q2 j0 j1
    unfold TeR sdC at hc
    simp only [updZ, clA]
    omega
