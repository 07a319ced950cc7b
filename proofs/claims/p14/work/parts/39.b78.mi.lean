section
variable {g0 : gG} {w : gW}
theorem i_M2 {a0 : Nat} {x : Int64} (hw : w.1 a0 = some (.inr (7, [.int 0, .long 0, .int 0, .null, .null, .null, .null, .null, .null, .int 0, .null, .null, .int 0, .null, .null, .null, .null, .null, .int 0, .null, .null, .null, .null, .null, .null, .null, .null]))) (hl : a0 < w.2) :
    ∃ (w' : gW) (tm : Int64), f_M_init g0 a0 x w = some (.inr (), w') ∧ w'.1 a0 = some (.inr (7, [.int 0, .long tm, .int 0, .ref (w.2 + 0), .ref (w.2 + 1), .ref (w.2 + 2), .ref (w.2 + 3), .ref (w.2 + 4), .ref (w.2 + 5), .int 0, .ref (w.2 + 6), .ref (w.2 + 7), .int 0, .ref (w.2 + 8), .ref (w.2 + 9), .ref (w.2 + 10), .ref (w.2 + 11), .ref (w.2 + 12), .int 0, .ref (w.2 + 13), .ref (w.2 + 14), .ref (w.2 + 15), .ref (w.2 + 16), .ref (w.2 + 17), .ref (w.2 + 18), .ref (w.2 + 19), .ref (w.2 + 20)])) ∧ w'.1 (w.2 + 0) = some (.inl (0, 30, fun _ => .int 0)) ∧ w'.1 (w.2 + 1) = some (.inl (0, 360, fun _ => .int 0)) ∧ w'.1 (w.2 + 2) = some (.inl (1, 2160, fun _ => .long 0)) ∧ w'.1 (w.2 + 3) = some (.inl (0, 360, fun _ => .int 0)) ∧ w'.1 (w.2 + 4) = some (.inl (1, 2880, fun _ => .long 0)) ∧ w'.1 (w.2 + 5) = some (.inl (1, 2880, fun _ => .long 0)) ∧ w'.1 (w.2 + 6) = some (.inl (1, 8, fun _ => .long 0)) ∧ w'.1 (w.2 + 7) = some (.inl (1, 8, fun _ => .long 0)) ∧ w'.1 (w.2 + 8) = some (.inl (0, 30, fun _ => .int 0)) ∧ w'.1 (w.2 + 9) = some (.inl (1, 30, fun _ => .long 0)) ∧ w'.1 (w.2 + 10) = some (.inl (1, 30, fun _ => .long 0)) ∧ w'.1 (w.2 + 11) = some (.inl (0, 30, fun _ => .int 0)) ∧ w'.1 (w.2 + 12) = some (.inl (0, 30, fun _ => .int 0)) ∧ w'.1 (w.2 + 13) = some (.inl (1, 60, fun _ => .long 0)) ∧ w'.1 (w.2 + 14) = some (.inl (0, 2, fun _ => .int 0)) ∧ w'.1 (w.2 + 15) = some (.inl (0, 2, fun _ => .int 0)) ∧ w'.1 (w.2 + 16) = some (.inl (1, 16, fun _ => .long 0)) ∧ w'.1 (w.2 + 17) = some (.inl (1, 16, fun _ => .long 0)) ∧ w'.1 (w.2 + 18) = some (.inl (1, 2, fun _ => .long 0)) ∧ w'.1 (w.2 + 19) = some (.inl (1, 2, fun _ => .long 0)) ∧ w'.1 (w.2 + 20) = some (.inl (1, 2, fun _ => .long 0)) ∧ (∀ q, q < w.2 → q ≠ a0 → w'.1 q = w.1 q) ∧ w'.2 = w.2 + 21 := by
  obtain ⟨w1, s1, a1, b1, f1, l1⟩ := i_arr (k := 3) (kd := 0) (M := 30) (N := 30) (v := .int 0) hw (by omega) (by simp) (by decide)
  obtain ⟨w2, s2, a2, b2, f2, l2⟩ := i_arr (k := 4) (kd := 0) (M := 360) (N := 360) (v := .int 0) a1 (by omega) (by simp) (by decide)
  obtain ⟨w3, s3, a3, b3, f3, l3⟩ := i_arr (k := 5) (kd := 1) (M := 2160) (N := 2160) (v := .long 0) a2 (by omega) (by simp) (by decide)
  obtain ⟨w4, s4, a4, b4, f4, l4⟩ := i_arr (k := 6) (kd := 0) (M := 360) (N := 360) (v := .int 0) a3 (by omega) (by simp) (by decide)
  obtain ⟨w5, s5, a5, b5, f5, l5⟩ := i_arr (k := 7) (kd := 1) (M := 2880) (N := 2880) (v := .long 0) a4 (by omega) (by simp) (by decide)
  obtain ⟨w6, s6, a6, b6, f6, l6⟩ := i_arr (k := 8) (kd := 1) (M := 2880) (N := 2880) (v := .long 0) a5 (by omega) (by simp) (by decide)
  obtain ⟨w7, s7, a7, b7, f7, l7⟩ := i_arr (k := 10) (kd := 1) (M := 8) (N := 8) (v := .long 0) a6 (by omega) (by simp) (by decide)
  obtain ⟨w8, s8, a8, b8, f8, l8⟩ := i_arr (k := 11) (kd := 1) (M := 8) (N := 8) (v := .long 0) a7 (by omega) (by simp) (by decide)
  obtain ⟨w9, s9, a9, b9, f9, l9⟩ := i_arr (k := 13) (kd := 0) (M := 30) (N := 30) (v := .int 0) a8 (by omega) (by simp) (by decide)
  obtain ⟨w10, s10, a10, b10, f10, l10⟩ := i_arr (k := 14) (kd := 1) (M := 30) (N := 30) (v := .long 0) a9 (by omega) (by simp) (by decide)
  obtain ⟨w11, s11, a11, b11, f11, l11⟩ := i_arr (k := 15) (kd := 1) (M := 30) (N := 30) (v := .long 0) a10 (by omega) (by simp) (by decide)
  obtain ⟨w12, s12, a12, b12, f12, l12⟩ := i_arr (k := 16) (kd := 0) (M := 30) (N := 30) (v := .int 0) a11 (by omega) (by simp) (by decide)
  obtain ⟨w13, s13, a13, b13, f13, l13⟩ := i_arr (k := 17) (kd := 0) (M := 30) (N := 30) (v := .int 0) a12 (by omega) (by simp) (by decide)
  obtain ⟨w14, s14, a14, b14, f14, l14⟩ := i_arr (k := 19) (kd := 1) (M := 60) (N := 60) (v := .long 0) a13 (by omega) (by simp) (by decide)
  obtain ⟨w15, s15, a15, b15, f15, l15⟩ := i_arr (k := 20) (kd := 0) (M := 2) (N := 2) (v := .int 0) a14 (by omega) (by simp) (by decide)
  obtain ⟨w16, s16, a16, b16, f16, l16⟩ := i_arr (k := 21) (kd := 0) (M := 2) (N := 2) (v := .int 0) a15 (by omega) (by simp) (by decide)
  obtain ⟨w17, s17, a17, b17, f17, l17⟩ := i_arr (k := 22) (kd := 1) (M := 16) (N := 16) (v := .long 0) a16 (by omega) (by simp) (by decide)
  obtain ⟨w18, s18, a18, b18, f18, l18⟩ := i_arr (k := 23) (kd := 1) (M := 16) (N := 16) (v := .long 0) a17 (by omega) (by simp) (by decide)
  obtain ⟨w19, s19, a19, b19, f19, l19⟩ := i_arr (k := 24) (kd := 1) (M := 2) (N := 2) (v := .long 0) a18 (by omega) (by simp) (by decide)
  obtain ⟨w20, s20, a20, b20, f20, l20⟩ := i_arr (k := 25) (kd := 1) (M := 2) (N := 2) (v := .long 0) a19 (by omega) (by simp) (by decide)
  obtain ⟨w21, s21, a21, b21, f21, l21⟩ := i_arr (k := 26) (kd := 1) (M := 2) (N := 2) (v := .long 0) a20 (by omega) (by simp) (by decide)
  simp only [List.set_cons_zero, List.set_cons_succ] at a21
  have p1 : w1.2 = w.2 + 1 := by omega
  have p2 : w2.2 = w.2 + 2 := by omega
  have p3 : w3.2 = w.2 + 3 := by omega
  have p4 : w4.2 = w.2 + 4 := by omega
  have p5 : w5.2 = w.2 + 5 := by omega
  have p6 : w6.2 = w.2 + 6 := by omega
  have p7 : w7.2 = w.2 + 7 := by omega
  have p8 : w8.2 = w.2 + 8 := by omega
  have p9 : w9.2 = w.2 + 9 := by omega
  have p10 : w10.2 = w.2 + 10 := by omega
  have p11 : w11.2 = w.2 + 11 := by omega
  have p12 : w12.2 = w.2 + 12 := by omega
  have p13 : w13.2 = w.2 + 13 := by omega
  have p14 : w14.2 = w.2 + 14 := by omega
  have p15 : w15.2 = w.2 + 15 := by omega
  have p16 : w16.2 = w.2 + 16 := by omega
  have p17 : w17.2 = w.2 + 17 := by omega
  have p18 : w18.2 = w.2 + 18 := by omega
  have p19 : w19.2 = w.2 + 19 := by omega
  have p20 : w20.2 = w.2 + 20 := by omega
  have p21 : w21.2 = w.2 + 21 := by omega
  have hg : ∀ tm : Int64, gp w21 a0 7 1 (.long tm) = some (gup w21 a0 (.inr (7, [.int 0, .long tm, .int 0, .ref w.2, .ref w1.2, .ref w2.2, .ref w3.2, .ref w4.2, .ref w5.2, .int 0, .ref w6.2, .ref w7.2, .int 0, .ref w8.2, .ref w9.2, .ref w10.2, .ref w11.2, .ref w12.2, .int 0, .ref w13.2, .ref w14.2, .ref w15.2, .ref w16.2, .ref w17.2, .ref w18.2, .ref w19.2, .ref w20.2]))) := by intro tm; simp [gp, a21]
  have ht : ∃ tm, f_M_init g0 a0 x w = some (.inr (), gup w21 a0 (.inr (7, [.int 0, .long tm, .int 0, .ref w.2, .ref w1.2, .ref w2.2, .ref w3.2, .ref w4.2, .ref w5.2, .int 0, .ref w6.2, .ref w7.2, .int 0, .ref w8.2, .ref w9.2, .ref w10.2, .ref w11.2, .ref w12.2, .int 0, .ref w13.2, .ref w14.2, .ref w15.2, .ref w16.2, .ref w17.2, .ref w18.2, .ref w19.2, .ref w20.2]))) := by
    unfold f_M_init
    rw [s1, s2, s3, s4, s5, s6, s7, s8, s9, s10, s11, s12, s13, s14, s15, s16, s17, s18, s19, s20, s21]
    simp only [gjoin]
    split
    · split
      · exact ⟨_, by rw [hg]; rfl⟩
      · exact ⟨_, by rw [hg]; rfl⟩
    · exact ⟨_, by rw [hg]; rfl⟩
  obtain ⟨tm, ht⟩ := ht
  have hu : ∀ q, q ≠ a0 → (gup w21 a0 (.inr (7, [.int 0, .long tm, .int 0, .ref w.2, .ref w1.2, .ref w2.2, .ref w3.2, .ref w4.2, .ref w5.2, .int 0, .ref w6.2, .ref w7.2, .int 0, .ref w8.2, .ref w9.2, .ref w10.2, .ref w11.2, .ref w12.2, .int 0, .ref w13.2, .ref w14.2, .ref w15.2, .ref w16.2, .ref w17.2, .ref w18.2, .ref w19.2, .ref w20.2]))).1 q = w21.1 q := by intro q hq; simp [gup, hq]
  refine ⟨_, tm, ht, ?_, ?_, ?_, ?_, ?_, ?_, ?_, ?_, ?_, ?_, ?_, ?_, ?_, ?_, ?_, ?_, ?_, ?_, ?_, ?_, ?_, ?_, fun q h1 h2 => ?_, ?_⟩
  · simp only [gup, if_true, p1, p2, p3, p4, p5, p6, p7, p8, p9, p10, p11, p12, p13, p14, p15, p16, p17, p18, p19, p20]
    rfl
  · rw [hu _ (by omega), f21 _ (by omega) (by omega), f20 _ (by omega) (by omega), f19 _ (by omega) (by omega), f18 _ (by omega) (by omega), f17 _ (by omega) (by omega), f16 _ (by omega) (by omega), f15 _ (by omega) (by omega), f14 _ (by omega) (by omega), f13 _ (by omega) (by omega), f12 _ (by omega) (by omega), f11 _ (by omega) (by omega), f10 _ (by omega) (by omega), f9 _ (by omega) (by omega), f8 _ (by omega) (by omega), f7 _ (by omega) (by omega), f6 _ (by omega) (by omega), f5 _ (by omega) (by omega), f4 _ (by omega) (by omega), f3 _ (by omega) (by omega), f2 _ (by omega) (by omega)]
    exact b1
  · rw [hu _ (by omega), f21 _ (by omega) (by omega), f20 _ (by omega) (by omega), f19 _ (by omega) (by omega), f18 _ (by omega) (by omega), f17 _ (by omega) (by omega), f16 _ (by omega) (by omega), f15 _ (by omega) (by omega), f14 _ (by omega) (by omega), f13 _ (by omega) (by omega), f12 _ (by omega) (by omega), f11 _ (by omega) (by omega), f10 _ (by omega) (by omega), f9 _ (by omega) (by omega), f8 _ (by omega) (by omega), f7 _ (by omega) (by omega), f6 _ (by omega) (by omega), f5 _ (by omega) (by omega), f4 _ (by omega) (by omega), f3 _ (by omega) (by omega)]
    rw [← p1]
    exact b2
  · rw [hu _ (by omega), f21 _ (by omega) (by omega), f20 _ (by omega) (by omega), f19 _ (by omega) (by omega), f18 _ (by omega) (by omega), f17 _ (by omega) (by omega), f16 _ (by omega) (by omega), f15 _ (by omega) (by omega), f14 _ (by omega) (by omega), f13 _ (by omega) (by omega), f12 _ (by omega) (by omega), f11 _ (by omega) (by omega), f10 _ (by omega) (by omega), f9 _ (by omega) (by omega), f8 _ (by omega) (by omega), f7 _ (by omega) (by omega), f6 _ (by omega) (by omega), f5 _ (by omega) (by omega), f4 _ (by omega) (by omega)]
    rw [← p2]
    exact b3
  · rw [hu _ (by omega), f21 _ (by omega) (by omega), f20 _ (by omega) (by omega), f19 _ (by omega) (by omega), f18 _ (by omega) (by omega), f17 _ (by omega) (by omega), f16 _ (by omega) (by omega), f15 _ (by omega) (by omega), f14 _ (by omega) (by omega), f13 _ (by omega) (by omega), f12 _ (by omega) (by omega), f11 _ (by omega) (by omega), f10 _ (by omega) (by omega), f9 _ (by omega) (by omega), f8 _ (by omega) (by omega), f7 _ (by omega) (by omega), f6 _ (by omega) (by omega), f5 _ (by omega) (by omega)]
    rw [← p3]
    exact b4
  · rw [hu _ (by omega), f21 _ (by omega) (by omega), f20 _ (by omega) (by omega), f19 _ (by omega) (by omega), f18 _ (by omega) (by omega), f17 _ (by omega) (by omega), f16 _ (by omega) (by omega), f15 _ (by omega) (by omega), f14 _ (by omega) (by omega), f13 _ (by omega) (by omega), f12 _ (by omega) (by omega), f11 _ (by omega) (by omega), f10 _ (by omega) (by omega), f9 _ (by omega) (by omega), f8 _ (by omega) (by omega), f7 _ (by omega) (by omega), f6 _ (by omega) (by omega)]
    rw [← p4]
    exact b5
  · rw [hu _ (by omega), f21 _ (by omega) (by omega), f20 _ (by omega) (by omega), f19 _ (by omega) (by omega), f18 _ (by omega) (by omega), f17 _ (by omega) (by omega), f16 _ (by omega) (by omega), f15 _ (by omega) (by omega), f14 _ (by omega) (by omega), f13 _ (by omega) (by omega), f12 _ (by omega) (by omega), f11 _ (by omega) (by omega), f10 _ (by omega) (by omega), f9 _ (by omega) (by omega), f8 _ (by omega) (by omega), f7 _ (by omega) (by omega)]
    rw [← p5]
    exact b6
  · rw [hu _ (by omega), f21 _ (by omega) (by omega), f20 _ (by omega) (by omega), f19 _ (by omega) (by omega), f18 _ (by omega) (by omega), f17 _ (by omega) (by omega), f16 _ (by omega) (by omega), f15 _ (by omega) (by omega), f14 _ (by omega) (by omega), f13 _ (by omega) (by omega), f12 _ (by omega) (by omega), f11 _ (by omega) (by omega), f10 _ (by omega) (by omega), f9 _ (by omega) (by omega), f8 _ (by omega) (by omega)]
    rw [← p6]
    exact b7
  · rw [hu _ (by omega), f21 _ (by omega) (by omega), f20 _ (by omega) (by omega), f19 _ (by omega) (by omega), f18 _ (by omega) (by omega), f17 _ (by omega) (by omega), f16 _ (by omega) (by omega), f15 _ (by omega) (by omega), f14 _ (by omega) (by omega), f13 _ (by omega) (by omega), f12 _ (by omega) (by omega), f11 _ (by omega) (by omega), f10 _ (by omega) (by omega), f9 _ (by omega) (by omega)]
    rw [← p7]
    exact b8
  · rw [hu _ (by omega), f21 _ (by omega) (by omega), f20 _ (by omega) (by omega), f19 _ (by omega) (by omega), f18 _ (by omega) (by omega), f17 _ (by omega) (by omega), f16 _ (by omega) (by omega), f15 _ (by omega) (by omega), f14 _ (by omega) (by omega), f13 _ (by omega) (by omega), f12 _ (by omega) (by omega), f11 _ (by omega) (by omega), f10 _ (by omega) (by omega)]
    rw [← p8]
    exact b9
  · rw [hu _ (by omega), f21 _ (by omega) (by omega), f20 _ (by omega) (by omega), f19 _ (by omega) (by omega), f18 _ (by omega) (by omega), f17 _ (by omega) (by omega), f16 _ (by omega) (by omega), f15 _ (by omega) (by omega), f14 _ (by omega) (by omega), f13 _ (by omega) (by omega), f12 _ (by omega) (by omega), f11 _ (by omega) (by omega)]
    rw [← p9]
    exact b10
  · rw [hu _ (by omega), f21 _ (by omega) (by omega), f20 _ (by omega) (by omega), f19 _ (by omega) (by omega), f18 _ (by omega) (by omega), f17 _ (by omega) (by omega), f16 _ (by omega) (by omega), f15 _ (by omega) (by omega), f14 _ (by omega) (by omega), f13 _ (by omega) (by omega), f12 _ (by omega) (by omega)]
    rw [← p10]
    exact b11
  · rw [hu _ (by omega), f21 _ (by omega) (by omega), f20 _ (by omega) (by omega), f19 _ (by omega) (by omega), f18 _ (by omega) (by omega), f17 _ (by omega) (by omega), f16 _ (by omega) (by omega), f15 _ (by omega) (by omega), f14 _ (by omega) (by omega), f13 _ (by omega) (by omega)]
    rw [← p11]
    exact b12
  · rw [hu _ (by omega), f21 _ (by omega) (by omega), f20 _ (by omega) (by omega), f19 _ (by omega) (by omega), f18 _ (by omega) (by omega), f17 _ (by omega) (by omega), f16 _ (by omega) (by omega), f15 _ (by omega) (by omega), f14 _ (by omega) (by omega)]
    rw [← p12]
    exact b13
  · rw [hu _ (by omega), f21 _ (by omega) (by omega), f20 _ (by omega) (by omega), f19 _ (by omega) (by omega), f18 _ (by omega) (by omega), f17 _ (by omega) (by omega), f16 _ (by omega) (by omega), f15 _ (by omega) (by omega)]
    rw [← p13]
    exact b14
  · rw [hu _ (by omega), f21 _ (by omega) (by omega), f20 _ (by omega) (by omega), f19 _ (by omega) (by omega), f18 _ (by omega) (by omega), f17 _ (by omega) (by omega), f16 _ (by omega) (by omega)]
    rw [← p14]
    exact b15
  · rw [hu _ (by omega), f21 _ (by omega) (by omega), f20 _ (by omega) (by omega), f19 _ (by omega) (by omega), f18 _ (by omega) (by omega), f17 _ (by omega) (by omega)]
    rw [← p15]
    exact b16
  · rw [hu _ (by omega), f21 _ (by omega) (by omega), f20 _ (by omega) (by omega), f19 _ (by omega) (by omega), f18 _ (by omega) (by omega)]
    rw [← p16]
    exact b17
  · rw [hu _ (by omega), f21 _ (by omega) (by omega), f20 _ (by omega) (by omega), f19 _ (by omega) (by omega)]
    rw [← p17]
    exact b18
  · rw [hu _ (by omega), f21 _ (by omega) (by omega), f20 _ (by omega) (by omega)]
    rw [← p18]
    exact b19
  · rw [hu _ (by omega), f21 _ (by omega) (by omega)]
    rw [← p19]
    exact b20
  · rw [hu _ (by omega)]
    rw [← p20]
    exact b21
  · rw [hu _ h2, f21 _ (by omega) h2, f20 _ (by omega) h2, f19 _ (by omega) h2, f18 _ (by omega) h2, f17 _ (by omega) h2, f16 _ (by omega) h2, f15 _ (by omega) h2, f14 _ (by omega) h2, f13 _ (by omega) h2, f12 _ (by omega) h2, f11 _ (by omega) h2, f10 _ (by omega) h2, f9 _ (by omega) h2, f8 _ (by omega) h2, f7 _ (by omega) h2, f6 _ (by omega) h2, f5 _ (by omega) h2, f4 _ (by omega) h2, f3 _ (by omega) h2, f2 _ (by omega) h2, f1 _ (by omega) h2]
  · show w21.2 = w.2 + 21
    omega
def gMod (a0 n : Nat) : gΓ := (fun q => if q = a0 then some Ty.model else if q = n + 0 then some (Ty.ai 30 0 12) else if q = n + 1 then some (Ty.ai 360 (-2147483648) 2147483647) else if q = n + 2 then some (Ty.aj 2160) else if q = n + 3 then some (Ty.ai 360 0 8) else if q = n + 4 then some (Ty.aj 2880) else if q = n + 5 then some (Ty.aj 2880) else if q = n + 6 then some (Ty.aj 8) else if q = n + 7 then some (Ty.aj 8) else if q = n + 8 then some (Ty.ai 30 0 29) else if q = n + 9 then some (Ty.aj 30) else if q = n + 10 then some (Ty.aj 30) else if q = n + 11 then some (Ty.ai 30 (-2147483648) 2147483647) else if q = n + 12 then some (Ty.ai 30 (-2147483648) 2147483647) else if q = n + 13 then some (Ty.aj 60) else if q = n + 14 then some (Ty.ai 2 (-2147483648) 2147483647) else if q = n + 15 then some (Ty.ai 2 0 8) else if q = n + 16 then some (Ty.aj 16) else if q = n + 17 then some (Ty.aj 16) else if q = n + 18 then some (Ty.aj 2) else if q = n + 19 then some (Ty.aj 2) else if q = n + 20 then some (Ty.aj 2) else none, fun k => if k = 13 then (0, 0) else if k = 11 then (0, 8) else (0, 30), fun _ => false)
theorem gMod_inv {a0 n q : Nat} {t : Ty} (ht : (gMod a0 n).T q = some t) : (q = a0 ∧ t = Ty.model) ∨ (q = n + 0 ∧ t = Ty.ai 30 0 12) ∨ (q = n + 1 ∧ t = Ty.ai 360 (-2147483648) 2147483647) ∨ (q = n + 2 ∧ t = Ty.aj 2160) ∨ (q = n + 3 ∧ t = Ty.ai 360 0 8) ∨ (q = n + 4 ∧ t = Ty.aj 2880) ∨ (q = n + 5 ∧ t = Ty.aj 2880) ∨ (q = n + 6 ∧ t = Ty.aj 8) ∨ (q = n + 7 ∧ t = Ty.aj 8) ∨ (q = n + 8 ∧ t = Ty.ai 30 0 29) ∨ (q = n + 9 ∧ t = Ty.aj 30) ∨ (q = n + 10 ∧ t = Ty.aj 30) ∨ (q = n + 11 ∧ t = Ty.ai 30 (-2147483648) 2147483647) ∨ (q = n + 12 ∧ t = Ty.ai 30 (-2147483648) 2147483647) ∨ (q = n + 13 ∧ t = Ty.aj 60) ∨ (q = n + 14 ∧ t = Ty.ai 2 (-2147483648) 2147483647) ∨ (q = n + 15 ∧ t = Ty.ai 2 0 8) ∨ (q = n + 16 ∧ t = Ty.aj 16) ∨ (q = n + 17 ∧ t = Ty.aj 16) ∨ (q = n + 18 ∧ t = Ty.aj 2) ∨ (q = n + 19 ∧ t = Ty.aj 2) ∨ (q = n + 20 ∧ t = Ty.aj 2) := by
    have ht' : (if q = a0 then some Ty.model else if q = n + 0 then some (Ty.ai 30 0 12) else if q = n + 1 then some (Ty.ai 360 (-2147483648) 2147483647) else if q = n + 2 then some (Ty.aj 2160) else if q = n + 3 then some (Ty.ai 360 0 8) else if q = n + 4 then some (Ty.aj 2880) else if q = n + 5 then some (Ty.aj 2880) else if q = n + 6 then some (Ty.aj 8) else if q = n + 7 then some (Ty.aj 8) else if q = n + 8 then some (Ty.ai 30 0 29) else if q = n + 9 then some (Ty.aj 30) else if q = n + 10 then some (Ty.aj 30) else if q = n + 11 then some (Ty.ai 30 (-2147483648) 2147483647) else if q = n + 12 then some (Ty.ai 30 (-2147483648) 2147483647) else if q = n + 13 then some (Ty.aj 60) else if q = n + 14 then some (Ty.ai 2 (-2147483648) 2147483647) else if q = n + 15 then some (Ty.ai 2 0 8) else if q = n + 16 then some (Ty.aj 16) else if q = n + 17 then some (Ty.aj 16) else if q = n + 18 then some (Ty.aj 2) else if q = n + 19 then some (Ty.aj 2) else if q = n + 20 then some (Ty.aj 2) else none : Option Ty) = some t := ht
    by_cases h0 : q = a0
    · rw [if_pos h0] at ht'
      exact Or.inl ⟨h0, (Option.some.inj ht').symm⟩
    rw [if_neg h0] at ht'
    by_cases h1 : q = n + 0
    · rw [if_pos h1] at ht'
      exact Or.inr (Or.inl ⟨h1, (Option.some.inj ht').symm⟩)
    rw [if_neg h1] at ht'
    by_cases h2 : q = n + 1
    · rw [if_pos h2] at ht'
      exact Or.inr (Or.inr (Or.inl ⟨h2, (Option.some.inj ht').symm⟩))
    rw [if_neg h2] at ht'
    by_cases h3 : q = n + 2
    · rw [if_pos h3] at ht'
      exact Or.inr (Or.inr (Or.inr (Or.inl ⟨h3, (Option.some.inj ht').symm⟩)))
    rw [if_neg h3] at ht'
    by_cases h4 : q = n + 3
    · rw [if_pos h4] at ht'
      exact Or.inr (Or.inr (Or.inr (Or.inr (Or.inl ⟨h4, (Option.some.inj ht').symm⟩))))
    rw [if_neg h4] at ht'
    by_cases h5 : q = n + 4
    · rw [if_pos h5] at ht'
      exact Or.inr (Or.inr (Or.inr (Or.inr (Or.inr (Or.inl ⟨h5, (Option.some.inj ht').symm⟩)))))
    rw [if_neg h5] at ht'
    by_cases h6 : q = n + 5
    · rw [if_pos h6] at ht'
      exact Or.inr (Or.inr (Or.inr (Or.inr (Or.inr (Or.inr (Or.inl ⟨h6, (Option.some.inj ht').symm⟩))))))
    rw [if_neg h6] at ht'
    by_cases h7 : q = n + 6
    · rw [if_pos h7] at ht'
      exact Or.inr (Or.inr (Or.inr (Or.inr (Or.inr (Or.inr (Or.inr (Or.inl ⟨h7, (Option.some.inj ht').symm⟩)))))))
    rw [if_neg h7] at ht'
    by_cases h8 : q = n + 7
    · rw [if_pos h8] at ht'
      exact Or.inr (Or.inr (Or.inr (Or.inr (Or.inr (Or.inr (Or.inr (Or.inr (Or.inl ⟨h8, (Option.some.inj ht').symm⟩))))))))
    rw [if_neg h8] at ht'
    by_cases h9 : q = n + 8
    · rw [if_pos h9] at ht'
      exact Or.inr (Or.inr (Or.inr (Or.inr (Or.inr (Or.inr (Or.inr (Or.inr (Or.inr (Or.inl ⟨h9, (Option.some.inj ht').symm⟩)))))))))
    rw [if_neg h9] at ht'
    by_cases h10 : q = n + 9
    · rw [if_pos h10] at ht'
      exact Or.inr (Or.inr (Or.inr (Or.inr (Or.inr (Or.inr (Or.inr (Or.inr (Or.inr (Or.inr (Or.inl ⟨h10, (Option.some.inj ht').symm⟩))))))))))
    rw [if_neg h10] at ht'
    by_cases h11 : q = n + 10
    · rw [if_pos h11] at ht'
      exact Or.inr (Or.inr (Or.inr (Or.inr (Or.inr (Or.inr (Or.inr (Or.inr (Or.inr (Or.inr (Or.inr (Or.inl ⟨h11, (Option.some.inj ht').symm⟩)))))))))))
    rw [if_neg h11] at ht'
    by_cases h12 : q = n + 11
    · rw [if_pos h12] at ht'
      exact Or.inr (Or.inr (Or.inr (Or.inr (Or.inr (Or.inr (Or.inr (Or.inr (Or.inr (Or.inr (Or.inr (Or.inr (Or.inl ⟨h12, (Option.some.inj ht').symm⟩))))))))))))
    rw [if_neg h12] at ht'
    by_cases h13 : q = n + 12
    · rw [if_pos h13] at ht'
      exact Or.inr (Or.inr (Or.inr (Or.inr (Or.inr (Or.inr (Or.inr (Or.inr (Or.inr (Or.inr (Or.inr (Or.inr (Or.inr (Or.inl ⟨h13, (Option.some.inj ht').symm⟩)))))))))))))
    rw [if_neg h13] at ht'
    by_cases h14 : q = n + 13
    · rw [if_pos h14] at ht'
      exact Or.inr (Or.inr (Or.inr (Or.inr (Or.inr (Or.inr (Or.inr (Or.inr (Or.inr (Or.inr (Or.inr (Or.inr (Or.inr (Or.inr (Or.inl ⟨h14, (Option.some.inj ht').symm⟩))))))))))))))
    rw [if_neg h14] at ht'
    by_cases h15 : q = n + 14
    · rw [if_pos h15] at ht'
      exact Or.inr (Or.inr (Or.inr (Or.inr (Or.inr (Or.inr (Or.inr (Or.inr (Or.inr (Or.inr (Or.inr (Or.inr (Or.inr (Or.inr (Or.inr (Or.inl ⟨h15, (Option.some.inj ht').symm⟩)))))))))))))))
    rw [if_neg h15] at ht'
    by_cases h16 : q = n + 15
    · rw [if_pos h16] at ht'
      exact Or.inr (Or.inr (Or.inr (Or.inr (Or.inr (Or.inr (Or.inr (Or.inr (Or.inr (Or.inr (Or.inr (Or.inr (Or.inr (Or.inr (Or.inr (Or.inr (Or.inl ⟨h16, (Option.some.inj ht').symm⟩))))))))))))))))
    rw [if_neg h16] at ht'
    by_cases h17 : q = n + 16
    · rw [if_pos h17] at ht'
      exact Or.inr (Or.inr (Or.inr (Or.inr (Or.inr (Or.inr (Or.inr (Or.inr (Or.inr (Or.inr (Or.inr (Or.inr (Or.inr (Or.inr (Or.inr (Or.inr (Or.inr (Or.inl ⟨h17, (Option.some.inj ht').symm⟩)))))))))))))))))
    rw [if_neg h17] at ht'
    by_cases h18 : q = n + 17
    · rw [if_pos h18] at ht'
      exact Or.inr (Or.inr (Or.inr (Or.inr (Or.inr (Or.inr (Or.inr (Or.inr (Or.inr (Or.inr (Or.inr (Or.inr (Or.inr (Or.inr (Or.inr (Or.inr (Or.inr (Or.inr (Or.inl ⟨h18, (Option.some.inj ht').symm⟩))))))))))))))))))
    rw [if_neg h18] at ht'
    by_cases h19 : q = n + 18
    · rw [if_pos h19] at ht'
      exact Or.inr (Or.inr (Or.inr (Or.inr (Or.inr (Or.inr (Or.inr (Or.inr (Or.inr (Or.inr (Or.inr (Or.inr (Or.inr (Or.inr (Or.inr (Or.inr (Or.inr (Or.inr (Or.inr (Or.inl ⟨h19, (Option.some.inj ht').symm⟩)))))))))))))))))))
    rw [if_neg h19] at ht'
    by_cases h20 : q = n + 19
    · rw [if_pos h20] at ht'
      exact Or.inr (Or.inr (Or.inr (Or.inr (Or.inr (Or.inr (Or.inr (Or.inr (Or.inr (Or.inr (Or.inr (Or.inr (Or.inr (Or.inr (Or.inr (Or.inr (Or.inr (Or.inr (Or.inr (Or.inr (Or.inl ⟨h20, (Option.some.inj ht').symm⟩))))))))))))))))))))
    rw [if_neg h20] at ht'
    by_cases h21 : q = n + 20
    · rw [if_pos h21] at ht'
      exact Or.inr (Or.inr (Or.inr (Or.inr (Or.inr (Or.inr (Or.inr (Or.inr (Or.inr (Or.inr (Or.inr (Or.inr (Or.inr (Or.inr (Or.inr (Or.inr (Or.inr (Or.inr (Or.inr (Or.inr (Or.inr (⟨h21, (Option.some.inj ht').symm⟩)))))))))))))))))))))
    rw [if_neg h21] at ht'
    cases ht'
theorem i_Mt {a0 n : Nat} {w' : gW} {tm : Int64} (hl : a0 < n) (e0 : w'.1 a0 = some (.inr (7, [.int 0, .long tm, .int 0, .ref (n + 0), .ref (n + 1), .ref (n + 2), .ref (n + 3), .ref (n + 4), .ref (n + 5), .int 0, .ref (n + 6), .ref (n + 7), .int 0, .ref (n + 8), .ref (n + 9), .ref (n + 10), .ref (n + 11), .ref (n + 12), .int 0, .ref (n + 13), .ref (n + 14), .ref (n + 15), .ref (n + 16), .ref (n + 17), .ref (n + 18), .ref (n + 19), .ref (n + 20)]))) (e1 : w'.1 (n + 0) = some (.inl (0, 30, fun _ => .int 0))) (e2 : w'.1 (n + 1) = some (.inl (0, 360, fun _ => .int 0))) (e3 : w'.1 (n + 2) = some (.inl (1, 2160, fun _ => .long 0))) (e4 : w'.1 (n + 3) = some (.inl (0, 360, fun _ => .int 0))) (e5 : w'.1 (n + 4) = some (.inl (1, 2880, fun _ => .long 0))) (e6 : w'.1 (n + 5) = some (.inl (1, 2880, fun _ => .long 0))) (e7 : w'.1 (n + 6) = some (.inl (1, 8, fun _ => .long 0))) (e8 : w'.1 (n + 7) = some (.inl (1, 8, fun _ => .long 0))) (e9 : w'.1 (n + 8) = some (.inl (0, 30, fun _ => .int 0))) (e10 : w'.1 (n + 9) = some (.inl (1, 30, fun _ => .long 0))) (e11 : w'.1 (n + 10) = some (.inl (1, 30, fun _ => .long 0))) (e12 : w'.1 (n + 11) = some (.inl (0, 30, fun _ => .int 0))) (e13 : w'.1 (n + 12) = some (.inl (0, 30, fun _ => .int 0))) (e14 : w'.1 (n + 13) = some (.inl (1, 60, fun _ => .long 0))) (e15 : w'.1 (n + 14) = some (.inl (0, 2, fun _ => .int 0))) (e16 : w'.1 (n + 15) = some (.inl (0, 2, fun _ => .int 0))) (e17 : w'.1 (n + 16) = some (.inl (1, 16, fun _ => .long 0))) (e18 : w'.1 (n + 17) = some (.inl (1, 16, fun _ => .long 0))) (e19 : w'.1 (n + 18) = some (.inl (1, 2, fun _ => .long 0))) (e20 : w'.1 (n + 19) = some (.inl (1, 2, fun _ => .long 0))) (e21 : w'.1 (n + 20) = some (.inl (1, 2, fun _ => .long 0))) (e99 : w'.2 = n + 21) : gIv (gMod a0 n) w' w' := by
  have T0 : (gMod a0 n).T a0 = some Ty.model := by show (if a0 = a0 then _ else _) = _; rw [if_pos rfl]
  have T1 : (gMod a0 n).T (n + 0) = some (Ty.ai 30 0 12) := by
    show (if n + 0 = a0 then _ else _) = _
    rw [if_neg (by omega), if_pos rfl]
  have T2 : (gMod a0 n).T (n + 1) = some (Ty.ai 360 (-2147483648) 2147483647) := by
    show (if n + 1 = a0 then _ else _) = _
    rw [if_neg (by omega), if_neg (by omega), if_pos rfl]
  have T3 : (gMod a0 n).T (n + 2) = some (Ty.aj 2160) := by
    show (if n + 2 = a0 then _ else _) = _
    rw [if_neg (by omega), if_neg (by omega), if_neg (by omega), if_pos rfl]
  have T4 : (gMod a0 n).T (n + 3) = some (Ty.ai 360 0 8) := by
    show (if n + 3 = a0 then _ else _) = _
    rw [if_neg (by omega), if_neg (by omega), if_neg (by omega), if_neg (by omega), if_pos rfl]
  have T5 : (gMod a0 n).T (n + 4) = some (Ty.aj 2880) := by
    show (if n + 4 = a0 then _ else _) = _
    rw [if_neg (by omega), if_neg (by omega), if_neg (by omega), if_neg (by omega), if_neg (by omega), if_pos rfl]
  have T6 : (gMod a0 n).T (n + 5) = some (Ty.aj 2880) := by
    show (if n + 5 = a0 then _ else _) = _
    rw [if_neg (by omega), if_neg (by omega), if_neg (by omega), if_neg (by omega), if_neg (by omega), if_neg (by omega), if_pos rfl]
  have T7 : (gMod a0 n).T (n + 6) = some (Ty.aj 8) := by
    show (if n + 6 = a0 then _ else _) = _
    rw [if_neg (by omega), if_neg (by omega), if_neg (by omega), if_neg (by omega), if_neg (by omega), if_neg (by omega), if_neg (by omega), if_pos rfl]
  have T8 : (gMod a0 n).T (n + 7) = some (Ty.aj 8) := by
    show (if n + 7 = a0 then _ else _) = _
    rw [if_neg (by omega), if_neg (by omega), if_neg (by omega), if_neg (by omega), if_neg (by omega), if_neg (by omega), if_neg (by omega), if_neg (by omega), if_pos rfl]
  have T9 : (gMod a0 n).T (n + 8) = some (Ty.ai 30 0 29) := by
    show (if n + 8 = a0 then _ else _) = _
    rw [if_neg (by omega), if_neg (by omega), if_neg (by omega), if_neg (by omega), if_neg (by omega), if_neg (by omega), if_neg (by omega), if_neg (by omega), if_neg (by omega), if_pos rfl]
  have T10 : (gMod a0 n).T (n + 9) = some (Ty.aj 30) := by
    show (if n + 9 = a0 then _ else _) = _
    rw [if_neg (by omega), if_neg (by omega), if_neg (by omega), if_neg (by omega), if_neg (by omega), if_neg (by omega), if_neg (by omega), if_neg (by omega), if_neg (by omega), if_neg (by omega), if_pos rfl]
  have T11 : (gMod a0 n).T (n + 10) = some (Ty.aj 30) := by
    show (if n + 10 = a0 then _ else _) = _
    rw [if_neg (by omega), if_neg (by omega), if_neg (by omega), if_neg (by omega), if_neg (by omega), if_neg (by omega), if_neg (by omega), if_neg (by omega), if_neg (by omega), if_neg (by omega), if_neg (by omega), if_pos rfl]
  have T12 : (gMod a0 n).T (n + 11) = some (Ty.ai 30 (-2147483648) 2147483647) := by
    show (if n + 11 = a0 then _ else _) = _
    rw [if_neg (by omega), if_neg (by omega), if_neg (by omega), if_neg (by omega), if_neg (by omega), if_neg (by omega), if_neg (by omega), if_neg (by omega), if_neg (by omega), if_neg (by omega), if_neg (by omega), if_neg (by omega), if_pos rfl]
  have T13 : (gMod a0 n).T (n + 12) = some (Ty.ai 30 (-2147483648) 2147483647) := by
    show (if n + 12 = a0 then _ else _) = _
    rw [if_neg (by omega), if_neg (by omega), if_neg (by omega), if_neg (by omega), if_neg (by omega), if_neg (by omega), if_neg (by omega), if_neg (by omega), if_neg (by omega), if_neg (by omega), if_neg (by omega), if_neg (by omega), if_neg (by omega), if_pos rfl]
  have T14 : (gMod a0 n).T (n + 13) = some (Ty.aj 60) := by
    show (if n + 13 = a0 then _ else _) = _
    rw [if_neg (by omega), if_neg (by omega), if_neg (by omega), if_neg (by omega), if_neg (by omega), if_neg (by omega), if_neg (by omega), if_neg (by omega), if_neg (by omega), if_neg (by omega), if_neg (by omega), if_neg (by omega), if_neg (by omega), if_neg (by omega), if_pos rfl]
  have T15 : (gMod a0 n).T (n + 14) = some (Ty.ai 2 (-2147483648) 2147483647) := by
    show (if n + 14 = a0 then _ else _) = _
    rw [if_neg (by omega), if_neg (by omega), if_neg (by omega), if_neg (by omega), if_neg (by omega), if_neg (by omega), if_neg (by omega), if_neg (by omega), if_neg (by omega), if_neg (by omega), if_neg (by omega), if_neg (by omega), if_neg (by omega), if_neg (by omega), if_neg (by omega), if_pos rfl]
  have T16 : (gMod a0 n).T (n + 15) = some (Ty.ai 2 0 8) := by
    show (if n + 15 = a0 then _ else _) = _
    rw [if_neg (by omega), if_neg (by omega), if_neg (by omega), if_neg (by omega), if_neg (by omega), if_neg (by omega), if_neg (by omega), if_neg (by omega), if_neg (by omega), if_neg (by omega), if_neg (by omega), if_neg (by omega), if_neg (by omega), if_neg (by omega), if_neg (by omega), if_neg (by omega), if_pos rfl]
  have T17 : (gMod a0 n).T (n + 16) = some (Ty.aj 16) := by
    show (if n + 16 = a0 then _ else _) = _
    rw [if_neg (by omega), if_neg (by omega), if_neg (by omega), if_neg (by omega), if_neg (by omega), if_neg (by omega), if_neg (by omega), if_neg (by omega), if_neg (by omega), if_neg (by omega), if_neg (by omega), if_neg (by omega), if_neg (by omega), if_neg (by omega), if_neg (by omega), if_neg (by omega), if_neg (by omega), if_pos rfl]
  have T18 : (gMod a0 n).T (n + 17) = some (Ty.aj 16) := by
    show (if n + 17 = a0 then _ else _) = _
    rw [if_neg (by omega), if_neg (by omega), if_neg (by omega), if_neg (by omega), if_neg (by omega), if_neg (by omega), if_neg (by omega), if_neg (by omega), if_neg (by omega), if_neg (by omega), if_neg (by omega), if_neg (by omega), if_neg (by omega), if_neg (by omega), if_neg (by omega), if_neg (by omega), if_neg (by omega), if_neg (by omega), if_pos rfl]
  have T19 : (gMod a0 n).T (n + 18) = some (Ty.aj 2) := by
    show (if n + 18 = a0 then _ else _) = _
    rw [if_neg (by omega), if_neg (by omega), if_neg (by omega), if_neg (by omega), if_neg (by omega), if_neg (by omega), if_neg (by omega), if_neg (by omega), if_neg (by omega), if_neg (by omega), if_neg (by omega), if_neg (by omega), if_neg (by omega), if_neg (by omega), if_neg (by omega), if_neg (by omega), if_neg (by omega), if_neg (by omega), if_neg (by omega), if_pos rfl]
  have T20 : (gMod a0 n).T (n + 19) = some (Ty.aj 2) := by
    show (if n + 19 = a0 then _ else _) = _
    rw [if_neg (by omega), if_neg (by omega), if_neg (by omega), if_neg (by omega), if_neg (by omega), if_neg (by omega), if_neg (by omega), if_neg (by omega), if_neg (by omega), if_neg (by omega), if_neg (by omega), if_neg (by omega), if_neg (by omega), if_neg (by omega), if_neg (by omega), if_neg (by omega), if_neg (by omega), if_neg (by omega), if_neg (by omega), if_neg (by omega), if_pos rfl]
  have T21 : (gMod a0 n).T (n + 20) = some (Ty.aj 2) := by
    show (if n + 20 = a0 then _ else _) = _
    rw [if_neg (by omega), if_neg (by omega), if_neg (by omega), if_neg (by omega), if_neg (by omega), if_neg (by omega), if_neg (by omega), if_neg (by omega), if_neg (by omega), if_neg (by omega), if_neg (by omega), if_neg (by omega), if_neg (by omega), if_neg (by omega), if_neg (by omega), if_neg (by omega), if_neg (by omega), if_neg (by omega), if_neg (by omega), if_neg (by omega), if_neg (by omega), if_pos rfl]
  have inv := fun q t ht => gMod_inv (a0 := a0) (n := n) (q := q) (t := t) ht
  refine ⟨fun q t ht => ?_, fun q t ht => ?_, Nat.le_refl _, fun _ _ _ => rfl, fun _ _ _ _ => rfl⟩
  · rcases inv q t ht with ⟨a, b⟩ | ⟨a, b⟩ | ⟨a, b⟩ | ⟨a, b⟩ | ⟨a, b⟩ | ⟨a, b⟩ | ⟨a, b⟩ | ⟨a, b⟩ | ⟨a, b⟩ | ⟨a, b⟩ | ⟨a, b⟩ | ⟨a, b⟩ | ⟨a, b⟩ | ⟨a, b⟩ | ⟨a, b⟩ | ⟨a, b⟩ | ⟨a, b⟩ | ⟨a, b⟩ | ⟨a, b⟩ | ⟨a, b⟩ | ⟨a, b⟩ | ⟨a, b⟩
    · subst a b
      refine (okE_obj (by unfold isO; simp)).mpr ⟨_, e0, rfl, fun k s v hk hv => ?_⟩
      have hk' := (List.getElem?_eq_some_iff.mp hk).1
      have hln : (specs Ty.model).2.length = 27 := rfl
      rw [hln] at hk'
      match k, hk' with
      | 0, _ => cases hk; cases hv; exact y_any 0
      | 1, _ => cases hk; cases hv; trivial
      | 2, _ => cases hk; cases hv; (show (0 : Int) ≤ (0 : Int32).toInt ∧ (0 : Int32).toInt ≤ (30 : Int)); decide
      | 3, _ => cases hk; cases hv; exact T1
      | 4, _ => cases hk; cases hv; exact T2
      | 5, _ => cases hk; cases hv; exact T3
      | 6, _ => cases hk; cases hv; exact T4
      | 7, _ => cases hk; cases hv; exact T5
      | 8, _ => cases hk; cases hv; exact T6
      | 9, _ => cases hk; cases hv; (show (0 : Int) ≤ (0 : Int32).toInt ∧ (0 : Int32).toInt ≤ (8 : Int)); decide
      | 10, _ => cases hk; cases hv; exact T7
      | 11, _ => cases hk; cases hv; exact T8
      | 12, _ => cases hk; cases hv; (show (0 : Int) ≤ (0 : Int32).toInt ∧ (0 : Int32).toInt ≤ (30 : Int)); decide
      | 13, _ => cases hk; cases hv; exact T9
      | 14, _ => cases hk; cases hv; exact T10
      | 15, _ => cases hk; cases hv; exact T11
      | 16, _ => cases hk; cases hv; exact T12
      | 17, _ => cases hk; cases hv; exact T13
      | 18, _ => cases hk; cases hv; (show (0 : Int) ≤ (0 : Int32).toInt ∧ (0 : Int32).toInt ≤ (0 : Int)); decide
      | 19, _ => cases hk; cases hv; exact T14
      | 20, _ => cases hk; cases hv; exact T15
      | 21, _ => cases hk; cases hv; exact T16
      | 22, _ => cases hk; cases hv; exact T17
      | 23, _ => cases hk; cases hv; exact T18
      | 24, _ => cases hk; cases hv; exact T19
      | 25, _ => cases hk; cases hv; exact T20
      | 26, _ => cases hk; cases hv; exact T21
    · subst a b
      exact ⟨⟨_, e1, fun _ => .int 0, rfl, fun _ _ => ⟨0, rfl, by decide, by decide⟩⟩, fun e => by cases e⟩
    · subst a b
      exact ⟨⟨_, e2, fun _ => .int 0, rfl, fun _ _ => ⟨0, rfl, by decide, by decide⟩⟩, fun e => by cases e⟩
    · subst a b
      exact ⟨⟨_, e3, fun _ => .long 0, rfl, fun _ _ => ⟨0, rfl⟩⟩, fun e => by cases e⟩
    · subst a b
      exact ⟨⟨_, e4, fun _ => .int 0, rfl, fun _ _ => ⟨0, rfl, by decide, by decide⟩⟩, fun e => by cases e⟩
    · subst a b
      exact ⟨⟨_, e5, fun _ => .long 0, rfl, fun _ _ => ⟨0, rfl⟩⟩, fun e => by cases e⟩
    · subst a b
      exact ⟨⟨_, e6, fun _ => .long 0, rfl, fun _ _ => ⟨0, rfl⟩⟩, fun e => by cases e⟩
    · subst a b
      exact ⟨⟨_, e7, fun _ => .long 0, rfl, fun _ _ => ⟨0, rfl⟩⟩, fun e => by cases e⟩
    · subst a b
      exact ⟨⟨_, e8, fun _ => .long 0, rfl, fun _ _ => ⟨0, rfl⟩⟩, fun e => by cases e⟩
    · subst a b
      exact ⟨⟨_, e9, fun _ => .int 0, rfl, fun _ _ => ⟨0, rfl, by decide, by decide⟩⟩, fun e => by cases e⟩
    · subst a b
      exact ⟨⟨_, e10, fun _ => .long 0, rfl, fun _ _ => ⟨0, rfl⟩⟩, fun e => by cases e⟩
    · subst a b
      exact ⟨⟨_, e11, fun _ => .long 0, rfl, fun _ _ => ⟨0, rfl⟩⟩, fun e => by cases e⟩
    · subst a b
      exact ⟨⟨_, e12, fun _ => .int 0, rfl, fun _ _ => ⟨0, rfl, by decide, by decide⟩⟩, fun e => by cases e⟩
    · subst a b
      exact ⟨⟨_, e13, fun _ => .int 0, rfl, fun _ _ => ⟨0, rfl, by decide, by decide⟩⟩, fun e => by cases e⟩
    · subst a b
      exact ⟨⟨_, e14, fun _ => .long 0, rfl, fun _ _ => ⟨0, rfl⟩⟩, fun e => by cases e⟩
    · subst a b
      exact ⟨⟨_, e15, fun _ => .int 0, rfl, fun _ _ => ⟨0, rfl, by decide, by decide⟩⟩, fun e => by cases e⟩
    · subst a b
      exact ⟨⟨_, e16, fun _ => .int 0, rfl, fun _ _ => ⟨0, rfl, by decide, by decide⟩⟩, fun e => by cases e⟩
    · subst a b
      exact ⟨⟨_, e17, fun _ => .long 0, rfl, fun _ _ => ⟨0, rfl⟩⟩, fun e => by cases e⟩
    · subst a b
      exact ⟨⟨_, e18, fun _ => .long 0, rfl, fun _ _ => ⟨0, rfl⟩⟩, fun e => by cases e⟩
    · subst a b
      exact ⟨⟨_, e19, fun _ => .long 0, rfl, fun _ _ => ⟨0, rfl⟩⟩, fun e => by cases e⟩
    · subst a b
      exact ⟨⟨_, e20, fun _ => .long 0, rfl, fun _ _ => ⟨0, rfl⟩⟩, fun e => by cases e⟩
    · subst a b
      exact ⟨⟨_, e21, fun _ => .long 0, rfl, fun _ _ => ⟨0, rfl⟩⟩, fun e => by cases e⟩
  · rcases inv q t ht with ⟨a, b⟩ | ⟨a, b⟩ | ⟨a, b⟩ | ⟨a, b⟩ | ⟨a, b⟩ | ⟨a, b⟩ | ⟨a, b⟩ | ⟨a, b⟩ | ⟨a, b⟩ | ⟨a, b⟩ | ⟨a, b⟩ | ⟨a, b⟩ | ⟨a, b⟩ | ⟨a, b⟩ | ⟨a, b⟩ | ⟨a, b⟩ | ⟨a, b⟩ | ⟨a, b⟩ | ⟨a, b⟩ | ⟨a, b⟩ | ⟨a, b⟩ | ⟨a, b⟩
    all_goals omega
end
