section
theorem gup1 {w : gW} {a q : Nat} {e : gE} : (gup w a e).1 q = if q = a then some e else w.1 q := rfl
theorem gup2 {w : gW} {a : Nat} {e : gE} : (gup w a e).2 = w.2 := rfl
theorem gpu1 {w : gW} {q : Nat} {e : gE} : (gpush w e).1 q = if q = w.2 then some e else w.1 q := rfl
theorem gpu2 {w : gW} {e : gE} : (gpush w e).2 = w.2 + 1 := rfl
def gth (w : gW) : gW := (w.1, w.2 + 1)
theorem gth1 {w : gW} : (gth w).1 = w.1 := rfl
abbrev xIO : String := "java/lang/IndexOutOfBoundsException"
abbrev xIA : String := "java/lang/IllegalArgumentException"
theorem q_within {g0 : gG} {p a b : Int64} {w : gW} : f_M_within g0 p a b w = some (.inr (if a ≤ p ∧ p ≤ b then 1 else 0), w) := by
  unfold f_M_within gjoin gguard
  by_cases h1 : p < a
  · have : ¬ (a ≤ p ∧ p ≤ b) := fun h => absurd h.1 (Int64.not_le.mpr h1)
    simp [h1, this]
  · have h1' := Int64.not_lt.mp h1
    by_cases h2 : b < p
    · have : ¬ (a ≤ p ∧ p ≤ b) := fun h => absurd h.2 (Int64.not_le.mpr h2)
      simp [h1, h2, this]
    · simp [h1, h2, h1', Int64.not_lt.mp h2]
theorem q_need {g0 : gG} {p a b : Int64} {w : gW} : f_B_needWithin g0 p a b w = if a ≤ p ∧ p ≤ b then some (.inr (), w) else some (.inl xIA, gth w) := by
  simp only [f_B_needWithin, gjoin, gthrow, gth]
  by_cases h1 : p < a
  · have : ¬ (a ≤ p ∧ p ≤ b) := fun h => absurd h.1 (Int64.not_le.mpr h1)
    rw [if_pos h1, if_neg this]
  · have h1' := Int64.not_lt.mp h1
    by_cases h2 : p ≤ b
    · rw [if_neg h1, if_pos h2, if_pos ⟨h1', h2⟩]
    · rw [if_neg h1, if_neg h2, if_neg (fun h => h2 h.2)]
theorem gbind_ite {α β : Type} {c : Prop} [Decidable c] {x y : gX α} {k : α → gW → gX β} : gbind (if c then x else y) k = if c then gbind x k else gbind y k := by
  split <;> rfl
theorem gtry_ite {α β : Type} {c : Prop} [Decidable c] {x y : gX α} {C : String → gW → gX β} {k : α → gW → gX β} : gtry (if c then x else y) C k = if c then gtry x C k else gtry y C k := by
  split <;> rfl
theorem gb_l {α β : Type} {E : String} {w : gW} {k : α → gW → gX β} : gbind (some (.inl E, w)) k = some (.inl E, w) := rfl
theorem gb_r {α β : Type} {v : α} {w : gW} {k : α → gW → gX β} : gbind (some (.inr v, w)) k = k v w := rfl
theorem gt_l {α β : Type} {E : String} {w : gW} {C : String → gW → gX β} {k : α → gW → gX β} : gtry (some (.inl E, w)) C k = C E w := rfl
theorem gt_r {α β : Type} {v : α} {w : gW} {C : String → gW → gX β} {k : α → gW → gX β} : gtry (some (.inr v, w)) C k = k v w := rfl
abbrev dPl (x y : Int64) : Prop := ((-5000) ≤ x ∧ x ≤ 5000) ∧ ((-5000) ≤ y ∧ y ≤ 5000)
theorem q_needPlace {g0 : gG} {x y : Int64} {w : gW} : f_B_needPlace g0 x y w = if dPl x y then some (.inr (), w) else some (.inl xIA, gth w) := by
  unfold f_B_needPlace dPl
  simp only [q_need, gbind_ite, gb_l, gb_r]
  by_cases h : (-5000) ≤ x ∧ x ≤ 5000 <;> by_cases h2 : (-5000) ≤ y ∧ y ≤ 5000 <;> simp only [h, h2, and_self, and_true, true_and, false_and, and_false, if_true, if_false]
theorem q_isPlace {g0 : gG} {x y : Int64} {w : gW} : f_M_isPlace g0 x y w = some (.inr (if dPl x y then 1 else 0), w) := by
  unfold f_M_isPlace dPl
  simp only [q_within, gb_r, gjoin, gguard]
  by_cases h : (-5000) ≤ x ∧ x ≤ 5000 <;> by_cases h2 : (-5000) ≤ y ∧ y ≤ 5000 <;> simp [h, h2]
theorem q_isLong {g0 : gG} {x : Int64} {w : gW} : f_M_isLong g0 x w = some (.inr (if (1 ≤ x ∧ x ≤ 5000) then 1 else 0), w) := by
  unfold f_M_isLong
  simp only [q_within, gb_r, gguard]
  split <;> simp
theorem q_isUpright {g0 : gG} {z d : Int64} {w : gW} : ∃ v, f_M_isUpright g0 z d w = some (.inr v, w) := by
  unfold f_M_isUpright
  simp only [q_within, q_isLong, gb_r, gjoin, gguard]
  by_cases h1 : (0 ≤ z ∧ z ≤ 5000) <;> by_cases h2 : (1 ≤ d ∧ d ≤ 5000) <;> by_cases h3 : 5000 < z + d <;> simp [h1, h2, h3]
abbrev pA : Type := (Nat → Nat) × (Nat → Int64) × (Nat → Nat → Value)
def pA.B (a : pA) : Nat := a.1 0
def pA.P (a : pA) : Nat := a.1 1
def pA.K (a : pA) : Nat := a.1 2
def pA.cx (a : pA) : Nat := a.1 3
def pA.cy (a : pA) : Nat := a.1 4
def pA.rel (a : pA) : Nat := a.1 5
def pA.fi (a : pA) : Nat := a.1 6
def pA.se (a : pA) : Nat := a.1 7
def pA.m3 (a : pA) : Nat := a.1 8
def pA.m4 (a : pA) : Nat := a.1 9
def pA.m5 (a : pA) : Nat := a.1 10
def pA.m6 (a : pA) : Nat := a.1 11
def pA.m7 (a : pA) : Nat := a.1 12
def pA.m8 (a : pA) : Nat := a.1 13
def pA.m10 (a : pA) : Nat := a.1 14
def pA.m11 (a : pA) : Nat := a.1 15
def pA.m13 (a : pA) : Nat := a.1 16
def pA.m14 (a : pA) : Nat := a.1 17
def pA.m15 (a : pA) : Nat := a.1 18
def pA.m16 (a : pA) : Nat := a.1 19
def pA.m17 (a : pA) : Nat := a.1 20
def pA.m19 (a : pA) : Nat := a.1 21
def pA.m20 (a : pA) : Nat := a.1 22
def pA.m21 (a : pA) : Nat := a.1 23
def pA.m22 (a : pA) : Nat := a.1 24
def pA.m23 (a : pA) : Nat := a.1 25
def pA.m24 (a : pA) : Nat := a.1 26
def pA.m25 (a : pA) : Nat := a.1 27
def pA.m26 (a : pA) : Nat := a.1 28
def pA.th (a : pA) : Int64 := a.2.1 0
def pA.tm (a : pA) : Int64 := a.2.1 1
def pA.X (a : pA) : Nat → Value := a.2.2 0
def pA.Y (a : pA) : Nat → Value := a.2.2 1
def pA.Z (a : pA) : Nat → Value := a.2.2 2
def pA.X' (a : pA) : Nat → Value := a.2.2 3
def pA.Y' (a : pA) : Nat → Value := a.2.2 4
def pA.O (a : pA) : Nat → Value := a.2.2 5
abbrev pA.ob (a : pA) : List Value := [.long a.th, .ref a.B, .ref a.P, .ref a.K, .ref a.cx, .ref a.cy, .int 0, .ref a.rel, .ref a.fi, .ref a.se]
abbrev pA.mo (a : pA) : List Value := [.int 0, .long a.tm, .int 0, .ref a.m3, .ref a.m4, .ref a.m5, .ref a.m6, .ref a.m7, .ref a.m8, .int 0, .ref a.m10, .ref a.m11, .int 0, .ref a.m13, .ref a.m14, .ref a.m15, .ref a.m16, .ref a.m17, .int 0, .ref a.m19, .ref a.m20, .ref a.m21, .ref a.m22, .ref a.m23, .ref a.m24, .ref a.m25, .ref a.m26]
def pF (g0 : gG) (a : pA) (b L : Nat) (xs : Nat → Int32) (c1 c2 c3 : Nat) (w : gW) : Prop := (w.1 b = some (.inl (4, L, fun j => .int (xs j)))) ∧ (w.1 g0.1 = some (.inl (5, 0, fun _ => .null))) ∧ (w.1 c1 = some (.inr (0, a.ob))) ∧ (w.1 a.B = some (.inr (1, [.ref g0.1, .int 0, .int 0]))) ∧ (w.1 a.P = some (.inr (1, [.ref g0.1, .int 0, .int 0]))) ∧ (w.1 a.K = some (.inr (1, [.ref g0.1, .int 0, .int 0]))) ∧ (w.1 a.cx = some (.inl (1, 8, a.X))) ∧ (w.1 a.cy = some (.inl (1, 8, a.Y))) ∧ (w.1 c2 = some (.inr (7, a.mo))) ∧ (w.1 a.m10 = some (.inl (1, 8, a.X'))) ∧ (w.1 a.m11 = some (.inl (1, 8, a.Y'))) ∧ (w.1 a.m19 = some (.inl (1, 60, a.O))) ∧ (w.1 c3 = some (.inl (1, 1, a.Z))) ∧ (b < w.2) ∧ (g0.1 < w.2) ∧ (c1 < w.2) ∧ (a.K < w.2) ∧ (a.B < w.2) ∧ (a.m19 < w.2) ∧ (a.m10 ≠ a.cx ∧ a.m10 ≠ a.cy ∧ a.m11 ≠ a.cx ∧ a.m11 ≠ a.cy) ∧ (c2 < w.2) ∧ (c3 < w.2)
theorem pF.hb {g0 : gG} {a : pA} {b L : Nat} {xs : Nat → Int32} {c1 c2 c3 : Nat} {w : gW} (h : pF g0 a b L xs c1 c2 c3 w) : w.1 b = some (.inl (4, L, fun j => .int (xs j))) := h.1
theorem pF.he {g0 : gG} {a : pA} {b L : Nat} {xs : Nat → Int32} {c1 c2 c3 : Nat} {w : gW} (h : pF g0 a b L xs c1 c2 c3 w) : w.1 g0.1 = some (.inl (5, 0, fun _ => .null)) := h.2.1
theorem pF.h1 {g0 : gG} {a : pA} {b L : Nat} {xs : Nat → Int32} {c1 c2 c3 : Nat} {w : gW} (h : pF g0 a b L xs c1 c2 c3 w) : w.1 c1 = some (.inr (0, a.ob)) := h.2.2.1
theorem pF.hB {g0 : gG} {a : pA} {b L : Nat} {xs : Nat → Int32} {c1 c2 c3 : Nat} {w : gW} (h : pF g0 a b L xs c1 c2 c3 w) : w.1 a.B = some (.inr (1, [.ref g0.1, .int 0, .int 0])) := h.2.2.2.1
theorem pF.hP {g0 : gG} {a : pA} {b L : Nat} {xs : Nat → Int32} {c1 c2 c3 : Nat} {w : gW} (h : pF g0 a b L xs c1 c2 c3 w) : w.1 a.P = some (.inr (1, [.ref g0.1, .int 0, .int 0])) := h.2.2.2.2.1
theorem pF.hK {g0 : gG} {a : pA} {b L : Nat} {xs : Nat → Int32} {c1 c2 c3 : Nat} {w : gW} (h : pF g0 a b L xs c1 c2 c3 w) : w.1 a.K = some (.inr (1, [.ref g0.1, .int 0, .int 0])) := h.2.2.2.2.2.1
theorem pF.hX {g0 : gG} {a : pA} {b L : Nat} {xs : Nat → Int32} {c1 c2 c3 : Nat} {w : gW} (h : pF g0 a b L xs c1 c2 c3 w) : w.1 a.cx = some (.inl (1, 8, a.X)) := h.2.2.2.2.2.2.1
theorem pF.hY {g0 : gG} {a : pA} {b L : Nat} {xs : Nat → Int32} {c1 c2 c3 : Nat} {w : gW} (h : pF g0 a b L xs c1 c2 c3 w) : w.1 a.cy = some (.inl (1, 8, a.Y)) := h.2.2.2.2.2.2.2.1
theorem pF.h2 {g0 : gG} {a : pA} {b L : Nat} {xs : Nat → Int32} {c1 c2 c3 : Nat} {w : gW} (h : pF g0 a b L xs c1 c2 c3 w) : w.1 c2 = some (.inr (7, a.mo)) := h.2.2.2.2.2.2.2.2.1
theorem pF.hX' {g0 : gG} {a : pA} {b L : Nat} {xs : Nat → Int32} {c1 c2 c3 : Nat} {w : gW} (h : pF g0 a b L xs c1 c2 c3 w) : w.1 a.m10 = some (.inl (1, 8, a.X')) := h.2.2.2.2.2.2.2.2.2.1
theorem pF.hY' {g0 : gG} {a : pA} {b L : Nat} {xs : Nat → Int32} {c1 c2 c3 : Nat} {w : gW} (h : pF g0 a b L xs c1 c2 c3 w) : w.1 a.m11 = some (.inl (1, 8, a.Y')) := h.2.2.2.2.2.2.2.2.2.2.1
theorem pF.hO {g0 : gG} {a : pA} {b L : Nat} {xs : Nat → Int32} {c1 c2 c3 : Nat} {w : gW} (h : pF g0 a b L xs c1 c2 c3 w) : w.1 a.m19 = some (.inl (1, 60, a.O)) := h.2.2.2.2.2.2.2.2.2.2.2.1
theorem pF.h3 {g0 : gG} {a : pA} {b L : Nat} {xs : Nat → Int32} {c1 c2 c3 : Nat} {w : gW} (h : pF g0 a b L xs c1 c2 c3 w) : w.1 c3 = some (.inl (1, 1, a.Z)) := h.2.2.2.2.2.2.2.2.2.2.2.2.1
theorem pF.lb {g0 : gG} {a : pA} {b L : Nat} {xs : Nat → Int32} {c1 c2 c3 : Nat} {w : gW} (h : pF g0 a b L xs c1 c2 c3 w) : b < w.2 := h.2.2.2.2.2.2.2.2.2.2.2.2.2.1
theorem pF.le {g0 : gG} {a : pA} {b L : Nat} {xs : Nat → Int32} {c1 c2 c3 : Nat} {w : gW} (h : pF g0 a b L xs c1 c2 c3 w) : g0.1 < w.2 := h.2.2.2.2.2.2.2.2.2.2.2.2.2.2.1
theorem pF.l1 {g0 : gG} {a : pA} {b L : Nat} {xs : Nat → Int32} {c1 c2 c3 : Nat} {w : gW} (h : pF g0 a b L xs c1 c2 c3 w) : c1 < w.2 := h.2.2.2.2.2.2.2.2.2.2.2.2.2.2.2.1
theorem pF.lK {g0 : gG} {a : pA} {b L : Nat} {xs : Nat → Int32} {c1 c2 c3 : Nat} {w : gW} (h : pF g0 a b L xs c1 c2 c3 w) : a.K < w.2 := h.2.2.2.2.2.2.2.2.2.2.2.2.2.2.2.2.1
theorem pF.lB {g0 : gG} {a : pA} {b L : Nat} {xs : Nat → Int32} {c1 c2 c3 : Nat} {w : gW} (h : pF g0 a b L xs c1 c2 c3 w) : a.B < w.2 := h.2.2.2.2.2.2.2.2.2.2.2.2.2.2.2.2.2.1
theorem pF.l19 {g0 : gG} {a : pA} {b L : Nat} {xs : Nat → Int32} {c1 c2 c3 : Nat} {w : gW} (h : pF g0 a b L xs c1 c2 c3 w) : a.m19 < w.2 := h.2.2.2.2.2.2.2.2.2.2.2.2.2.2.2.2.2.2.1
theorem pF.nX {g0 : gG} {a : pA} {b L : Nat} {xs : Nat → Int32} {c1 c2 c3 : Nat} {w : gW} (h : pF g0 a b L xs c1 c2 c3 w) : a.m10 ≠ a.cx ∧ a.m10 ≠ a.cy ∧ a.m11 ≠ a.cx ∧ a.m11 ≠ a.cy := h.2.2.2.2.2.2.2.2.2.2.2.2.2.2.2.2.2.2.2.1
theorem pF.l2 {g0 : gG} {a : pA} {b L : Nat} {xs : Nat → Int32} {c1 c2 c3 : Nat} {w : gW} (h : pF g0 a b L xs c1 c2 c3 w) : c2 < w.2 := h.2.2.2.2.2.2.2.2.2.2.2.2.2.2.2.2.2.2.2.2.1
theorem pF.l3 {g0 : gG} {a : pA} {b L : Nat} {xs : Nat → Int32} {c1 c2 c3 : Nat} {w : gW} (h : pF g0 a b L xs c1 c2 c3 w) : c3 < w.2 := h.2.2.2.2.2.2.2.2.2.2.2.2.2.2.2.2.2.2.2.2.2
section
variable {g0 : gG} {a : pA} {b L : Nat} {xs : Nat → Int32} {c1 c2 c3 : Nat} {w : gW}
theorem q_bodyAt (h : pF g0 a b L xs c1 c2 c3 w) {p : Int32} : f_B_bodyAt g0 c1 p w = some (.inl xIO, gth w) := by
  by_cases hp : p < 0 <;> simp [f_B_bodyAt, f_AL_size, f_B_needIndex, gfA, gfI, gck, gf, gvA, gvI, h.h1, h.hB, gbind, gjoin, gthrow, gth, hp]
theorem q_placementAt (h : pF g0 a b L xs c1 c2 c3 w) {p : Int32} : f_B_placementAt g0 c1 p w = some (.inl xIO, gth w) := by
  by_cases hp : p < 0 <;> simp [f_B_placementAt, f_AL_size, f_B_needIndex, gfA, gfI, gck, gf, gvA, gvI, h.h1, h.hP, gbind, gjoin, gthrow, gth, hp]
theorem q_ck1 (h : pF g0 a b L xs c1 c2 c3 w) : gck w c1 0 = some () := by simp [gck, h.h1]
theorem q_ck2 (h : pF g0 a b L xs c1 c2 c3 w) : gck w c2 7 = some () := by simp [gck, h.h2]
theorem q_Wbox (h : pF g0 a b L xs c1 c2 c3 w) {p : Int32} {x1 x2 x3 x4 x5 x6 : Int64} : f_W_box g0 c1 p x1 x2 x3 x4 x5 x6 c3 w = some (.inr 1, gth w) := by
  simp [f_W_box, f_B_box, q_ck1 h, q_bodyAt h, gb_l, gt_l]
theorem q_Wcyl (h : pF g0 a b L xs c1 c2 c3 w) {p : Int32} {x1 x2 x3 x4 x5 : Int64} : f_W_cylinder g0 c1 p x1 x2 x3 x4 x5 c3 w = some (.inr 1, gth w) := by
  simp [f_W_cylinder, f_B_cylinder, q_ck1 h, q_bodyAt h, gb_l, gt_l]
theorem q_Wprism (h : pF g0 a b L xs c1 c2 c3 w) {p : Int32} {x1 x2 : Int64} : f_W_prism g0 c1 p x1 x2 c3 w = some (.inr 1, gth w) := by
  simp [f_W_prism, f_B_prism, q_ck1 h, q_bodyAt h, gb_l, gt_l]
theorem q_Wtube (h : pF g0 a b L xs c1 c2 c3 w) {p : Int32} {x1 x2 x3 x4 : Int64} {y : Int32} {x5 : Int64} : f_W_tube g0 c1 p x1 x2 x3 x4 y x5 c3 w = some (.inr 1, gth w) := by
  simp [f_W_tube, f_B_tube, q_ck1 h, q_bodyAt h, gb_l, gt_l]
theorem q_Wjoin (h : pF g0 a b L xs c1 c2 c3 w) {p q : Int32} : f_W_join g0 c1 p q c3 w = some (.inr 1, gth w) := by
  simp [f_W_join, f_B_join, q_ck1 h, q_bodyAt h, gb_l, gt_l]
theorem q_Wplace (h : pF g0 a b L xs c1 c2 c3 w) {p : Int32} {x y : Int64} {t s : Int32} : f_W_place g0 c1 p x y t s c3 w = some (.inr 1, gth w) := by
  simp [f_W_place, f_B_place, q_ck1 h, q_bodyAt h, gb_l, gt_l]
theorem q_Wmove (h : pF g0 a b L xs c1 c2 c3 w) {p : Int32} {x y : Int64} {t s : Int32} : f_W_move g0 c1 p x y t s c3 w = some (.inr 1, gth w) := by
  simp [f_W_move, f_B_move, q_ck1 h, q_placementAt h, gb_l, gt_l]
theorem q_Wclash (h : pF g0 a b L xs c1 c2 c3 w) {p q : Int32} : f_W_clash g0 c1 p q c3 w = some (.inr 1, gth w) := by
  simp [f_W_clash, f_B_clash, q_ck1 h, q_placementAt h, gb_l, gt_l]
theorem q_Wbound (h : pF g0 a b L xs c1 c2 c3 w) {p q : Int32} : f_W_bound g0 c1 p q c3 w = some (.inr 1, gth w) := by
  simp [f_W_bound, f_B_bound, q_ck1 h, q_placementAt h, gb_l, gt_l]
theorem q_Wmass (h : pF g0 a b L xs c1 c2 c3 w) {p : Int32} : f_W_mass g0 c1 p c3 w = some (.inr 1, gth w) := by
  simp [f_W_mass, f_B_mass, q_ck1 h, q_bodyAt h, gb_l, gt_l]
abbrev pM (a : pA) (c2 : Nat) (w : gW) : gW := gup w c2 (.inr (7, a.mo.set 0 (.int 1)))
theorem q_isBody (h : w.1 c2 = some (.inr (7, a.mo))) {p : Int32} : f_M_isBody g0 c2 p w = some (.inr 0, w) := by
  by_cases hp : p < 0 <;> simp [f_M_isBody, gfI, gf, gvI, h, gjoin, gguard, hp]
  all_goals simp [Int32.not_lt.mp hp]
theorem q_isPlaced (h : w.1 c2 = some (.inr (7, a.mo))) {p : Int32} : f_M_isPlaced g0 c2 p w = some (.inr 0, w) := by
  by_cases hp : p < 0 <;> simp [f_M_isPlaced, gfI, gf, gvI, h, gjoin, gguard, hp]
  all_goals simp [Int32.not_lt.mp hp]
theorem q_ckM (h : w.1 c2 = some (.inr (7, a.mo))) : gck w c2 7 = some () := by simp [gck, h]
theorem q_Mthrow (h : w.1 c2 = some (.inr (7, a.mo))) : gp w c2 7 0 (.int 1) = some (pM a c2 w) := by simp [gp, h, pM]
theorem q_Mthrow0 (h : w.1 c2 = some (.inr (7, a.mo))) : gp w c2 7 0 (.int 0) = some (gup w c2 (.inr (7, a.mo))) := by simp [gp, h]
theorem q_Mthrown : gfI (pM a c2 w) c2 7 0 = some 1 := by simp [gfI, gf, gvI, gup]
theorem q_Mtail {x : gX Int32} (h : w.1 c2 = some (.inr (7, a.mo))) {r : Int32} {k : Int32 → gX Int32} (hk : k 1 = some (.inr r, pM a c2 w)) : ((gp w c2 7 0 (.int 1)).bind fun w => (gfI w c2 7 0).bind k) = some (.inr r, pM a c2 w) := by
  simp only [q_Mthrow h, q_Mthrown, Option.bind_some, hk]
theorem q_Mbox (h : w.1 c2 = some (.inr (7, a.mo))) {p : Int32} {x1 x2 x3 x4 x5 x6 : Int64} : f_M_box g0 c2 p x1 x2 x3 x4 x5 x6 w = some (.inr 0, pM a c2 w) := by
  obtain ⟨v, hv⟩ := q_isUpright (g0 := g0) (z := x3) (d := x6) (w := w)
  simp only [f_M_box, q_isPlace, q_isLong, hv, gb_r, gjoin, q_ckM h, Option.bind_some, q_isBody h]
  repeat' split
  all_goals first
    | rfl
    | simp [q_Mthrow h, q_Mthrown, gguard]
theorem q_Mcyl (h : w.1 c2 = some (.inr (7, a.mo))) {p : Int32} {x1 x2 x3 x4 x5 : Int64} : f_M_cylinder g0 c2 p x1 x2 x3 x4 x5 w = some (.inr 0, pM a c2 w) := by
  obtain ⟨v, hv⟩ := q_isUpright (g0 := g0) (z := x3) (d := x5) (w := w)
  simp only [f_M_cylinder, q_isPlace, q_isLong, hv, gb_r, gjoin, q_ckM h, Option.bind_some, q_isBody h]
  repeat' split
  all_goals first
    | rfl
    | simp [q_Mthrow h, q_Mthrown, gguard]
theorem q_Mprism (h : w.1 c2 = some (.inr (7, a.mo))) {p : Int32} {x1 x2 : Int64} : f_M_prism g0 c2 p x1 x2 w = some (.inr 0, pM a c2 w) := by
  simp [f_M_prism, gb_r, gjoin, q_ckM h, q_isBody h, q_Mthrow h, q_Mthrown, gguard]
theorem q_Mtube (h : w.1 c2 = some (.inr (7, a.mo))) {p : Int32} {x1 x2 x3 x4 : Int64} {y : Int32} {x5 : Int64} : f_M_tube g0 c2 p x1 x2 x3 x4 y x5 w = some (.inr 0, pM a c2 w) := by
  simp only [f_M_tube, q_within, q_isPlace, gb_r, gjoin, q_ckM h, Option.bind_some, q_isBody h]
  repeat' split
  all_goals first
    | rfl
    | simp [q_Mthrow h, q_Mthrown, gguard]
theorem q_Mjoin (h : w.1 c2 = some (.inr (7, a.mo))) {p q : Int32} : f_M_join g0 c2 p q w = some (.inr 0, pM a c2 w) := by
  simp [f_M_join, gb_r, gjoin, q_ckM h, q_isBody h, q_Mthrow h, q_Mthrown, gguard]
theorem q_Mplace (h : w.1 c2 = some (.inr (7, a.mo))) {p : Int32} {x y : Int64} {t s : Int32} : f_M_place g0 c2 p x y t s w = some (.inr 0, pM a c2 w) := by
  simp [f_M_place, gb_r, gjoin, q_ckM h, q_isBody h, q_Mthrow h, q_Mthrown, gguard]
theorem q_Mmove (h : w.1 c2 = some (.inr (7, a.mo))) {p : Int32} {x y : Int64} {t s : Int32} : f_M_move g0 c2 p x y t s w = some (.inr 0, pM a c2 w) := by
  simp [f_M_move, gb_r, gjoin, q_ckM h, q_isPlaced h, q_Mthrow h, q_Mthrown, gguard]
theorem q_Mclash (h : w.1 c2 = some (.inr (7, a.mo))) {p q : Int32} : f_M_clash g0 c2 p q w = some (.inr 0, pM a c2 w) := by
  simp [f_M_clash, gb_r, gjoin, q_ckM h, q_isPlaced h, q_Mthrow h, q_Mthrown, gguard]
theorem q_Mbound (h : w.1 c2 = some (.inr (7, a.mo))) {p q : Int32} : f_M_bound g0 c2 p q w = some (.inr 0, pM a c2 w) := by
  simp [f_M_bound, gb_r, gjoin, q_ckM h, q_isPlaced h, q_Mthrow h, q_Mthrown, gguard]
theorem q_Mmass (h : w.1 c2 = some (.inr (7, a.mo))) {p : Int32} : f_M_mass g0 c2 p w = some (.inr 0, pM a c2 w) := by
  simp only [f_M_mass, gb_r, gjoin, q_ckM h, q_isBody h, Option.bind_some, if_true, q_Mthrow h]
  rw [f_M_mass_L22.eq_2]
  simp [q_Mthrown]
theorem q_szP (h : pF g0 a b L xs c1 c2 c3 w) : gfA w c1 0 2 = some a.P ∧ gck w a.P 1 = some () ∧ f_AL_size g0 a.P w = some (.inr 0, w) := by
  simp [gfA, gf, gvA, h.h1, gck, h.hP, f_AL_size, gfI, gvI]
theorem q_Bclashes (h : pF g0 a b L xs c1 c2 c3 w) : f_B_clashes g0 c1 w = some (.inr 0, w) := by
  obtain ⟨e1, e2, e3⟩ := q_szP h
  simp only [f_B_clashes, gjoin]
  rw [f_B_clashes_L4.eq_2]
  simp [e1, e2, e3, gb_r]
theorem q_Bbreaks (h : pF g0 a b L xs c1 c2 c3 w) {k : Int32} : f_B_breaks g0 c1 k w = some (.inr (-1), w) := by
  obtain ⟨e1, e2, e3⟩ := q_szP h
  simp only [f_B_breaks, gjoin]
  rw [f_B_breaks_L4.eq_2]
  simp [e1, e2, e3, gb_r]
theorem q_needIndex {p n : Int32} : f_B_needIndex g0 p n w = if 0 ≤ p ∧ p < n then some (.inr (), w) else some (.inl xIO, gth w) := by
  simp only [f_B_needIndex, gjoin, gthrow, gth]
  by_cases h1 : p < 0
  · have : ¬ (0 ≤ p ∧ p < n) := fun h => absurd h.1 (Int32.not_le.mpr h1)
    rw [if_pos h1, if_neg this]
  · have h1' := Int32.not_lt.mp h1
    by_cases h2 : p < n
    · rw [if_neg h1, if_pos h2, if_pos ⟨h1', h2⟩]
    · rw [if_neg h1, if_neg h2, if_neg (fun h => h2 h.2)]
abbrev pO (a : pA) (c3 : Nat) (v : Int64) (w : gW) : gW := gup w c3 (.inl (1, 1, updV a.Z 0 (.long v)))
theorem q_out (h : w.1 c3 = some (.inl (1, 1, a.Z))) {v : Int64} : gsJ w c3 0 v = some (pO a c3 v w) := by
  simp [gsJ, gas, h]
theorem q_Bpair (h : pF g0 a b L xs c1 c2 c3 w) {k p : Int32} : f_B_pair g0 c1 k p w = if 0 ≤ p ∧ p < 2 then some (.inr (-1), w) else some (.inl xIO, gth w) := by
  obtain ⟨e1, e2, e3⟩ := q_szP h
  unfold f_B_pair
  rw [q_needIndex]
  by_cases hp : 0 ≤ p ∧ p < 2
  · rw [if_pos hp, if_pos hp, gb_r]
    simp only [gjoin]
    rw [f_B_pair_L10.eq_2]
    simp [e1, e2, e3, gb_r]
  · rw [if_neg hp, if_neg hp, gb_l]
theorem q_Wpair (h : pF g0 a b L xs c1 c2 c3 w) {k p : Int32} : f_W_pair g0 c1 k p c3 w = if 0 ≤ p ∧ p < 2 then some (.inr 0, pO a c3 (-1) w) else some (.inr 1, gth w) := by
  unfold f_W_pair
  rw [q_ck1 h, Option.bind_some, q_Bpair h, gtry_ite, gt_l, gt_r]
  simp [q_out h.h3]
theorem q_Bsection (h : pF g0 a b L xs c1 c2 c3 w) {z : Int64} {k p : Int32} : f_B_section g0 c1 z k p w = if 0 ≤ p ∧ p < 6 then some (.inr (-1), w) else some (.inl xIO, gth w) := by
  obtain ⟨e1, e2, e3⟩ := q_szP h
  unfold f_B_section
  rw [q_needIndex]
  by_cases hp : 0 ≤ p ∧ p < 6
  · rw [if_pos hp, if_pos hp, gb_r]
    simp only [gjoin]
    rw [f_B_section_L13.eq_2]
    simp [e1, e2, e3, gb_r]
  · rw [if_neg hp, if_neg hp, gb_l]
theorem q_Wsection (h : pF g0 a b L xs c1 c2 c3 w) {z : Int64} {k p : Int32} : f_W_section g0 c1 z k p c3 w = if 0 ≤ p ∧ p < 6 then some (.inr 0, pO a c3 (-1) w) else some (.inr 1, gth w) := by
  unfold f_W_section
  rw [q_ck1 h, Option.bind_some, q_Bsection h, gtry_ite, gt_l, gt_r]
  simp [q_out h.h3]
abbrev pM0 (a : pA) (c2 : Nat) (w : gW) : gW := gup w c2 (.inr (7, a.mo))
theorem q_Mpl : gfI (pM0 a c2 w) c2 7 12 = some 0 := by simp [gfI, gf, gvI, gup]
theorem q_Mclashes (h : w.1 c2 = some (.inr (7, a.mo))) : f_M_clashes g0 c2 w = some (.inr 0, pM0 a c2 w) := by
  simp only [f_M_clashes, gjoin, q_Mthrow0 h, Option.bind_some]
  rw [f_M_clashes_L9.eq_2]
  simp [q_Mpl]
theorem q_Mbreaks (h : w.1 c2 = some (.inr (7, a.mo))) {k : Int32} : f_M_breaks g0 c2 k w = some (.inr (-1), pM0 a c2 w) := by
  simp only [f_M_breaks, gjoin, q_Mthrow0 h, Option.bind_some]
  rw [f_M_breaks_L9.eq_2]
  simp [q_Mpl]
theorem q_Mth0 : gfI (pM0 a c2 w) c2 7 0 = some 0 := by simp [gfI, gf, gvI, gup]
theorem q_two {p : Int32} : (p = 0 ∨ p = 1) ↔ (0 ≤ p ∧ p < 2) := by
  constructor
  · rintro (rfl | rfl) <;> decide
  · rintro ⟨h1, h2⟩
    have a1 := Int32.le_iff_toInt_le.mp h1
    have a2 := Int32.lt_iff_toInt_lt.mp h2
    have b1 : (0 : Int32).toInt = 0 := by decide
    have b2 : (2 : Int32).toInt = 2 := by decide
    have b3 : (1 : Int32).toInt = 1 := by decide
    rw [← Int32.toInt_inj, ← Int32.toInt_inj, b1, b3]
    omega
theorem q_Mpair (h : w.1 c2 = some (.inr (7, a.mo))) {k p : Int32} : f_M_pair g0 c2 k p w = if 0 ≤ p ∧ p < 2 then some (.inr (-1), pM0 a c2 w) else some (.inr 0, pM a c2 w) := by
  by_cases hp : p = 0
  · subst hp
    simp only [f_M_pair, gjoin, if_true, q_Mthrow0 h, Option.bind_some, q_Mth0]
    rw [f_M_pair_L32.eq_2]
    simp [q_Mpl]
  · by_cases hp1 : p = 1
    · subst hp1
      simp only [f_M_pair, gjoin, if_true, q_Mthrow0 h, Option.bind_some, q_Mth0, show ((1 : Int32) = 0) = False from by simp, if_false]
      rw [f_M_pair_L32.eq_2]
      simp [q_Mpl]
    · rw [if_neg (fun hh => (q_two.mpr hh).elim hp hp1)]
      simp [f_M_pair, gjoin, hp, hp1, q_Mthrow h, q_Mthrown]
theorem q_six {p : Int32} : (p < 6) ↔ p ≤ 5 := by
  rw [Int32.le_iff_toInt_le, Int32.lt_iff_toInt_lt]
  have b1 : (6 : Int32).toInt = 6 := by decide
  have b2 : (5 : Int32).toInt = 5 := by decide
  rw [b1, b2]; omega
theorem q_Msection (h : w.1 c2 = some (.inr (7, a.mo))) {z : Int64} {k p : Int32} : f_M_section g0 c2 z k p w = if 0 ≤ p ∧ p < 6 then some (.inr (-1), pM0 a c2 w) else some (.inr 0, pM a c2 w) := by
  by_cases hp : p < 0
  · rw [if_neg (fun hh => absurd hh.1 (Int32.not_le.mpr hp))]
    simp [f_M_section, gjoin, hp, q_Mthrow h, q_Mthrown]
  · by_cases hp1 : p ≤ 5
    · rw [if_pos ⟨Int32.not_lt.mp hp, q_six.mpr hp1⟩]
      simp only [f_M_section, gjoin, hp, hp1, if_true, if_false, q_Mthrow0 h, Option.bind_some, q_Mth0]
      rw [f_M_section_L35.eq_2]
      simp [q_Mpl]
    · rw [if_neg (fun hh => hp1 (q_six.mp hh.2))]
      simp [f_M_section, gjoin, hp, hp1, q_Mthrow h, q_Mthrown]
end
end
