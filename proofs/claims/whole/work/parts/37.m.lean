abbrev b_W_cell : ByteArray := method_2_code
def y_W_cell : MethodName := ⟨"BodySolidsLaw", "cell", "([II)I"⟩
theorem d_W_cell_0 : decode b_W_cell 0 = .ok (.iload_n 1, 1) := by decide +kernel
theorem d_W_cell_1 : decode b_W_cell 1 = .ok (.aload_n 0, 1) := by decide +kernel
theorem d_W_cell_2 : decode b_W_cell 2 = .ok (.arraylength, 1) := by decide +kernel
theorem d_W_cell_3 : decode b_W_cell 3 = .ok (.if_icmp .ge 9, 3) := by decide +kernel
theorem d_W_cell_6 : decode b_W_cell 6 = .ok (.aload_n 0, 1) := by decide +kernel
theorem d_W_cell_7 : decode b_W_cell 7 = .ok (.iload_n 1, 1) := by decide +kernel
theorem d_W_cell_8 : decode b_W_cell 8 = .ok (.iaload, 1) := by decide +kernel
theorem d_W_cell_9 : decode b_W_cell 9 = .ok (.goto 4, 3) := by decide +kernel
theorem d_W_cell_12 : decode b_W_cell 12 = .ok (.iconst 0, 1) := by decide +kernel
theorem d_W_cell_13 : decode b_W_cell 13 = .ok (.ireturn, 1) := by decide +kernel
abbrev rm_W_cell : Room := { frames := 0, cells := 0, slots := 0, locals := 0 }
theorem ce_W_cell : gCe y_W_cell (.code y_W_cell b_W_cell 2 (some .int)) 2 2 true := gCe.code wd_426 wd_48 wd_425 (by decide) (by decide +kernel)
def f_W_cell (g0 : gG) (a0 : Nat) (p1 : Int32) (w : gW) : gX Int32 := (gal w a0).bind fun v1 => gjoin (fun K13 => if v1 ≤ p1 then (K13 0 w) else ((gaI w a0 p1).bind fun v5 => K13 v5 w)) (fun (y3 : Int32) (w : gW) => some (.inr y3, w))
set_option maxHeartbeats 4000000 in
set_option maxRecDepth 100000 in
theorem m_W_cell (l : Launch) (hst : l.stackTraces = false) (D : gD) (g0 : gG) (a0 : Nat) (p1 : Int32) (w : gW) (r : (String ⊕ Int32) × gW) (h : f_W_cell g0 a0 p1 w = some r) : gMet l y_W_cell (.code y_W_cell b_W_cell 2 (some .int)) rm_W_cell D g0 [.ref a0, .int p1] w (goI r) := by
  refine gw_ofI (by decide +kernel) (Nat.le_of_ble_eq_true rfl) ?_
  intro p e s m below meth c ls args A Q hx hb hml hown hlocks hin hnt hT hK hZ hA hret hexc hthr hI hl
  obtain ⟨H, hH⟩ : ∃ H, H = s.heap := ⟨_, rfl⟩
  rw [← hH] at hI ⊢
  obtain ⟨locs, hlocs⟩ : ∃ z : List Loc, z = [] := ⟨_, rfl⟩
  rw [← hlocs] at hI ⊢
  have hl : lv_has ls 2 [(0, .ref a0), (1, .int p1)] := hl
  unfold f_W_cell at h
  refine lv_iload_n hx hb d_W_cell_0 rfl (lv_at hl 1 rfl) ?_
  refine lv_aload_n hx hb d_W_cell_1 rfl (lv_at hl 0 rfl) ?_
  obtain ⟨v1, e2, h⟩ := gb h
  refine gw_alen hx hb hK hI e2 d_W_cell_2 ?_
  obtain ⟨K13, eK13, h⟩ := gj h
  have hK13 : ∀ (y3 : Int32) (w : gW) (H : Heap) (locs : List Loc) (ls : Array Slot), K13 y3 w = some r → gI D s A w H locs → lv_has ls 2 [] → W p l e rm_W_cell s m args below meth c H locs 0 0 Q (F0 m 13 ls [.int y3]) := by
    intro y3 w H locs ls h hI hl
    have h := gk2 eK13 h
    exact W.widen (show 0 ≤ 0 by omega) (show 0 ≤ 0 by omega) (hret _ _ (Option.some.inj h).symm _ _ _ _ d_W_cell_13 hI)
  refine lv_icmp_ge (tgt := 12) hx hb d_W_cell_3 (by decide) (fun c4 => ?_) (fun c4 => ?_)
  · skip
    have h := git c4 h
    refine lv_iconst (v := 0) hx hb d_W_cell_12 (by decide) ?_
    exact hK13 _ w H locs ls h hI (lv_sub hl [] rfl)
  · skip
    have h := gie c4 h
    refine lv_aload_n hx hb d_W_cell_6 rfl (lv_at hl 0 rfl) ?_
    refine lv_iload_n hx hb d_W_cell_7 rfl (lv_at hl 1 rfl) ?_
    obtain ⟨v5, e6, h⟩ := gb h
    refine gw_aldI hx hb hK hI e6 d_W_cell_8 ?_
    refine lv_goto (tgt := 13) hx hb d_W_cell_9 (by decide) ?_
    exact hK13 _ w H locs ls h hI (lv_sub hl [] rfl)
