abbrev b_W_join : ByteArray := method_8_code
def y_W_join : MethodName := ⟨"BodySolidsLaw", "join", "(LBodySolids;II[J)I"⟩
theorem d_W_join_0 : decode b_W_join 0 = .ok (.aload_n 3, 1) := by decide +kernel
theorem d_W_join_1 : decode b_W_join 1 = .ok (.iconst 0, 1) := by decide +kernel
theorem d_W_join_2 : decode b_W_join 2 = .ok (.aload_n 0, 1) := by decide +kernel
theorem d_W_join_3 : decode b_W_join 3 = .ok (.iload_n 1, 1) := by decide +kernel
theorem d_W_join_4 : decode b_W_join 4 = .ok (.iload_n 2, 1) := by decide +kernel
theorem d_W_join_5 : decode b_W_join 5 = .ok (.invokevirtual 33, 3) := by decide +kernel
theorem d_W_join_8 : decode b_W_join 8 = .ok (.i2l, 1) := by decide +kernel
theorem d_W_join_9 : decode b_W_join 9 = .ok (.lastore, 1) := by decide +kernel
theorem d_W_join_10 : decode b_W_join 10 = .ok (.goto 7, 3) := by decide +kernel
theorem d_W_join_13 : decode b_W_join 13 = .ok (.astore 4, 2) := by decide +kernel
theorem d_W_join_15 : decode b_W_join 15 = .ok (.iconst 1, 1) := by decide +kernel
theorem d_W_join_16 : decode b_W_join 16 = .ok (.ireturn, 1) := by decide +kernel
theorem d_W_join_17 : decode b_W_join 17 = .ok (.iconst 0, 1) := by decide +kernel
theorem d_W_join_18 : decode b_W_join 18 = .ok (.ireturn, 1) := by decide +kernel
abbrev rm_W_join : Room := { frames := 10, cells := 31, slots := 1745, locals := 226 }
theorem ce_W_join : gCe y_W_join (.codeWith y_W_join b_W_join 5 (some .int) [(0, 10, 13, 13)]) 5 4 true := gCe.codeWith wd_624 wd_48 wd_623 (by decide) (by decide +kernel)
def f_W_join (g0 : gG) (a0 : Nat) (p1 : Int32) (p2 : Int32) (a3 : Nat) (w : gW) : gX Int32 := (gck w a0 0).bind fun _ => gtry (f_B_join g0 a0 p1 p2 w) (fun E w => if E = "java/lang/IndexOutOfBoundsException" then some (.inr 1, w) else none) fun v5 w => (gsJ w a3 0 (v5.toInt64)).bind fun w => some (.inr 0, w)
set_option maxHeartbeats 4000000 in
set_option maxRecDepth 100000 in
theorem m_W_join (l : Launch) (hst : l.stackTraces = false) (D : gD) (g0 : gG) (a0 : Nat) (p1 : Int32) (p2 : Int32) (a3 : Nat) (w : gW) (r : (String ⊕ Int32) × gW) (h : f_W_join g0 a0 p1 p2 a3 w = some r) : gMet l y_W_join (.codeWith y_W_join b_W_join 5 (some .int) [(0, 10, 13, 13)]) rm_W_join D g0 [.ref a0, .int p1, .int p2, .ref a3] w (goI r) := by
  refine gw_ofW (by decide +kernel) (Nat.le_of_ble_eq_true rfl) ?_
  intro p e s m below meth c ls args A Q hx hb hml hown htab hT hK hZ hA hret hI hl
  obtain ⟨H, hH⟩ : ∃ H, H = s.heap := ⟨_, rfl⟩
  rw [← hH] at hI ⊢
  obtain ⟨locs, hlocs⟩ : ∃ z : List Loc, z = [] := ⟨_, rfl⟩
  rw [← hlocs] at hI ⊢
  have hl : lv_has ls 5 [(0, .ref a0), (1, .int p1), (2, .int p2), (3, .ref a3)] := hl
  unfold f_W_join at h
  refine lv_aload_n hx hb d_W_join_0 rfl (lv_at hl 3 rfl) ?_
  refine lv_iconst (v := 0) hx hb d_W_join_1 (by decide) ?_
  refine lv_aload_n hx hb d_W_join_2 rfl (lv_at hl 0 rfl) ?_
  refine lv_iload_n hx hb d_W_join_3 rfl (lv_at hl 1 rfl) ?_
  refine lv_iload_n hx hb d_W_join_4 rfl (lv_at hl 2 rfl) ?_
  obtain ⟨q3, e4, h⟩ := gb h
  obtain ⟨u1, e2⟩ := gsomeT h
  refine gw_tryI e2 h (gw_runV (As := [.int p1, .int p2]) (rest := [.int 0, .ref a3]) hx hb hml hown hT hK hZ hA hI (ci := 0) rfl e4 (m_B_join l hst D g0 a0 p1 p2 w u1 e2) ce_B_join wd_625 wd_627 ⟨by decide, by decide⟩ rfl rfl hl.1 rfl (lv_room (Nat.le_of_ble_eq_true rfl)) d_W_join_5 ⟨(show 0 + 31 ≤ 31 by omega), (show 0 + 1745 ≤ 1745 by omega)⟩) hI hA (fun E w H locs q ce h hI hq hv hE => ?_) (fun v5 w H locs h hI => ?_)
  · skip
    rcases gcs h with ⟨rfl, h⟩ | ⟨-, h⟩
    · refine gw_catch1 hown hT htab wd_430 (by decide) (by decide) hq hv hE ?_
      refine lv_astore (lv' := [(4, .ref q), (0, .ref a0), (1, .int p1), (2, .int p2), (3, .ref a3)]) hx hb d_W_join_13 hl (by decide) rfl (fun ls hl => ?_)
      refine lv_iconst (v := 1) hx hb d_W_join_15 (by decide) ?_
      exact W.widen (show 31 ≤ 31 by omega) (show 1745 ≤ 1745 by omega) (hret _ _ (Option.some.inj h).symm _ _ _ _ d_W_join_16 hI)
    exact absurd h (by simp)
  refine W.widen (k := 31) (n := 1745) (show 0 + 31 ≤ 31 by omega) (show 0 + 1745 ≤ 1745 by omega) ?_
  refine lv_i2l (v := v5.toInt64) hx hb d_W_join_8 rfl ?_
  obtain ⟨w, e6, h⟩ := gb h
  refine gw_astJ hx hb hK hI e6 d_W_join_9 (fun H locs hI => ?_)
  refine lv_goto (tgt := 17) hx hb d_W_join_10 (by decide) ?_
  refine lv_iconst (v := 0) hx hb d_W_join_17 (by decide) ?_
  exact W.widen (show 31 ≤ 31 by omega) (show 1745 ≤ 1745 by omega) (hret _ _ (Option.some.inj h).symm _ _ _ _ d_W_join_18 hI)
