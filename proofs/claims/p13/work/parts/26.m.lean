abbrev b_W_prism : ByteArray := method_6_code
def y_W_prism : MethodName := ⟨"BodySolidsLaw", "prism", "(LBodySolids;IJJ[J)I"⟩
theorem d_W_prism_0 : decode b_W_prism 0 = .ok (.aload 6, 2) := by decide +kernel
theorem d_W_prism_2 : decode b_W_prism 2 = .ok (.iconst 0, 1) := by decide +kernel
theorem d_W_prism_3 : decode b_W_prism 3 = .ok (.aload_n 0, 1) := by decide +kernel
theorem d_W_prism_4 : decode b_W_prism 4 = .ok (.iload_n 1, 1) := by decide +kernel
theorem d_W_prism_5 : decode b_W_prism 5 = .ok (.lload_n 2, 1) := by decide +kernel
theorem d_W_prism_6 : decode b_W_prism 6 = .ok (.lload 4, 2) := by decide +kernel
theorem d_W_prism_8 : decode b_W_prism 8 = .ok (.invokevirtual 25, 3) := by decide +kernel
theorem d_W_prism_11 : decode b_W_prism 11 = .ok (.ifCond .eq 7, 3) := by decide +kernel
theorem d_W_prism_14 : decode b_W_prism 14 = .ok (.lconst 1, 1) := by decide +kernel
theorem d_W_prism_15 : decode b_W_prism 15 = .ok (.goto 4, 3) := by decide +kernel
theorem d_W_prism_18 : decode b_W_prism 18 = .ok (.lconst 0, 1) := by decide +kernel
theorem d_W_prism_19 : decode b_W_prism 19 = .ok (.lastore, 1) := by decide +kernel
theorem d_W_prism_20 : decode b_W_prism 20 = .ok (.goto 11, 3) := by decide +kernel
theorem d_W_prism_23 : decode b_W_prism 23 = .ok (.astore 7, 2) := by decide +kernel
theorem d_W_prism_25 : decode b_W_prism 25 = .ok (.iconst 1, 1) := by decide +kernel
theorem d_W_prism_26 : decode b_W_prism 26 = .ok (.ireturn, 1) := by decide +kernel
theorem d_W_prism_27 : decode b_W_prism 27 = .ok (.astore 7, 2) := by decide +kernel
theorem d_W_prism_29 : decode b_W_prism 29 = .ok (.iconst 2, 1) := by decide +kernel
theorem d_W_prism_30 : decode b_W_prism 30 = .ok (.ireturn, 1) := by decide +kernel
theorem d_W_prism_31 : decode b_W_prism 31 = .ok (.iconst 0, 1) := by decide +kernel
theorem d_W_prism_32 : decode b_W_prism 32 = .ok (.ireturn, 1) := by decide +kernel
abbrev rm_W_prism : Room := { frames := 11, cells := 8, slots := 116, locals := 230 }
theorem ce_W_prism : gCe y_W_prism (.codeWith y_W_prism b_W_prism 8 (some .int) [(0, 20, 23, 13), (0, 20, 27, 15)]) 8 5 true := gCe.codeWith wd_586 wd_48 wd_585 (by decide) (by decide +kernel)
def f_W_prism (g0 : gG) (a0 : Nat) (p1 : Int32) (p2 : Int64) (p3 : Int64) (a4 : Nat) (w : gW) : gX Int32 := (gck w a0 0).bind fun _ => gtry (f_B_prism g0 a0 p1 p2 p3 w) (fun E w => if E = "java/lang/IndexOutOfBoundsException" then some (.inr 1, w) else if E = "java/lang/IllegalArgumentException" then some (.inr 2, w) else none) fun v5 w => gjoin (fun K19 => if v5 = 0 then (K19 0 w) else (K19 1 w)) (fun (y6 : Int64) (w : gW) => (gsJ w a4 0 y6).bind fun w => some (.inr 0, w))
set_option maxHeartbeats 4000000 in
set_option maxRecDepth 100000 in
theorem m_W_prism (l : Launch) (hst : l.stackTraces = false) (D : gD) (g0 : gG) (a0 : Nat) (p1 : Int32) (p2 : Int64) (p3 : Int64) (a4 : Nat) (w : gW) (r : (String ⊕ Int32) × gW) (h : f_W_prism g0 a0 p1 p2 p3 a4 w = some r) : gMet l y_W_prism (.codeWith y_W_prism b_W_prism 8 (some .int) [(0, 20, 23, 13), (0, 20, 27, 15)]) rm_W_prism D g0 [.ref a0, .int p1, .long p2, .long p3, .ref a4] w (goI r) := by
  refine gw_ofW (by decide +kernel) (Nat.le_of_ble_eq_true rfl) ?_
  intro p e s m below meth c ls args A Q hx hb hml hown htab hT hK hZ hA hret hI hl
  obtain ⟨H, hH⟩ : ∃ H, H = s.heap := ⟨_, rfl⟩
  rw [← hH] at hI ⊢
  obtain ⟨locs, hlocs⟩ : ∃ z : List Loc, z = [] := ⟨_, rfl⟩
  rw [← hlocs] at hI ⊢
  have hl : lv_has ls 8 [(0, .ref a0), (1, .int p1), (2, .long p2), (4, .long p3), (6, .ref a4)] := hl
  unfold f_W_prism at h
  refine lv_aload hx hb d_W_prism_0 (lv_at hl 4 rfl) ?_
  refine lv_iconst (v := 0) hx hb d_W_prism_2 (by decide) ?_
  refine lv_aload_n hx hb d_W_prism_3 rfl (lv_at hl 0 rfl) ?_
  refine lv_iload_n hx hb d_W_prism_4 rfl (lv_at hl 1 rfl) ?_
  refine lv_lload_n hx hb d_W_prism_5 rfl (lv_at hl 2 rfl) ?_
  refine lv_lload hx hb d_W_prism_6 (lv_at hl 3 rfl) ?_
  obtain ⟨q3, e4, h⟩ := gb h
  obtain ⟨u1, e2⟩ := gsomeT h
  refine gw_tryI e2 h (gw_runV (As := [.int p1, .long p2, .long p3]) (rest := [.int 0, .ref a4]) hx hb hml hown hT hK hZ hA hI (ci := 0) rfl e4 (m_B_prism l hst D g0 a0 p1 p2 p3 w u1 e2) ce_B_prism wd_587 wd_589 ⟨by decide, by decide⟩ rfl rfl hl.1 rfl (lv_room (Nat.le_of_ble_eq_true rfl)) d_W_prism_8 ⟨(show 0 + 8 ≤ 8 by omega), (show 0 + 116 ≤ 116 by omega)⟩) hI hA (fun E w H locs q ce h hI hq hv hE => ?_) (fun v5 w H locs h hI => ?_)
  · skip
    rcases gcs h with ⟨rfl, h⟩ | ⟨-, h⟩
    · refine gw_catch1 hown hT htab wd_430 (by decide) (by decide) hq hv hE ?_
      refine lv_astore (lv' := [(7, .ref q), (0, .ref a0), (1, .int p1), (2, .long p2), (4, .long p3), (6, .ref a4)]) hx hb d_W_prism_23 hl (by decide) rfl (fun ls hl => ?_)
      refine lv_iconst (v := 1) hx hb d_W_prism_25 (by decide) ?_
      exact W.widen (show 8 ≤ 8 by omega) (show 116 ≤ 116 by omega) (hret _ _ (Option.some.inj h).symm _ _ _ _ d_W_prism_26 hI)
    rcases gcs h with ⟨rfl, h⟩ | ⟨-, h⟩
    · refine gw_catch2 hown hT hZ htab wd_430 (by decide) (by decide) wd_431 (by decide) (by decide) (by decide) hq hv hE ?_
      refine lv_astore (lv' := [(7, .ref q), (0, .ref a0), (1, .int p1), (2, .long p2), (4, .long p3), (6, .ref a4)]) hx hb d_W_prism_27 hl (by decide) rfl (fun ls hl => ?_)
      refine lv_iconst (v := 2) hx hb d_W_prism_29 (by decide) ?_
      exact W.widen (show 8 ≤ 8 by omega) (show 116 ≤ 116 by omega) (hret _ _ (Option.some.inj h).symm _ _ _ _ d_W_prism_30 hI)
    exact absurd h (by simp)
  refine W.widen (k := 8) (n := 116) (show 0 + 8 ≤ 8 by omega) (show 0 + 116 ≤ 116 by omega) ?_
  obtain ⟨K19, eK19, h⟩ := gj h
  have hK19 : ∀ (y6 : Int64) (w : gW) (H : Heap) (locs : List Loc) (ls : Array Slot), K19 y6 w = some r → gI D s A w H locs → lv_has ls 8 [] → W p l e rm_W_prism s m args below meth c H locs 8 116 Q (F0 m 19 ls [.long y6, .int 0, .ref a4]) := by
    intro y6 w H locs ls h hI hl
    have h := gk2 eK19 h
    obtain ⟨w, e7, h⟩ := gb h
    refine gw_astJ hx hb hK hI e7 d_W_prism_19 (fun H locs hI => ?_)
    refine lv_goto (tgt := 31) hx hb d_W_prism_20 (by decide) ?_
    refine lv_iconst (v := 0) hx hb d_W_prism_31 (by decide) ?_
    exact W.widen (show 8 ≤ 8 by omega) (show 116 ≤ 116 by omega) (hret _ _ (Option.some.inj h).symm _ _ _ _ d_W_prism_32 hI)
  refine lv_if_eq (tgt := 18) hx hb d_W_prism_11 (by decide) (fun c8 => ?_) (fun c8 => ?_)
  · skip
    have h := git c8 h
    refine lv_lconst (v := 0) hx hb d_W_prism_18 (by decide) ?_
    exact hK19 _ w H locs ls h hI (lv_sub hl [] rfl)
  · skip
    have h := gie c8 h
    refine lv_lconst (v := 1) hx hb d_W_prism_14 (by decide) ?_
    refine lv_goto (tgt := 19) hx hb d_W_prism_15 (by decide) ?_
    exact hK19 _ w H locs ls h hI (lv_sub hl [] rfl)
