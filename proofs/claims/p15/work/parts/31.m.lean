abbrev b_M_isSpot : ByteArray := prog_9_method_22_code
def y_M_isSpot : MethodName := ⟨"BodySolidsModel", "isSpot", "(JJII)Z"⟩
theorem d_M_isSpot_0 : decode b_M_isSpot 0 = .ok (.lload_n 0, 1) := by decide +kernel
theorem d_M_isSpot_1 : decode b_M_isSpot 1 = .ok (.ldc2_w 134, 3) := by decide +kernel
theorem d_M_isSpot_4 : decode b_M_isSpot 4 = .ok (.ldc2_w 136, 3) := by decide +kernel
theorem d_M_isSpot_7 : decode b_M_isSpot 7 = .ok (.invokestatic 88, 3) := by decide +kernel
theorem d_M_isSpot_10 : decode b_M_isSpot 10 = .ok (.ifCond .eq 42, 3) := by decide +kernel
theorem d_M_isSpot_13 : decode b_M_isSpot 13 = .ok (.lload_n 2, 1) := by decide +kernel
theorem d_M_isSpot_14 : decode b_M_isSpot 14 = .ok (.ldc2_w 134, 3) := by decide +kernel
theorem d_M_isSpot_17 : decode b_M_isSpot 17 = .ok (.ldc2_w 136, 3) := by decide +kernel
theorem d_M_isSpot_20 : decode b_M_isSpot 20 = .ok (.invokestatic 88, 3) := by decide +kernel
theorem d_M_isSpot_23 : decode b_M_isSpot 23 = .ok (.ifCond .eq 29, 3) := by decide +kernel
theorem d_M_isSpot_26 : decode b_M_isSpot 26 = .ok (.iload 4, 2) := by decide +kernel
theorem d_M_isSpot_28 : decode b_M_isSpot 28 = .ok (.ifCond .lt 24, 3) := by decide +kernel
theorem d_M_isSpot_31 : decode b_M_isSpot 31 = .ok (.iload 4, 2) := by decide +kernel
theorem d_M_isSpot_33 : decode b_M_isSpot 33 = .ok (.iconst 4, 1) := by decide +kernel
theorem d_M_isSpot_34 : decode b_M_isSpot 34 = .ok (.if_icmp .ge 18, 3) := by decide +kernel
theorem d_M_isSpot_37 : decode b_M_isSpot 37 = .ok (.iload 5, 2) := by decide +kernel
theorem d_M_isSpot_39 : decode b_M_isSpot 39 = .ok (.ifCond .eq 9, 3) := by decide +kernel
theorem d_M_isSpot_42 : decode b_M_isSpot 42 = .ok (.iload 5, 2) := by decide +kernel
theorem d_M_isSpot_44 : decode b_M_isSpot 44 = .ok (.iconst 1, 1) := by decide +kernel
theorem d_M_isSpot_45 : decode b_M_isSpot 45 = .ok (.if_icmp .ne 7, 3) := by decide +kernel
theorem d_M_isSpot_48 : decode b_M_isSpot 48 = .ok (.iconst 1, 1) := by decide +kernel
theorem d_M_isSpot_49 : decode b_M_isSpot 49 = .ok (.goto 4, 3) := by decide +kernel
theorem d_M_isSpot_52 : decode b_M_isSpot 52 = .ok (.iconst 0, 1) := by decide +kernel
theorem d_M_isSpot_53 : decode b_M_isSpot 53 = .ok (.ireturn, 1) := by decide +kernel
abbrev rm_M_isSpot : Room := { frames := 1, cells := 0, slots := 0, locals := 25 }
theorem ce_M_isSpot : gCe y_M_isSpot (.code y_M_isSpot b_M_isSpot 6 (some .boolean)) 6 4 true := gCe.code wd_942 wd_57 wd_941 (by decide) (by decide +kernel)
def f_M_isSpot (g0 : gG) (p0 : Int64) (p1 : Int64) (p2 : Int32) (p3 : Int32) (w : gW) : gX Int32 := gbind (f_M_within g0 p0 (-10000) 10000 w) fun v3 w => gjoin (fun K53 => gjoin (fun K52 => if v3 = 0 then (K52 w) else (gbind (f_M_within g0 p1 (-10000) 10000 w) fun v9 w => if v9 = 0 then (K52 w) else (if p2 < 0 then (K52 w) else (if 4 ≤ p2 then (K52 w) else (gjoin (fun K48 => if p3 = 0 then (K48 w) else (if p3 = 1 then (K48 w) else (K52 w))) (fun (w : gW) => K53 1 w)))))) (fun (w : gW) => K53 0 w)) (fun (y4 : Int32) (w : gW) => gguard (y4 = 0 ∨ y4 = 1) (some (.inr y4, w)))
set_option maxHeartbeats 4000000 in
set_option maxRecDepth 100000 in
theorem m_M_isSpot (l : Launch) (hst : l.stackTraces = false) (D : gD) (g0 : gG) (p0 : Int64) (p1 : Int64) (p2 : Int32) (p3 : Int32) (w : gW) (r : (String ⊕ Int32) × gW) (h : f_M_isSpot g0 p0 p1 p2 p3 w = some r) : gMet l y_M_isSpot (.code y_M_isSpot b_M_isSpot 6 (some .boolean)) rm_M_isSpot D g0 [.long p0, .long p1, .int p2, .int p3] w (goI r) := by
  refine gw_ofZ (by decide +kernel) (Nat.le_of_ble_eq_true rfl) ?_
  intro p e s m below meth c ls args A Q hx hb hml hown hlocks hin hnt hT hK hZ hA hret hexc hthr hI hl
  obtain ⟨H, hH⟩ : ∃ H, H = s.heap := ⟨_, rfl⟩
  rw [← hH] at hI ⊢
  obtain ⟨locs, hlocs⟩ : ∃ z : List Loc, z = [] := ⟨_, rfl⟩
  rw [← hlocs] at hI ⊢
  have hl : lv_has ls 6 [(0, .long p0), (2, .long p1), (4, .int p2), (5, .int p3)] := hl
  unfold f_M_isSpot at h
  refine lv_lload_n hx hb d_M_isSpot_0 rfl (lv_at hl 0 rfl) ?_
  refine lv_ldc2 (v := (-10000)) hx hb hown (hT _ wd_926 args) d_M_isSpot_1 ?_
  refine lv_ldc2 (v := 10000) hx hb hown (hT _ wd_927 args) d_M_isSpot_4 ?_
  obtain ⟨u1, e2⟩ := gsome h
  refine gw_callI e2 h (gw_runS (As := [.long p0, .long (-10000), .long 10000]) (rest := []) hx hb hml hown hT hK hZ hA hI (m_M_within l hst D g0 p0 (-10000) 10000 w u1 e2) ce_M_within wd_881 ⟨by decide, by decide⟩ rfl rfl hl.1 rfl (lv_room (Nat.le_of_ble_eq_true rfl)) d_M_isSpot_7 ⟨(show 0 + 0 ≤ 0 by omega), (show 0 + 0 ≤ 0 by omega)⟩) hI hA hexc (show 0 + 0 ≤ 0 by omega) (show 0 + 0 ≤ 0 by omega) (fun v3 w H locs h hI => ?_)
  obtain ⟨K53, eK53, h⟩ := gj h
  have hK53 : ∀ (y4 : Int32) (w : gW) (H : Heap) (locs : List Loc) (ls : Array Slot), K53 y4 w = some r → gI D s A w H locs → lv_has ls 6 [] → W p l e rm_M_isSpot s m args below meth c H locs 0 0 Q (F0 m 53 ls [.int y4]) := by
    intro y4 w H locs ls h hI hl
    have h := gk2 eK53 h
    obtain ⟨g5, h⟩ := gif h
    exact W.widen (show 0 ≤ 0 by omega) (show 0 ≤ 0 by omega) (hret g5 0 _ (Option.some.inj h).symm _ _ _ _ d_M_isSpot_53 hI)
  obtain ⟨K52, eK52, h⟩ := gj h
  have hK52 : ∀ (w : gW) (H : Heap) (locs : List Loc) (ls : Array Slot), K52 w = some r → gI D s A w H locs → lv_has ls 6 [] → W p l e rm_M_isSpot s m args below meth c H locs 0 0 Q (F0 m 52 ls []) := by
    intro w H locs ls h hI hl
    have h := gk1 eK52 h
    refine lv_iconst (v := 0) hx hb d_M_isSpot_52 (by decide) ?_
    exact hK53 _ w H locs ls h hI (lv_sub hl [] rfl)
  refine lv_if_eq (tgt := 52) hx hb d_M_isSpot_10 (by decide) (fun c6 => ?_) (fun c6 => ?_)
  · skip
    have h := git c6 h
    exact hK52 w H locs ls h hI (lv_sub hl [] rfl)
  · skip
    have h := gie c6 h
    refine lv_lload_n hx hb d_M_isSpot_13 rfl (lv_at hl 1 rfl) ?_
    refine lv_ldc2 (v := (-10000)) hx hb hown (hT _ wd_926 args) d_M_isSpot_14 ?_
    refine lv_ldc2 (v := 10000) hx hb hown (hT _ wd_927 args) d_M_isSpot_17 ?_
    obtain ⟨u7, e8⟩ := gsome h
    refine gw_callI e8 h (gw_runS (As := [.long p1, .long (-10000), .long 10000]) (rest := []) hx hb hml hown hT hK hZ hA hI (m_M_within l hst D g0 p1 (-10000) 10000 w u7 e8) ce_M_within wd_881 ⟨by decide, by decide⟩ rfl rfl hl.1 rfl (lv_room (Nat.le_of_ble_eq_true rfl)) d_M_isSpot_20 ⟨(show 0 + 0 ≤ 0 by omega), (show 0 + 0 ≤ 0 by omega)⟩) hI hA hexc (show 0 + 0 ≤ 0 by omega) (show 0 + 0 ≤ 0 by omega) (fun v9 w H locs h hI => ?_)
    refine lv_if_eq (tgt := 52) hx hb d_M_isSpot_23 (by decide) (fun c10 => ?_) (fun c10 => ?_)
    · skip
      have h := git c10 h
      exact hK52 w H locs ls h hI (lv_sub hl [] rfl)
    · skip
      have h := gie c10 h
      refine lv_iload hx hb d_M_isSpot_26 (lv_at hl 2 rfl) ?_
      refine lv_if_lt (tgt := 52) hx hb d_M_isSpot_28 (by decide) (fun c11 => ?_) (fun c11 => ?_)
      · skip
        have h := git c11 h
        exact hK52 w H locs ls h hI (lv_sub hl [] rfl)
      · skip
        have h := gie c11 h
        refine lv_iload hx hb d_M_isSpot_31 (lv_at hl 2 rfl) ?_
        refine lv_iconst (v := 4) hx hb d_M_isSpot_33 (by decide) ?_
        refine lv_icmp_ge (tgt := 52) hx hb d_M_isSpot_34 (by decide) (fun c12 => ?_) (fun c12 => ?_)
        · skip
          have h := git c12 h
          exact hK52 w H locs ls h hI (lv_sub hl [] rfl)
        · skip
          have h := gie c12 h
          refine lv_iload hx hb d_M_isSpot_37 (lv_at hl 3 rfl) ?_
          obtain ⟨K48, eK48, h⟩ := gj h
          have hK48 : ∀ (w : gW) (H : Heap) (locs : List Loc) (ls : Array Slot), K48 w = some r → gI D s A w H locs → lv_has ls 6 [] → W p l e rm_M_isSpot s m args below meth c H locs 0 0 Q (F0 m 48 ls []) := by
            intro w H locs ls h hI hl
            have h := gk1 eK48 h
            refine lv_iconst (v := 1) hx hb d_M_isSpot_48 (by decide) ?_
            refine lv_goto (tgt := 53) hx hb d_M_isSpot_49 (by decide) ?_
            exact hK53 _ w H locs ls h hI (lv_sub hl [] rfl)
          refine lv_if_eq (tgt := 48) hx hb d_M_isSpot_39 (by decide) (fun c13 => ?_) (fun c13 => ?_)
          · skip
            have h := git c13 h
            exact hK48 w H locs ls h hI (lv_sub hl [] rfl)
          · skip
            have h := gie c13 h
            refine lv_iload hx hb d_M_isSpot_42 (lv_at hl 3 rfl) ?_
            refine lv_iconst (v := 1) hx hb d_M_isSpot_44 (by decide) ?_
            refine lv_icmp_ne (tgt := 52) hx hb d_M_isSpot_45 (by decide) (fun c14 => ?_) (fun c14 => ?_)
            · skip
              have h := gie c14 h
              exact hK52 w H locs ls h hI (lv_sub hl [] rfl)
            · skip
              have h := git c14 h
              exact hK48 w H locs ls h hI (lv_sub hl [] rfl)

abbrev b_M_set : ByteArray := prog_9_method_23_code
def y_M_set : MethodName := ⟨"BodySolidsModel", "set", "(IJJII)V"⟩
theorem d_M_set_0 : decode b_M_set 0 = .ok (.aload_n 0, 1) := by decide +kernel
theorem d_M_set_1 : decode b_M_set 1 = .ok (.getfield 38, 3) := by decide +kernel
theorem d_M_set_4 : decode b_M_set 4 = .ok (.iload_n 1, 1) := by decide +kernel
theorem d_M_set_5 : decode b_M_set 5 = .ok (.lload_n 2, 1) := by decide +kernel
theorem d_M_set_6 : decode b_M_set 6 = .ok (.lastore, 1) := by decide +kernel
theorem d_M_set_7 : decode b_M_set 7 = .ok (.aload_n 0, 1) := by decide +kernel
theorem d_M_set_8 : decode b_M_set 8 = .ok (.getfield 41, 3) := by decide +kernel
theorem d_M_set_11 : decode b_M_set 11 = .ok (.iload_n 1, 1) := by decide +kernel
theorem d_M_set_12 : decode b_M_set 12 = .ok (.lload 4, 2) := by decide +kernel
theorem d_M_set_14 : decode b_M_set 14 = .ok (.lastore, 1) := by decide +kernel
theorem d_M_set_15 : decode b_M_set 15 = .ok (.aload_n 0, 1) := by decide +kernel
theorem d_M_set_16 : decode b_M_set 16 = .ok (.getfield 44, 3) := by decide +kernel
theorem d_M_set_19 : decode b_M_set 19 = .ok (.iload_n 1, 1) := by decide +kernel
theorem d_M_set_20 : decode b_M_set 20 = .ok (.iload 6, 2) := by decide +kernel
theorem d_M_set_22 : decode b_M_set 22 = .ok (.iastore, 1) := by decide +kernel
theorem d_M_set_23 : decode b_M_set 23 = .ok (.aload_n 0, 1) := by decide +kernel
theorem d_M_set_24 : decode b_M_set 24 = .ok (.getfield 47, 3) := by decide +kernel
theorem d_M_set_27 : decode b_M_set 27 = .ok (.iload_n 1, 1) := by decide +kernel
theorem d_M_set_28 : decode b_M_set 28 = .ok (.iload 7, 2) := by decide +kernel
theorem d_M_set_30 : decode b_M_set 30 = .ok (.iastore, 1) := by decide +kernel
theorem d_M_set_31 : decode b_M_set 31 = .ok (.return_, 1) := by decide +kernel
abbrev rm_M_set : Room := { frames := 0, cells := 0, slots := 0, locals := 0 }
theorem ce_M_set : gCe y_M_set (.code y_M_set b_M_set 8 none) 8 5 false := gCe.code wd_946 wd_57 wd_945 (by decide) (by decide +kernel)
def f_M_set (g0 : gG) (a0 : Nat) (p1 : Int32) (p2 : Int64) (p3 : Int64) (p4 : Int32) (p5 : Int32) (w : gW) : gX Unit := (gfA w a0 7 14).bind fun v1 => (gsJ w v1 p1 p2).bind fun w => (gfA w a0 7 15).bind fun v4 => (gsJ w v4 p1 p3).bind fun w => (gfA w a0 7 16).bind fun v7 => (gsI w v7 p1 p4).bind fun w => (gfA w a0 7 17).bind fun v10 => (gsI w v10 p1 p5).bind fun w => some (.inr (), w)
set_option maxHeartbeats 4000000 in
set_option maxRecDepth 100000 in
theorem m_M_set (l : Launch) (hst : l.stackTraces = false) (D : gD) (g0 : gG) (a0 : Nat) (p1 : Int32) (p2 : Int64) (p3 : Int64) (p4 : Int32) (p5 : Int32) (w : gW) (r : (String ⊕ Unit) × gW) (h : f_M_set g0 a0 p1 p2 p3 p4 p5 w = some r) : gMet l y_M_set (.code y_M_set b_M_set 8 none) rm_M_set D g0 [.ref a0, .int p1, .long p2, .long p3, .int p4, .int p5] w (goV r) := by
  refine gw_ofV (by decide +kernel) (Nat.le_of_ble_eq_true rfl) ?_
  intro p e s m below meth c ls args A Q hx hb hml hown hlocks hin hnt hT hK hZ hA hret hexc hthr hI hl
  obtain ⟨H, hH⟩ : ∃ H, H = s.heap := ⟨_, rfl⟩
  rw [← hH] at hI ⊢
  obtain ⟨locs, hlocs⟩ : ∃ z : List Loc, z = [] := ⟨_, rfl⟩
  rw [← hlocs] at hI ⊢
  have hl : lv_has ls 8 [(0, .ref a0), (1, .int p1), (2, .long p2), (4, .long p3), (6, .int p4), (7, .int p5)] := hl
  unfold f_M_set at h
  refine lv_aload_n hx hb d_M_set_0 rfl (lv_at hl 0 rfl) ?_
  obtain ⟨v1, e2, h⟩ := gb h
  refine gw_getA hx hb hT hown hK hI (ci := 7) rfl i_7 14 (by decide) wd_800 (fun _ h9 => h9) e2 d_M_set_1 ?_
  refine lv_iload_n hx hb d_M_set_4 rfl (lv_at hl 1 rfl) ?_
  refine lv_lload_n hx hb d_M_set_5 rfl (lv_at hl 2 rfl) ?_
  obtain ⟨w, e3, h⟩ := gb h
  refine gw_astJ hx hb hK hI e3 d_M_set_6 (fun H locs hI => ?_)
  refine lv_aload_n hx hb d_M_set_7 rfl (lv_at hl 0 rfl) ?_
  obtain ⟨v4, e5, h⟩ := gb h
  refine gw_getA hx hb hT hown hK hI (ci := 7) rfl i_7 15 (by decide) wd_801 (fun _ h9 => h9) e5 d_M_set_8 ?_
  refine lv_iload_n hx hb d_M_set_11 rfl (lv_at hl 1 rfl) ?_
  refine lv_lload hx hb d_M_set_12 (lv_at hl 3 rfl) ?_
  obtain ⟨w, e6, h⟩ := gb h
  refine gw_astJ hx hb hK hI e6 d_M_set_14 (fun H locs hI => ?_)
  refine lv_aload_n hx hb d_M_set_15 rfl (lv_at hl 0 rfl) ?_
  obtain ⟨v7, e8, h⟩ := gb h
  refine gw_getA hx hb hT hown hK hI (ci := 7) rfl i_7 16 (by decide) wd_802 (fun _ h9 => h9) e8 d_M_set_16 ?_
  refine lv_iload_n hx hb d_M_set_19 rfl (lv_at hl 1 rfl) ?_
  refine lv_iload hx hb d_M_set_20 (lv_at hl 4 rfl) ?_
  obtain ⟨w, e9, h⟩ := gb h
  refine gw_astI hx hb hK hI e9 d_M_set_22 (fun H locs hI => ?_)
  refine lv_aload_n hx hb d_M_set_23 rfl (lv_at hl 0 rfl) ?_
  obtain ⟨v10, e11, h⟩ := gb h
  refine gw_getA hx hb hT hown hK hI (ci := 7) rfl i_7 17 (by decide) wd_803 (fun _ h9 => h9) e11 d_M_set_24 ?_
  refine lv_iload_n hx hb d_M_set_27 rfl (lv_at hl 1 rfl) ?_
  refine lv_iload hx hb d_M_set_28 (lv_at hl 5 rfl) ?_
  obtain ⟨w, e12, h⟩ := gb h
  refine gw_astI hx hb hK hI e12 d_M_set_30 (fun H locs hI => ?_)
  exact W.widen (show 0 ≤ 0 by omega) (show 0 ≤ 0 by omega) (hret _ _ (Option.some.inj h).symm _ _ _ _ d_M_set_31 hI)

abbrev b_M_place : ByteArray := prog_9_method_24_code
def y_M_place : MethodName := ⟨"BodySolidsModel", "place", "(IJJII)I"⟩
theorem d_M_place_0 : decode b_M_place 0 = .ok (.aload_n 0, 1) := by decide +kernel
theorem d_M_place_1 : decode b_M_place 1 = .ok (.aload_n 0, 1) := by decide +kernel
theorem d_M_place_2 : decode b_M_place 2 = .ok (.iload_n 1, 1) := by decide +kernel
theorem d_M_place_3 : decode b_M_place 3 = .ok (.invokevirtual 109, 3) := by decide +kernel
theorem d_M_place_6 : decode b_M_place 6 = .ok (.ifCond .ne 7, 3) := by decide +kernel
theorem d_M_place_9 : decode b_M_place 9 = .ok (.iconst 1, 1) := by decide +kernel
theorem d_M_place_10 : decode b_M_place 10 = .ok (.goto 21, 3) := by decide +kernel
theorem d_M_place_13 : decode b_M_place 13 = .ok (.lload_n 2, 1) := by decide +kernel
theorem d_M_place_14 : decode b_M_place 14 = .ok (.lload 4, 2) := by decide +kernel
theorem d_M_place_16 : decode b_M_place 16 = .ok (.iload 6, 2) := by decide +kernel
theorem d_M_place_18 : decode b_M_place 18 = .ok (.iload 7, 2) := by decide +kernel
theorem d_M_place_20 : decode b_M_place 20 = .ok (.invokestatic 142, 3) := by decide +kernel
theorem d_M_place_23 : decode b_M_place 23 = .ok (.ifCond .eq 7, 3) := by decide +kernel
theorem d_M_place_26 : decode b_M_place 26 = .ok (.iconst 0, 1) := by decide +kernel
theorem d_M_place_27 : decode b_M_place 27 = .ok (.goto 4, 3) := by decide +kernel
theorem d_M_place_30 : decode b_M_place 30 = .ok (.iconst 2, 1) := by decide +kernel
theorem d_M_place_31 : decode b_M_place 31 = .ok (.putfield 80, 3) := by decide +kernel
theorem d_M_place_34 : decode b_M_place 34 = .ok (.aload_n 0, 1) := by decide +kernel
theorem d_M_place_35 : decode b_M_place 35 = .ok (.getfield 80, 3) := by decide +kernel
theorem d_M_place_38 : decode b_M_place 38 = .ok (.ifCond .eq 5, 3) := by decide +kernel
theorem d_M_place_41 : decode b_M_place 41 = .ok (.iconst 0, 1) := by decide +kernel
theorem d_M_place_42 : decode b_M_place 42 = .ok (.ireturn, 1) := by decide +kernel
theorem d_M_place_43 : decode b_M_place 43 = .ok (.aload_n 0, 1) := by decide +kernel
theorem d_M_place_44 : decode b_M_place 44 = .ok (.getfield 95, 3) := by decide +kernel
theorem d_M_place_47 : decode b_M_place 47 = .ok (.bipush 30, 2) := by decide +kernel
theorem d_M_place_49 : decode b_M_place 49 = .ok (.if_icmp .ne 5, 3) := by decide +kernel
theorem d_M_place_52 : decode b_M_place 52 = .ok (.iconst (-1), 1) := by decide +kernel
theorem d_M_place_53 : decode b_M_place 53 = .ok (.ireturn, 1) := by decide +kernel
theorem d_M_place_54 : decode b_M_place 54 = .ok (.aload_n 0, 1) := by decide +kernel
theorem d_M_place_55 : decode b_M_place 55 = .ok (.getfield 35, 3) := by decide +kernel
theorem d_M_place_58 : decode b_M_place 58 = .ok (.aload_n 0, 1) := by decide +kernel
theorem d_M_place_59 : decode b_M_place 59 = .ok (.getfield 95, 3) := by decide +kernel
theorem d_M_place_62 : decode b_M_place 62 = .ok (.iload_n 1, 1) := by decide +kernel
theorem d_M_place_63 : decode b_M_place 63 = .ok (.iastore, 1) := by decide +kernel
theorem d_M_place_64 : decode b_M_place 64 = .ok (.aload_n 0, 1) := by decide +kernel
theorem d_M_place_65 : decode b_M_place 65 = .ok (.aload_n 0, 1) := by decide +kernel
theorem d_M_place_66 : decode b_M_place 66 = .ok (.getfield 95, 3) := by decide +kernel
theorem d_M_place_69 : decode b_M_place 69 = .ok (.lload_n 2, 1) := by decide +kernel
theorem d_M_place_70 : decode b_M_place 70 = .ok (.lload 4, 2) := by decide +kernel
theorem d_M_place_72 : decode b_M_place 72 = .ok (.iload 6, 2) := by decide +kernel
theorem d_M_place_74 : decode b_M_place 74 = .ok (.iload 7, 2) := by decide +kernel
theorem d_M_place_76 : decode b_M_place 76 = .ok (.invokevirtual 146, 3) := by decide +kernel
theorem d_M_place_79 : decode b_M_place 79 = .ok (.aload_n 0, 1) := by decide +kernel
theorem d_M_place_80 : decode b_M_place 80 = .ok (.dup, 1) := by decide +kernel
theorem d_M_place_81 : decode b_M_place 81 = .ok (.getfield 95, 3) := by decide +kernel
theorem d_M_place_84 : decode b_M_place 84 = .ok (.iconst 1, 1) := by decide +kernel
theorem d_M_place_85 : decode b_M_place 85 = .ok (.iadd, 1) := by decide +kernel
theorem d_M_place_86 : decode b_M_place 86 = .ok (.putfield 95, 3) := by decide +kernel
theorem d_M_place_89 : decode b_M_place 89 = .ok (.aload_n 0, 1) := by decide +kernel
theorem d_M_place_90 : decode b_M_place 90 = .ok (.getfield 95, 3) := by decide +kernel
theorem d_M_place_93 : decode b_M_place 93 = .ok (.iconst 1, 1) := by decide +kernel
theorem d_M_place_94 : decode b_M_place 94 = .ok (.isub, 1) := by decide +kernel
theorem d_M_place_95 : decode b_M_place 95 = .ok (.ireturn, 1) := by decide +kernel
abbrev rm_M_place : Room := { frames := 2, cells := 0, slots := 0, locals := 50 }
theorem ce_M_place : gCe y_M_place (.code y_M_place b_M_place 8 (some .int)) 8 5 false := gCe.code wd_939 wd_57 wd_937 (by decide) (by decide +kernel)
def f_M_place (g0 : gG) (a0 : Nat) (p1 : Int32) (p2 : Int64) (p3 : Int64) (p4 : Int32) (p5 : Int32) (w : gW) : gX Int32 := (gck w a0 7).bind fun _ => gbind (f_M_isBody g0 a0 p1 w) fun v5 w => gjoin (fun K31 => if v5 = 0 then (K31 1 w) else (gbind (f_M_isSpot g0 p2 p3 p4 p5 w) fun v34 w => if v34 = 0 then (K31 2 w) else (K31 0 w))) (fun (y6 : Int32) (w : gW) => (gp w a0 7 0 (.int y6)).bind fun w => (gfI w a0 7 0).bind fun v8 => if v8 = 0 then ((gfI w a0 7 12).bind fun v11 => if v11 = 30 then (some (.inr (-1), w)) else ((gfA w a0 7 13).bind fun v14 => (gfI w a0 7 12).bind fun v16 => (gsI w v14 v16 p1).bind fun w => (gfI w a0 7 12).bind fun v19 => (gck w a0 7).bind fun _ => gbind (f_M_set g0 a0 v19 p2 p3 p4 p5 w) fun v25 w => (gfI w a0 7 12).bind fun v26 => (gp w a0 7 12 (.int (v26 + 1))).bind fun w => (gfI w a0 7 12).bind fun v29 => some (.inr (v29 - 1), w))) else (some (.inr 0, w)))
set_option maxHeartbeats 4000000 in
set_option maxRecDepth 100000 in
theorem m_M_place (l : Launch) (hst : l.stackTraces = false) (D : gD) (g0 : gG) (a0 : Nat) (p1 : Int32) (p2 : Int64) (p3 : Int64) (p4 : Int32) (p5 : Int32) (w : gW) (r : (String ⊕ Int32) × gW) (h : f_M_place g0 a0 p1 p2 p3 p4 p5 w = some r) : gMet l y_M_place (.code y_M_place b_M_place 8 (some .int)) rm_M_place D g0 [.ref a0, .int p1, .long p2, .long p3, .int p4, .int p5] w (goI r) := by
  refine gw_ofI (by decide +kernel) (Nat.le_of_ble_eq_true rfl) ?_
  intro p e s m below meth c ls args A Q hx hb hml hown hlocks hin hnt hT hK hZ hA hret hexc hthr hI hl
  obtain ⟨H, hH⟩ : ∃ H, H = s.heap := ⟨_, rfl⟩
  rw [← hH] at hI ⊢
  obtain ⟨locs, hlocs⟩ : ∃ z : List Loc, z = [] := ⟨_, rfl⟩
  rw [← hlocs] at hI ⊢
  have hl : lv_has ls 8 [(0, .ref a0), (1, .int p1), (2, .long p2), (4, .long p3), (6, .int p4), (7, .int p5)] := hl
  unfold f_M_place at h
  refine lv_aload_n hx hb d_M_place_0 rfl (lv_at hl 0 rfl) ?_
  refine lv_aload_n hx hb d_M_place_1 rfl (lv_at hl 0 rfl) ?_
  refine lv_iload_n hx hb d_M_place_2 rfl (lv_at hl 1 rfl) ?_
  obtain ⟨q3, e4, h⟩ := gb h
  obtain ⟨u1, e2⟩ := gsome h
  refine gw_callI e2 h (gw_runV (As := [.int p1]) (rest := [.ref a0]) hx hb hml hown hT hK hZ hA hI (ci := 7) rfl e4 (m_M_isBody l hst D g0 a0 p1 w u1 e2) ce_M_isBody wd_890 wd_17 ⟨by decide, by decide⟩ rfl rfl hl.1 rfl (lv_room (Nat.le_of_ble_eq_true rfl)) d_M_place_3 ⟨(show 0 + 0 ≤ 0 by omega), (show 0 + 0 ≤ 0 by omega)⟩) hI hA hexc (show 0 + 0 ≤ 0 by omega) (show 0 + 0 ≤ 0 by omega) (fun v5 w H locs h hI => ?_)
  obtain ⟨K31, eK31, h⟩ := gj h
  have hK31 : ∀ (y6 : Int32) (w : gW) (H : Heap) (locs : List Loc) (ls : Array Slot), K31 y6 w = some r → gI D s A w H locs → lv_has ls 8 [(0, .ref a0), (1, .int p1), (2, .long p2), (4, .long p3), (6, .int p4), (7, .int p5)] → W p l e rm_M_place s m args below meth c H locs 0 0 Q (F0 m 31 ls [.int y6, .ref a0]) := by
    intro y6 w H locs ls h hI hl
    have h := gk2 eK31 h
    obtain ⟨w, e7, h⟩ := gb h
    refine gw_put hx hb hT hown hK hI (ci := 7) rfl i_7 t_7 t_7_ok n_7 0 (by decide) wd_786 (fun _ h9 => h9) rfl (ty := .int) (by decide +kernel) rfl rfl e7 d_M_place_31 (fun H locs hI => ?_)
    refine lv_aload_n hx hb d_M_place_34 rfl (lv_at hl 0 rfl) ?_
    obtain ⟨v8, e9, h⟩ := gb h
    refine gw_getI hx hb hT hown hK hI (ci := 7) rfl i_7 0 (by decide) wd_786 (fun _ h9 => h9) e9 d_M_place_35 ?_
    refine lv_if_eq (tgt := 43) hx hb d_M_place_38 (by decide) (fun c10 => ?_) (fun c10 => ?_)
    · skip
      have h := git c10 h
      refine lv_aload_n hx hb d_M_place_43 rfl (lv_at hl 0 rfl) ?_
      obtain ⟨v11, e12, h⟩ := gb h
      refine gw_getI hx hb hT hown hK hI (ci := 7) rfl i_7 12 (by decide) wd_798 (fun _ h9 => h9) e12 d_M_place_44 ?_
      refine lv_bipush (v := 30) hx hb d_M_place_47 (by decide) ?_
      refine lv_icmp_ne (tgt := 54) hx hb d_M_place_49 (by decide) (fun c13 => ?_) (fun c13 => ?_)
      · skip
        have h := gie c13 h
        refine lv_aload_n hx hb d_M_place_54 rfl (lv_at hl 0 rfl) ?_
        obtain ⟨v14, e15, h⟩ := gb h
        refine gw_getA hx hb hT hown hK hI (ci := 7) rfl i_7 13 (by decide) wd_799 (fun _ h9 => h9) e15 d_M_place_55 ?_
        refine lv_aload_n hx hb d_M_place_58 rfl (lv_at hl 0 rfl) ?_
        obtain ⟨v16, e17, h⟩ := gb h
        refine gw_getI hx hb hT hown hK hI (ci := 7) rfl i_7 12 (by decide) wd_798 (fun _ h9 => h9) e17 d_M_place_59 ?_
        refine lv_iload_n hx hb d_M_place_62 rfl (lv_at hl 1 rfl) ?_
        obtain ⟨w, e18, h⟩ := gb h
        refine gw_astI hx hb hK hI e18 d_M_place_63 (fun H locs hI => ?_)
        refine lv_aload_n hx hb d_M_place_64 rfl (lv_at hl 0 rfl) ?_
        refine lv_aload_n hx hb d_M_place_65 rfl (lv_at hl 0 rfl) ?_
        obtain ⟨v19, e20, h⟩ := gb h
        refine gw_getI hx hb hT hown hK hI (ci := 7) rfl i_7 12 (by decide) wd_798 (fun _ h9 => h9) e20 d_M_place_66 ?_
        refine lv_lload_n hx hb d_M_place_69 rfl (lv_at hl 2 rfl) ?_
        refine lv_lload hx hb d_M_place_70 (lv_at hl 3 rfl) ?_
        refine lv_iload hx hb d_M_place_72 (lv_at hl 4 rfl) ?_
        refine lv_iload hx hb d_M_place_74 (lv_at hl 5 rfl) ?_
        obtain ⟨q23, e24, h⟩ := gb h
        obtain ⟨u21, e22⟩ := gsome h
        refine gw_callV e22 h (gw_runV (As := [.int v19, .long p2, .long p3, .int p4, .int p5]) (rest := []) hx hb hml hown hT hK hZ hA hI (ci := 7) rfl e24 (m_M_set l hst D g0 a0 v19 p2 p3 p4 p5 w u21 e22) ce_M_set wd_943 wd_22 ⟨by decide, by decide⟩ rfl rfl hl.1 rfl (lv_room (Nat.le_of_ble_eq_true rfl)) d_M_place_76 ⟨(show 0 + 0 ≤ 0 by omega), (show 0 + 0 ≤ 0 by omega)⟩) hI hA hexc (show 0 + 0 ≤ 0 by omega) (show 0 + 0 ≤ 0 by omega) (fun v25 w H locs h hI => ?_)
        refine lv_aload_n hx hb d_M_place_79 rfl (lv_at hl 0 rfl) ?_
        refine lv_dup hx hb d_M_place_80 rfl ?_
        obtain ⟨v26, e27, h⟩ := gb h
        refine gw_getI hx hb hT hown hK hI (ci := 7) rfl i_7 12 (by decide) wd_798 (fun _ h9 => h9) e27 d_M_place_81 ?_
        refine lv_iconst (v := 1) hx hb d_M_place_84 (by decide) ?_
        refine lv_iadd hx hb d_M_place_85 ?_
        obtain ⟨w, e28, h⟩ := gb h
        refine gw_put hx hb hT hown hK hI (ci := 7) rfl i_7 t_7 t_7_ok n_7 12 (by decide) wd_798 (fun _ h9 => h9) rfl (ty := .int) (by decide +kernel) rfl rfl e28 d_M_place_86 (fun H locs hI => ?_)
        refine lv_aload_n hx hb d_M_place_89 rfl (lv_at hl 0 rfl) ?_
        obtain ⟨v29, e30, h⟩ := gb h
        refine gw_getI hx hb hT hown hK hI (ci := 7) rfl i_7 12 (by decide) wd_798 (fun _ h9 => h9) e30 d_M_place_90 ?_
        refine lv_iconst (v := 1) hx hb d_M_place_93 (by decide) ?_
        refine lv_isub hx hb d_M_place_94 ?_
        exact W.widen (show 0 ≤ 0 by omega) (show 0 ≤ 0 by omega) (hret _ _ (Option.some.inj h).symm _ _ _ _ d_M_place_95 hI)
      · skip
        have h := git c13 h
        refine lv_iconst (v := -1) hx hb d_M_place_52 (by decide) ?_
        exact W.widen (show 0 ≤ 0 by omega) (show 0 ≤ 0 by omega) (hret _ _ (Option.some.inj h).symm _ _ _ _ d_M_place_53 hI)
    · skip
      have h := gie c10 h
      refine lv_iconst (v := 0) hx hb d_M_place_41 (by decide) ?_
      exact W.widen (show 0 ≤ 0 by omega) (show 0 ≤ 0 by omega) (hret _ _ (Option.some.inj h).symm _ _ _ _ d_M_place_42 hI)
  refine lv_if_ne (tgt := 13) hx hb d_M_place_6 (by decide) (fun c31 => ?_) (fun c31 => ?_)
  · skip
    have h := gie c31 h
    refine lv_lload_n hx hb d_M_place_13 rfl (lv_at hl 2 rfl) ?_
    refine lv_lload hx hb d_M_place_14 (lv_at hl 3 rfl) ?_
    refine lv_iload hx hb d_M_place_16 (lv_at hl 4 rfl) ?_
    refine lv_iload hx hb d_M_place_18 (lv_at hl 5 rfl) ?_
    obtain ⟨u32, e33⟩ := gsome h
    refine gw_callI e33 h (gw_runS (As := [.long p2, .long p3, .int p4, .int p5]) (rest := [.ref a0]) hx hb hml hown hT hK hZ hA hI (m_M_isSpot l hst D g0 p2 p3 p4 p5 w u32 e33) ce_M_isSpot wd_940 ⟨by decide, by decide⟩ rfl rfl hl.1 rfl (lv_room (Nat.le_of_ble_eq_true rfl)) d_M_place_20 ⟨(show 0 + 0 ≤ 0 by omega), (show 0 + 0 ≤ 0 by omega)⟩) hI hA hexc (show 0 + 0 ≤ 0 by omega) (show 0 + 0 ≤ 0 by omega) (fun v34 w H locs h hI => ?_)
    refine lv_if_eq (tgt := 30) hx hb d_M_place_23 (by decide) (fun c35 => ?_) (fun c35 => ?_)
    · skip
      have h := git c35 h
      refine lv_iconst (v := 2) hx hb d_M_place_30 (by decide) ?_
      exact hK31 _ w H locs ls h hI (lv_sub hl [0, 1, 2, 3, 4, 5] rfl)
    · skip
      have h := gie c35 h
      refine lv_iconst (v := 0) hx hb d_M_place_26 (by decide) ?_
      refine lv_goto (tgt := 31) hx hb d_M_place_27 (by decide) ?_
      exact hK31 _ w H locs ls h hI (lv_sub hl [0, 1, 2, 3, 4, 5] rfl)
  · skip
    have h := git c31 h
    refine lv_iconst (v := 1) hx hb d_M_place_9 (by decide) ?_
    refine lv_goto (tgt := 31) hx hb d_M_place_10 (by decide) ?_
    exact hK31 _ w H locs ls h hI (lv_sub hl [0, 1, 2, 3, 4, 5] rfl)

abbrev b_Ko_init : ByteArray := prog_3_method_1_code
def y_Ko_init : MethodName := ⟨"BodySolids$KeepOut", "<init>", "(LBodySolids$Solid;I)V"⟩
theorem d_Ko_init_0 : decode b_Ko_init 0 = .ok (.aload_n 0, 1) := by decide +kernel
theorem d_Ko_init_1 : decode b_Ko_init 1 = .ok (.invokespecial 1, 3) := by decide +kernel
theorem d_Ko_init_4 : decode b_Ko_init 4 = .ok (.aload_n 0, 1) := by decide +kernel
theorem d_Ko_init_5 : decode b_Ko_init 5 = .ok (.aload_n 1, 1) := by decide +kernel
theorem d_Ko_init_6 : decode b_Ko_init 6 = .ok (.putfield 7, 3) := by decide +kernel
theorem d_Ko_init_9 : decode b_Ko_init 9 = .ok (.aload_n 0, 1) := by decide +kernel
theorem d_Ko_init_10 : decode b_Ko_init 10 = .ok (.iload_n 2, 1) := by decide +kernel
theorem d_Ko_init_11 : decode b_Ko_init 11 = .ok (.putfield 13, 3) := by decide +kernel
theorem d_Ko_init_14 : decode b_Ko_init 14 = .ok (.return_, 1) := by decide +kernel
abbrev rm_Ko_init : Room := { frames := 1, cells := 0, slots := 0, locals := 22 }
theorem ce_Ko_init : gCe y_Ko_init (.code y_Ko_init b_Ko_init 3 none) 3 2 false := gCe.code wd_717 wd_70 wd_716 (by decide) (by decide +kernel)
def f_Ko_init (g0 : gG) (a0 : Nat) (a1 : Nat) (p2 : Int32) (w : gW) : gX Unit := (gp w a0 6 0 (.ref a1)).bind fun w => (gp w a0 6 1 (.int p2)).bind fun w => some (.inr (), w)
set_option maxHeartbeats 4000000 in
set_option maxRecDepth 100000 in
theorem m_Ko_init (l : Launch) (hst : l.stackTraces = false) (D : gD) (g0 : gG) (a0 : Nat) (a1 : Nat) (p2 : Int32) (w : gW) (r : (String ⊕ Unit) × gW) (h : f_Ko_init g0 a0 a1 p2 w = some r) : gMet l y_Ko_init (.code y_Ko_init b_Ko_init 3 none) rm_Ko_init D g0 [.ref a0, .ref a1, .int p2] w (goV r) := by
  refine gw_ofV (by decide +kernel) (Nat.le_of_ble_eq_true rfl) ?_
  intro p e s m below meth c ls args A Q hx hb hml hown hlocks hin hnt hT hK hZ hA hret hexc hthr hI hl
  obtain ⟨H, hH⟩ : ∃ H, H = s.heap := ⟨_, rfl⟩
  rw [← hH] at hI ⊢
  obtain ⟨locs, hlocs⟩ : ∃ z : List Loc, z = [] := ⟨_, rfl⟩
  rw [← hlocs] at hI ⊢
  have hl : lv_has ls 3 [(0, .ref a0), (1, .ref a1), (2, .int p2)] := hl
  unfold f_Ko_init at h
  refine lv_aload_n hx hb d_Ko_init_0 rfl (lv_at hl 0 rfl) ?_
  refine W.objInit hx hb hown (hT _ wd_718 args) (hT _ wd_78 args) (hT _ wd_79 args) rfl (by rw [hml]; exact hl.1) rfl d_Ko_init_1 (Nat.le_of_ble_eq_true rfl) (Nat.le_of_ble_eq_true rfl) ?_
  refine W.eq (g2 := F0 m 4 ls []) rfl ?_
  refine lv_aload_n hx hb d_Ko_init_4 rfl (lv_at hl 0 rfl) ?_
  refine lv_aload_n hx hb d_Ko_init_5 rfl (lv_at hl 1 rfl) ?_
  obtain ⟨w, e1, h⟩ := gb h
  refine gw_putF hx hb hT hown hK hI (ci := 6) rfl i_6 t_6 t_6_ok n_6 0 (by decide) wd_719 (fun _ h9 => h9) rfl hin rfl (ty := .object "BodySolids$Solid") (by decide +kernel) rfl rfl e1 d_Ko_init_6 (fun H locs hI => ?_)
  refine lv_aload_n hx hb d_Ko_init_9 rfl (lv_at hl 0 rfl) ?_
  refine lv_iload_n hx hb d_Ko_init_10 rfl (lv_at hl 2 rfl) ?_
  obtain ⟨w, e2, h⟩ := gb h
  refine gw_putF hx hb hT hown hK hI (ci := 6) rfl i_6 t_6 t_6_ok n_6 1 (by decide) wd_721 (fun _ h9 => h9) rfl hin rfl (ty := .int) (by decide +kernel) rfl rfl e2 d_Ko_init_11 (fun H locs hI => ?_)
  exact W.widen (show 0 ≤ 0 by omega) (show 0 ≤ 0 by omega) (hret _ _ (Option.some.inj h).symm _ _ _ _ d_Ko_init_14 hI)

abbrev b_B_keepOut : ByteArray := prog_1_method_14_code
def y_B_keepOut : MethodName := ⟨"BodySolids", "keepOut", "(JJJJIJ)Z"⟩
theorem d_B_keepOut_0 : decode b_B_keepOut 0 = .ok (.lload_n 1, 1) := by decide +kernel
theorem d_B_keepOut_1 : decode b_B_keepOut 1 = .ok (.ldc2_w 194, 3) := by decide +kernel
theorem d_B_keepOut_4 : decode b_B_keepOut 4 = .ok (.ldc2_w 196, 3) := by decide +kernel
theorem d_B_keepOut_7 : decode b_B_keepOut 7 = .ok (.invokestatic 138, 3) := by decide +kernel
theorem d_B_keepOut_10 : decode b_B_keepOut 10 = .ok (.lload_n 3, 1) := by decide +kernel
theorem d_B_keepOut_11 : decode b_B_keepOut 11 = .ok (.ldc2_w 194, 3) := by decide +kernel
theorem d_B_keepOut_14 : decode b_B_keepOut 14 = .ok (.ldc2_w 196, 3) := by decide +kernel
theorem d_B_keepOut_17 : decode b_B_keepOut 17 = .ok (.invokestatic 138, 3) := by decide +kernel
theorem d_B_keepOut_20 : decode b_B_keepOut 20 = .ok (.lload 5, 2) := by decide +kernel
theorem d_B_keepOut_22 : decode b_B_keepOut 22 = .ok (.lload_n 1, 1) := by decide +kernel
theorem d_B_keepOut_23 : decode b_B_keepOut 23 = .ok (.lconst 1, 1) := by decide +kernel
theorem d_B_keepOut_24 : decode b_B_keepOut 24 = .ok (.ladd, 1) := by decide +kernel
theorem d_B_keepOut_25 : decode b_B_keepOut 25 = .ok (.ldc2_w 196, 3) := by decide +kernel
theorem d_B_keepOut_28 : decode b_B_keepOut 28 = .ok (.invokestatic 138, 3) := by decide +kernel
theorem d_B_keepOut_31 : decode b_B_keepOut 31 = .ok (.lload 7, 2) := by decide +kernel
theorem d_B_keepOut_33 : decode b_B_keepOut 33 = .ok (.lload_n 3, 1) := by decide +kernel
theorem d_B_keepOut_34 : decode b_B_keepOut 34 = .ok (.lconst 1, 1) := by decide +kernel
theorem d_B_keepOut_35 : decode b_B_keepOut 35 = .ok (.ladd, 1) := by decide +kernel
theorem d_B_keepOut_36 : decode b_B_keepOut 36 = .ok (.ldc2_w 196, 3) := by decide +kernel
theorem d_B_keepOut_39 : decode b_B_keepOut 39 = .ok (.invokestatic 138, 3) := by decide +kernel
theorem d_B_keepOut_42 : decode b_B_keepOut 42 = .ok (.iload 9, 2) := by decide +kernel
theorem d_B_keepOut_44 : decode b_B_keepOut 44 = .ok (.i2l, 1) := by decide +kernel
theorem d_B_keepOut_45 : decode b_B_keepOut 45 = .ok (.lconst 0, 1) := by decide +kernel
theorem d_B_keepOut_46 : decode b_B_keepOut 46 = .ok (.lconst 1, 1) := by decide +kernel
theorem d_B_keepOut_47 : decode b_B_keepOut 47 = .ok (.invokestatic 138, 3) := by decide +kernel
theorem d_B_keepOut_50 : decode b_B_keepOut 50 = .ok (.lload 10, 2) := by decide +kernel
theorem d_B_keepOut_52 : decode b_B_keepOut 52 = .ok (.lconst 0, 1) := by decide +kernel
theorem d_B_keepOut_53 : decode b_B_keepOut 53 = .ok (.ldc2_w 196, 3) := by decide +kernel
theorem d_B_keepOut_56 : decode b_B_keepOut 56 = .ok (.invokestatic 138, 3) := by decide +kernel
theorem d_B_keepOut_59 : decode b_B_keepOut 59 = .ok (.aload_n 0, 1) := by decide +kernel
theorem d_B_keepOut_60 : decode b_B_keepOut 60 = .ok (.getfield 34, 3) := by decide +kernel
theorem d_B_keepOut_63 : decode b_B_keepOut 63 = .ok (.invokevirtual 68, 3) := by decide +kernel
theorem d_B_keepOut_66 : decode b_B_keepOut 66 = .ok (.bipush 10, 2) := by decide +kernel
theorem d_B_keepOut_68 : decode b_B_keepOut 68 = .ok (.if_icmp .lt 5, 3) := by decide +kernel
theorem d_B_keepOut_71 : decode b_B_keepOut 71 = .ok (.iconst 0, 1) := by decide +kernel
theorem d_B_keepOut_72 : decode b_B_keepOut 72 = .ok (.ireturn, 1) := by decide +kernel
theorem d_B_keepOut_73 : decode b_B_keepOut 73 = .ok (.new 98, 3) := by decide +kernel
theorem d_B_keepOut_76 : decode b_B_keepOut 76 = .ok (.dup, 1) := by decide +kernel
theorem d_B_keepOut_77 : decode b_B_keepOut 77 = .ok (.invokespecial 100, 3) := by decide +kernel
theorem d_B_keepOut_80 : decode b_B_keepOut 80 = .ok (.astore 12, 2) := by decide +kernel
theorem d_B_keepOut_82 : decode b_B_keepOut 82 = .ok (.aload 12, 2) := by decide +kernel
theorem d_B_keepOut_84 : decode b_B_keepOut 84 = .ok (.iconst 0, 1) := by decide +kernel
theorem d_B_keepOut_85 : decode b_B_keepOut 85 = .ok (.lconst 0, 1) := by decide +kernel
theorem d_B_keepOut_86 : decode b_B_keepOut 86 = .ok (.lconst 0, 1) := by decide +kernel
theorem d_B_keepOut_87 : decode b_B_keepOut 87 = .ok (.invokevirtual 101, 3) := by decide +kernel
theorem d_B_keepOut_90 : decode b_B_keepOut 90 = .ok (.aload 12, 2) := by decide +kernel
theorem d_B_keepOut_92 : decode b_B_keepOut 92 = .ok (.lload_n 1, 1) := by decide +kernel
theorem d_B_keepOut_93 : decode b_B_keepOut 93 = .ok (.lload_n 3, 1) := by decide +kernel
theorem d_B_keepOut_94 : decode b_B_keepOut 94 = .ok (.lload 5, 2) := by decide +kernel
theorem d_B_keepOut_96 : decode b_B_keepOut 96 = .ok (.lload 7, 2) := by decide +kernel
theorem d_B_keepOut_98 : decode b_B_keepOut 98 = .ok (.invokevirtual 105, 3) := by decide +kernel
theorem d_B_keepOut_101 : decode b_B_keepOut 101 = .ok (.iload 9, 2) := by decide +kernel
theorem d_B_keepOut_103 : decode b_B_keepOut 103 = .ok (.ifCond .ne 19, 3) := by decide +kernel
theorem d_B_keepOut_106 : decode b_B_keepOut 106 = .ok (.aload 12, 2) := by decide +kernel
theorem d_B_keepOut_108 : decode b_B_keepOut 108 = .ok (.lload 10, 2) := by decide +kernel
theorem d_B_keepOut_110 : decode b_B_keepOut 110 = .ok (.lload 10, 2) := by decide +kernel
theorem d_B_keepOut_112 : decode b_B_keepOut 112 = .ok (.ldc2_w 198, 3) := by decide +kernel
theorem d_B_keepOut_115 : decode b_B_keepOut 115 = .ok (.ladd, 1) := by decide +kernel
theorem d_B_keepOut_116 : decode b_B_keepOut 116 = .ok (.invokevirtual 109, 3) := by decide +kernel
theorem d_B_keepOut_119 : decode b_B_keepOut 119 = .ok (.goto 28, 3) := by decide +kernel
theorem d_B_keepOut_122 : decode b_B_keepOut 122 = .ok (.aload 12, 2) := by decide +kernel
theorem d_B_keepOut_124 : decode b_B_keepOut 124 = .ok (.aload_n 0, 1) := by decide +kernel
theorem d_B_keepOut_125 : decode b_B_keepOut 125 = .ok (.getfield 20, 3) := by decide +kernel
theorem d_B_keepOut_128 : decode b_B_keepOut 128 = .ok (.lneg, 1) := by decide +kernel
theorem d_B_keepOut_129 : decode b_B_keepOut 129 = .ok (.lload 10, 2) := by decide +kernel
theorem d_B_keepOut_131 : decode b_B_keepOut 131 = .ok (.lsub, 1) := by decide +kernel
theorem d_B_keepOut_132 : decode b_B_keepOut 132 = .ok (.ldc2_w 198, 3) := by decide +kernel
theorem d_B_keepOut_135 : decode b_B_keepOut 135 = .ok (.lsub, 1) := by decide +kernel
theorem d_B_keepOut_136 : decode b_B_keepOut 136 = .ok (.aload_n 0, 1) := by decide +kernel
theorem d_B_keepOut_137 : decode b_B_keepOut 137 = .ok (.getfield 20, 3) := by decide +kernel
theorem d_B_keepOut_140 : decode b_B_keepOut 140 = .ok (.lneg, 1) := by decide +kernel
theorem d_B_keepOut_141 : decode b_B_keepOut 141 = .ok (.lload 10, 2) := by decide +kernel
theorem d_B_keepOut_143 : decode b_B_keepOut 143 = .ok (.lsub, 1) := by decide +kernel
theorem d_B_keepOut_144 : decode b_B_keepOut 144 = .ok (.invokevirtual 109, 3) := by decide +kernel
theorem d_B_keepOut_147 : decode b_B_keepOut 147 = .ok (.aload_n 0, 1) := by decide +kernel
theorem d_B_keepOut_148 : decode b_B_keepOut 148 = .ok (.getfield 34, 3) := by decide +kernel
theorem d_B_keepOut_151 : decode b_B_keepOut 151 = .ok (.new 200, 3) := by decide +kernel
theorem d_B_keepOut_154 : decode b_B_keepOut 154 = .ok (.dup, 1) := by decide +kernel
theorem d_B_keepOut_155 : decode b_B_keepOut 155 = .ok (.aload 12, 2) := by decide +kernel
theorem d_B_keepOut_157 : decode b_B_keepOut 157 = .ok (.iload 9, 2) := by decide +kernel
theorem d_B_keepOut_159 : decode b_B_keepOut 159 = .ok (.invokespecial 202, 3) := by decide +kernel
theorem d_B_keepOut_162 : decode b_B_keepOut 162 = .ok (.invokevirtual 171, 3) := by decide +kernel
theorem d_B_keepOut_165 : decode b_B_keepOut 165 = .ok (.pop, 1) := by decide +kernel
theorem d_B_keepOut_166 : decode b_B_keepOut 166 = .ok (.iconst 1, 1) := by decide +kernel
theorem d_B_keepOut_167 : decode b_B_keepOut 167 = .ok (.ireturn, 1) := by decide +kernel
abbrev rm_B_keepOut : Room := { frames := 8, cells := 11, slots := 130, locals := 179 }
theorem ce_B_keepOut : gCe y_B_keepOut (.code y_B_keepOut b_B_keepOut 13 (some .boolean)) 13 6 false := gCe.code wd_710 wd_49 wd_708 (by decide) (by decide +kernel)
def f_B_keepOut (g0 : gG) (a0 : Nat) (p1 : Int64) (p2 : Int64) (p3 : Int64) (p4 : Int64) (p5 : Int32) (p6 : Int64) (w : gW) : gX Int32 := gbind (f_B_needWithin g0 p1 (-20000) 20000 w) fun v3 w => gbind (f_B_needWithin g0 p2 (-20000) 20000 w) fun v6 w => gbind (f_B_needWithin g0 p3 (p1 + 1) 20000 w) fun v9 w => gbind (f_B_needWithin g0 p4 (p2 + 1) 20000 w) fun v12 w => gbind (f_B_needWithin g0 (p5.toInt64) 0 1 w) fun v15 w => gbind (f_B_needWithin g0 p6 0 20000 w) fun v18 w => (gfA w a0 0 3).bind fun v19 => (gck w v19 1).bind fun _ => gbind (f_AL_size g0 v19 w) fun v25 w => if v25 < 10 then (gb2f (gnw w 3 [.int 0, .long 0, .long 0, .null, .null, .int 0, .long 0, .long 0, .long 0, .long 0, .long 0, .long 0]) fun o27 w => gbind (f_So_init g0 o27 w) fun v31 w => (gck w o27 3).bind fun _ => gbind (f_So_begin g0 o27 0 0 0 w) fun v36 w => (gck w o27 3).bind fun _ => gbind (f_So_addRectangle g0 o27 p1 p2 p3 p4 w) fun v41 w => gjoin (fun K147 => if p5 = 0 then ((gck w o27 3).bind fun _ => gbind (f_So_setHeights g0 o27 p6 (p6 + 30000) w) fun v69 w => K147 w) else ((gfJ w a0 0 0).bind fun v56 => (gfJ w a0 0 0).bind fun v58 => (gck w o27 3).bind fun _ => gbind (f_So_setHeights g0 o27 (((-v56) - p6) - 30000) ((-v58) - p6) w) fun v64 w => K147 w)) (fun (w : gW) => (gfA w a0 0 3).bind fun v42 => gb2f (gnw w 6 [.null, .int 0]) fun o44 w => gbind (f_Ko_init g0 o44 o27 p5 w) fun v48 w => (gck w v42 1).bind fun _ => gbind (f_AL_add g0 v42 o44 w) fun v53 w => gguard ((1 : Int32) = 0 ∨ (1 : Int32) = 1) (some (.inr 1, w)))) else (gguard ((0 : Int32) = 0 ∨ (0 : Int32) = 1) (some (.inr 0, w)))
set_option maxHeartbeats 4000000 in
set_option maxRecDepth 100000 in
theorem m_B_keepOut (l : Launch) (hst : l.stackTraces = false) (D : gD) (g0 : gG) (a0 : Nat) (p1 : Int64) (p2 : Int64) (p3 : Int64) (p4 : Int64) (p5 : Int32) (p6 : Int64) (w : gW) (r : (String ⊕ Int32) × gW) (h : f_B_keepOut g0 a0 p1 p2 p3 p4 p5 p6 w = some r) : gMet l y_B_keepOut (.code y_B_keepOut b_B_keepOut 13 (some .boolean)) rm_B_keepOut D g0 [.ref a0, .long p1, .long p2, .long p3, .long p4, .int p5, .long p6] w (goI r) := by
  refine gw_ofZ (by decide +kernel) (Nat.le_of_ble_eq_true rfl) ?_
  intro p e s m below meth c ls args A Q hx hb hml hown hlocks hin hnt hT hK hZ hA hret hexc hthr hI hl
  obtain ⟨H, hH⟩ : ∃ H, H = s.heap := ⟨_, rfl⟩
  rw [← hH] at hI ⊢
  obtain ⟨locs, hlocs⟩ : ∃ z : List Loc, z = [] := ⟨_, rfl⟩
  rw [← hlocs] at hI ⊢
  have hl : lv_has ls 13 [(0, .ref a0), (1, .long p1), (3, .long p2), (5, .long p3), (7, .long p4), (9, .int p5), (10, .long p6)] := hl
  unfold f_B_keepOut at h
  refine lv_lload_n hx hb d_B_keepOut_0 rfl (lv_at hl 1 rfl) ?_
  refine lv_ldc2 (v := (-20000)) hx hb hown (hT _ wd_711 args) d_B_keepOut_1 ?_
  refine lv_ldc2 (v := 20000) hx hb hown (hT _ wd_712 args) d_B_keepOut_4 ?_
  obtain ⟨u1, e2⟩ := gsome h
  refine gw_callV e2 h (gw_runS (As := [.long p1, .long (-20000), .long 20000]) (rest := []) hx hb hml hown hT hK hZ hA hI (m_B_needWithin l hst D g0 p1 (-20000) 20000 w u1 e2) ce_B_needWithin wd_516 ⟨by decide, by decide⟩ rfl rfl hl.1 rfl (lv_room (Nat.le_of_ble_eq_true rfl)) d_B_keepOut_7 ⟨(show 0 + 1 ≤ 11 by omega), (show 0 + 6 ≤ 130 by omega)⟩) hI hA hexc (show 0 + 1 ≤ 11 by omega) (show 0 + 6 ≤ 130 by omega) (fun v3 w H locs h hI => ?_)
  refine W.widen (k := 1) (n := 6) (show 0 + 1 ≤ 1 by omega) (show 0 + 6 ≤ 6 by omega) ?_
  refine lv_lload_n hx hb d_B_keepOut_10 rfl (lv_at hl 2 rfl) ?_
  refine lv_ldc2 (v := (-20000)) hx hb hown (hT _ wd_711 args) d_B_keepOut_11 ?_
  refine lv_ldc2 (v := 20000) hx hb hown (hT _ wd_712 args) d_B_keepOut_14 ?_
  obtain ⟨u4, e5⟩ := gsome h
  refine gw_callV e5 h (gw_runS (As := [.long p2, .long (-20000), .long 20000]) (rest := []) hx hb hml hown hT hK hZ hA hI (m_B_needWithin l hst D g0 p2 (-20000) 20000 w u4 e5) ce_B_needWithin wd_516 ⟨by decide, by decide⟩ rfl rfl hl.1 rfl (lv_room (Nat.le_of_ble_eq_true rfl)) d_B_keepOut_17 ⟨(show 1 + 1 ≤ 11 by omega), (show 6 + 6 ≤ 130 by omega)⟩) hI hA hexc (show 1 + 1 ≤ 11 by omega) (show 6 + 6 ≤ 130 by omega) (fun v6 w H locs h hI => ?_)
  refine W.widen (k := 2) (n := 12) (show 1 + 1 ≤ 2 by omega) (show 6 + 6 ≤ 12 by omega) ?_
  refine lv_lload hx hb d_B_keepOut_20 (lv_at hl 3 rfl) ?_
  refine lv_lload_n hx hb d_B_keepOut_22 rfl (lv_at hl 1 rfl) ?_
  refine lv_lconst (v := 1) hx hb d_B_keepOut_23 (by decide) ?_
  refine lv_ladd hx hb d_B_keepOut_24 ?_
  refine lv_ldc2 (v := 20000) hx hb hown (hT _ wd_712 args) d_B_keepOut_25 ?_
  obtain ⟨u7, e8⟩ := gsome h
  refine gw_callV e8 h (gw_runS (As := [.long p3, .long (p1 + 1), .long 20000]) (rest := []) hx hb hml hown hT hK hZ hA hI (m_B_needWithin l hst D g0 p3 (p1 + 1) 20000 w u7 e8) ce_B_needWithin wd_516 ⟨by decide, by decide⟩ rfl rfl hl.1 rfl (lv_room (Nat.le_of_ble_eq_true rfl)) d_B_keepOut_28 ⟨(show 2 + 1 ≤ 11 by omega), (show 12 + 6 ≤ 130 by omega)⟩) hI hA hexc (show 2 + 1 ≤ 11 by omega) (show 12 + 6 ≤ 130 by omega) (fun v9 w H locs h hI => ?_)
  refine W.widen (k := 3) (n := 18) (show 2 + 1 ≤ 3 by omega) (show 12 + 6 ≤ 18 by omega) ?_
  refine lv_lload hx hb d_B_keepOut_31 (lv_at hl 4 rfl) ?_
  refine lv_lload_n hx hb d_B_keepOut_33 rfl (lv_at hl 2 rfl) ?_
  refine lv_lconst (v := 1) hx hb d_B_keepOut_34 (by decide) ?_
  refine lv_ladd hx hb d_B_keepOut_35 ?_
  refine lv_ldc2 (v := 20000) hx hb hown (hT _ wd_712 args) d_B_keepOut_36 ?_
  obtain ⟨u10, e11⟩ := gsome h
  refine gw_callV e11 h (gw_runS (As := [.long p4, .long (p2 + 1), .long 20000]) (rest := []) hx hb hml hown hT hK hZ hA hI (m_B_needWithin l hst D g0 p4 (p2 + 1) 20000 w u10 e11) ce_B_needWithin wd_516 ⟨by decide, by decide⟩ rfl rfl hl.1 rfl (lv_room (Nat.le_of_ble_eq_true rfl)) d_B_keepOut_39 ⟨(show 3 + 1 ≤ 11 by omega), (show 18 + 6 ≤ 130 by omega)⟩) hI hA hexc (show 3 + 1 ≤ 11 by omega) (show 18 + 6 ≤ 130 by omega) (fun v12 w H locs h hI => ?_)
  refine W.widen (k := 4) (n := 24) (show 3 + 1 ≤ 4 by omega) (show 18 + 6 ≤ 24 by omega) ?_
  refine lv_iload hx hb d_B_keepOut_42 (lv_at hl 5 rfl) ?_
  refine lv_i2l (v := p5.toInt64) hx hb d_B_keepOut_44 rfl ?_
  refine lv_lconst (v := 0) hx hb d_B_keepOut_45 (by decide) ?_
  refine lv_lconst (v := 1) hx hb d_B_keepOut_46 (by decide) ?_
  obtain ⟨u13, e14⟩ := gsome h
  refine gw_callV e14 h (gw_runS (As := [.long (p5.toInt64), .long 0, .long 1]) (rest := []) hx hb hml hown hT hK hZ hA hI (m_B_needWithin l hst D g0 (p5.toInt64) 0 1 w u13 e14) ce_B_needWithin wd_516 ⟨by decide, by decide⟩ rfl rfl hl.1 rfl (lv_room (Nat.le_of_ble_eq_true rfl)) d_B_keepOut_47 ⟨(show 4 + 1 ≤ 11 by omega), (show 24 + 6 ≤ 130 by omega)⟩) hI hA hexc (show 4 + 1 ≤ 11 by omega) (show 24 + 6 ≤ 130 by omega) (fun v15 w H locs h hI => ?_)
  refine W.widen (k := 5) (n := 30) (show 4 + 1 ≤ 5 by omega) (show 24 + 6 ≤ 30 by omega) ?_
  refine lv_lload hx hb d_B_keepOut_50 (lv_at hl 6 rfl) ?_
  refine lv_lconst (v := 0) hx hb d_B_keepOut_52 (by decide) ?_
  refine lv_ldc2 (v := 20000) hx hb hown (hT _ wd_712 args) d_B_keepOut_53 ?_
  obtain ⟨u16, e17⟩ := gsome h
  refine gw_callV e17 h (gw_runS (As := [.long p6, .long 0, .long 20000]) (rest := []) hx hb hml hown hT hK hZ hA hI (m_B_needWithin l hst D g0 p6 0 20000 w u16 e17) ce_B_needWithin wd_516 ⟨by decide, by decide⟩ rfl rfl hl.1 rfl (lv_room (Nat.le_of_ble_eq_true rfl)) d_B_keepOut_56 ⟨(show 5 + 1 ≤ 11 by omega), (show 30 + 6 ≤ 130 by omega)⟩) hI hA hexc (show 5 + 1 ≤ 11 by omega) (show 30 + 6 ≤ 130 by omega) (fun v18 w H locs h hI => ?_)
  refine W.widen (k := 6) (n := 36) (show 5 + 1 ≤ 6 by omega) (show 30 + 6 ≤ 36 by omega) ?_
  refine lv_aload_n hx hb d_B_keepOut_59 rfl (lv_at hl 0 rfl) ?_
  obtain ⟨v19, e20, h⟩ := gb h
  refine gw_getA hx hb hT hown hK hI (ci := 0) rfl i_0 3 (by decide) wd_192 (fun _ h9 => h9) e20 d_B_keepOut_60 ?_
  obtain ⟨q23, e24, h⟩ := gb h
  obtain ⟨u21, e22⟩ := gsome h
  refine gw_callI e22 h (gw_runV (As := []) (rest := []) hx hb hml hown hT hK hZ hA hI (ci := 1) rfl e24 (m_AL_size l hst D g0 v19 w u21 e22) ce_AL_size wd_224 wd_226 ⟨by decide, by decide⟩ rfl rfl hl.1 rfl (lv_room (Nat.le_of_ble_eq_true rfl)) d_B_keepOut_63 ⟨(show 6 + 0 ≤ 11 by omega), (show 36 + 0 ≤ 130 by omega)⟩) hI hA hexc (show 6 + 0 ≤ 11 by omega) (show 36 + 0 ≤ 130 by omega) (fun v25 w H locs h hI => ?_)
  refine lv_bipush (v := 10) hx hb d_B_keepOut_66 (by decide) ?_
  refine lv_icmp_lt (tgt := 73) hx hb d_B_keepOut_68 (by decide) (fun c26 => ?_) (fun c26 => ?_)
  · skip
    have h := git c26 h
    obtain ⟨o27, w, e28, h⟩ := gb2 h
    refine gw_new hx hb hT hown hK hI hA (ci := 3) rfl i_3 t_3 t_3_ok wd_546 wd_124 wd_56 (fs := [.int 0, .long 0, .long 0, .null, .null, .int 0, .long 0, .long 0, .long 0, .long 0, .long 0, .long 0]) df_3 e28 (show 6 + 1 ≤ 11 by omega) (show 36 + 12 ≤ 130 by omega) d_B_keepOut_73 (fun H hI => ?_)
    refine W.widen (k := 7) (n := 48) (show 6 + 1 ≤ 7 by omega) (show 36 + 12 ≤ 48 by omega) ?_
    refine lv_dup hx hb d_B_keepOut_76 rfl ?_
    obtain ⟨u29, e30⟩ := gsome h
    refine gw_callV e30 h (gw_runIN (As := []) (rest := [.ref o27]) hx hb hml hown hT hK hZ hA hI (m_So_init l hst D g0 o27 w u29 e30) ce_So_init wd_547 rfl ⟨by decide, by decide⟩ rfl rfl hl.1 rfl (lv_room (Nat.le_of_ble_eq_true rfl)) d_B_keepOut_77 ⟨(show 7 + 2 ≤ 11 by omega), (show 48 + 16 ≤ 130 by omega)⟩) hI hA hexc (show 7 + 2 ≤ 11 by omega) (show 48 + 16 ≤ 130 by omega) (fun v31 w H locs h hI => ?_)
    refine W.widen (k := 9) (n := 64) (show 7 + 2 ≤ 9 by omega) (show 48 + 16 ≤ 64 by omega) ?_
    refine lv_astore (lv' := [(12, .ref o27), (0, .ref a0), (1, .long p1), (3, .long p2), (5, .long p3), (7, .long p4), (9, .int p5), (10, .long p6)]) hx hb d_B_keepOut_80 hl (by decide) rfl (fun ls hl => ?_)
    refine lv_aload hx hb d_B_keepOut_82 (lv_at hl 0 rfl) ?_
    refine lv_iconst (v := 0) hx hb d_B_keepOut_84 (by decide) ?_
    refine lv_lconst (v := 0) hx hb d_B_keepOut_85 (by decide) ?_
    refine lv_lconst (v := 0) hx hb d_B_keepOut_86 (by decide) ?_
    obtain ⟨q34, e35, h⟩ := gb h
    obtain ⟨u32, e33⟩ := gsome h
    refine gw_callV e33 h (gw_runV (As := [.int 0, .long 0, .long 0]) (rest := []) hx hb hml hown hT hK hZ hA hI (ci := 3) rfl e35 (m_So_begin l hst D g0 o27 0 0 0 w u32 e33) ce_So_begin wd_548 wd_349 ⟨by decide, by decide⟩ rfl rfl hl.1 rfl (lv_room (Nat.le_of_ble_eq_true rfl)) d_B_keepOut_87 ⟨(show 9 + 0 ≤ 11 by omega), (show 64 + 0 ≤ 130 by omega)⟩) hI hA hexc (show 9 + 0 ≤ 11 by omega) (show 64 + 0 ≤ 130 by omega) (fun v36 w H locs h hI => ?_)
    refine lv_aload hx hb d_B_keepOut_90 (lv_at hl 0 rfl) ?_
    refine lv_lload_n hx hb d_B_keepOut_92 rfl (lv_at hl 2 rfl) ?_
    refine lv_lload_n hx hb d_B_keepOut_93 rfl (lv_at hl 3 rfl) ?_
    refine lv_lload hx hb d_B_keepOut_94 (lv_at hl 4 rfl) ?_
    refine lv_lload hx hb d_B_keepOut_96 (lv_at hl 5 rfl) ?_
    obtain ⟨q39, e40, h⟩ := gb h
    obtain ⟨u37, e38⟩ := gsome h
    refine gw_callV e38 h (gw_runV (As := [.long p1, .long p2, .long p3, .long p4]) (rest := []) hx hb hml hown hT hK hZ hA hI (ci := 3) rfl e40 (m_So_addRectangle l hst D g0 o27 p1 p2 p3 p4 w u37 e38) ce_So_addRectangle wd_549 wd_551 ⟨by decide, by decide⟩ rfl rfl hl.1 rfl (lv_room (Nat.le_of_ble_eq_true rfl)) d_B_keepOut_98 ⟨(show 9 + 0 ≤ 11 by omega), (show 64 + 0 ≤ 130 by omega)⟩) hI hA hexc (show 9 + 0 ≤ 11 by omega) (show 64 + 0 ≤ 130 by omega) (fun v41 w H locs h hI => ?_)
    refine lv_iload hx hb d_B_keepOut_101 (lv_at hl 6 rfl) ?_
    obtain ⟨K147, eK147, h⟩ := gj h
    have hK147 : ∀ (w : gW) (H : Heap) (locs : List Loc) (ls : Array Slot), K147 w = some r → gI D s A w H locs → lv_has ls 13 [(0, .ref a0), (9, .int p5), (12, .ref o27)] → W p l e rm_B_keepOut s m args below meth c H locs 9 64 Q (F0 m 147 ls []) := by
      intro w H locs ls h hI hl
      have h := gk1 eK147 h
      refine lv_aload_n hx hb d_B_keepOut_147 rfl (lv_at hl 0 rfl) ?_
      obtain ⟨v42, e43, h⟩ := gb h
      refine gw_getA hx hb hT hown hK hI (ci := 0) rfl i_0 3 (by decide) wd_192 (fun _ h9 => h9) e43 d_B_keepOut_148 ?_
      obtain ⟨o44, w, e45, h⟩ := gb2 h
      refine gw_new hx hb hT hown hK hI hA (ci := 6) rfl i_6 t_6 t_6_ok wd_418 wd_714 wd_70 (fs := [.null, .int 0]) df_6 e45 (show 9 + 1 ≤ 11 by omega) (show 64 + 2 ≤ 130 by omega) d_B_keepOut_151 (fun H hI => ?_)
      refine W.widen (k := 10) (n := 66) (show 9 + 1 ≤ 10 by omega) (show 64 + 2 ≤ 66 by omega) ?_
      refine lv_dup hx hb d_B_keepOut_154 rfl ?_
      refine lv_aload hx hb d_B_keepOut_155 (lv_at hl 2 rfl) ?_
      refine lv_iload hx hb d_B_keepOut_157 (lv_at hl 1 rfl) ?_
      obtain ⟨u46, e47⟩ := gsome h
      refine gw_callV e47 h (gw_runI (As := [.ref o27, .int p5]) (rest := [.ref o44, .ref v42]) hx hb hml hown hT hK hZ hA hI (m_Ko_init l hst D g0 o44 o27 p5 w u46 e47) ce_Ko_init wd_715 rfl ⟨by decide, by decide⟩ rfl rfl hl.1 rfl (lv_room (Nat.le_of_ble_eq_true rfl)) d_B_keepOut_159 ⟨(show 10 + 0 ≤ 11 by omega), (show 66 + 0 ≤ 130 by omega)⟩) hI hA hexc (show 10 + 0 ≤ 11 by omega) (show 66 + 0 ≤ 130 by omega) (fun v48 w H locs h hI => ?_)
      obtain ⟨q51, e52, h⟩ := gb h
      obtain ⟨u49, e50⟩ := gsome h
      refine gw_callI e50 h (gw_runV (As := [.ref o44]) (rest := []) hx hb hml hown hT hK hZ hA hI (ci := 1) rfl e52 (m_AL_add l hst D g0 v42 o44 w u49 e50) ce_AL_add wd_250 wd_252 ⟨by decide, by decide⟩ rfl rfl hl.1 rfl (lv_room (Nat.le_of_ble_eq_true rfl)) d_B_keepOut_162 ⟨(show 10 + 1 ≤ 11 by omega), (show 66 + 64 ≤ 130 by omega)⟩) hI hA hexc (show 10 + 1 ≤ 11 by omega) (show 66 + 64 ≤ 130 by omega) (fun v53 w H locs h hI => ?_)
      refine W.widen (k := 11) (n := 130) (show 10 + 1 ≤ 11 by omega) (show 66 + 64 ≤ 130 by omega) ?_
      refine lv_pop hx hb d_B_keepOut_165 rfl ?_
      refine lv_iconst (v := 1) hx hb d_B_keepOut_166 (by decide) ?_
      obtain ⟨g54, h⟩ := gif h
      exact W.widen (show 11 ≤ 11 by omega) (show 130 ≤ 130 by omega) (hret g54 0 _ (Option.some.inj h).symm _ _ _ _ d_B_keepOut_167 hI)
    refine lv_if_ne (tgt := 122) hx hb d_B_keepOut_103 (by decide) (fun c55 => ?_) (fun c55 => ?_)
    · skip
      have h := gie c55 h
      refine lv_aload hx hb d_B_keepOut_122 (lv_at hl 0 rfl) ?_
      refine lv_aload_n hx hb d_B_keepOut_124 rfl (lv_at hl 1 rfl) ?_
      obtain ⟨v56, e57, h⟩ := gb h
      refine gw_getJ hx hb hT hown hK hI (ci := 0) rfl i_0 0 (by decide) wd_189 (fun _ h9 => h9) e57 d_B_keepOut_125 ?_
      refine lv_lneg hx hb d_B_keepOut_128 ?_
      refine lv_lload hx hb d_B_keepOut_129 (lv_at hl 7 rfl) ?_
      refine lv_lsub hx hb d_B_keepOut_131 ?_
      refine lv_ldc2 (v := 30000) hx hb hown (hT _ wd_713 args) d_B_keepOut_132 ?_
      refine lv_lsub hx hb d_B_keepOut_135 ?_
      refine lv_aload_n hx hb d_B_keepOut_136 rfl (lv_at hl 1 rfl) ?_
      obtain ⟨v58, e59, h⟩ := gb h
      refine gw_getJ hx hb hT hown hK hI (ci := 0) rfl i_0 0 (by decide) wd_189 (fun _ h9 => h9) e59 d_B_keepOut_137 ?_
      refine lv_lneg hx hb d_B_keepOut_140 ?_
      refine lv_lload hx hb d_B_keepOut_141 (lv_at hl 7 rfl) ?_
      refine lv_lsub hx hb d_B_keepOut_143 ?_
      obtain ⟨q62, e63, h⟩ := gb h
      obtain ⟨u60, e61⟩ := gsome h
      refine gw_callV e61 h (gw_runV (As := [.long (((-v56) - p6) - 30000), .long ((-v58) - p6)]) (rest := []) hx hb hml hown hT hK hZ hA hI (ci := 3) rfl e63 (m_So_setHeights l hst D g0 o27 (((-v56) - p6) - 30000) ((-v58) - p6) w u60 e61) ce_So_setHeights wd_553 wd_367 ⟨by decide, by decide⟩ rfl rfl hl.1 rfl (lv_room (Nat.le_of_ble_eq_true rfl)) d_B_keepOut_144 ⟨(show 9 + 0 ≤ 11 by omega), (show 64 + 0 ≤ 130 by omega)⟩) hI hA hexc (show 9 + 0 ≤ 11 by omega) (show 64 + 0 ≤ 130 by omega) (fun v64 w H locs h hI => ?_)
      exact hK147 w H locs ls h hI (lv_sub hl [1, 6, 0] rfl)
    · skip
      have h := git c55 h
      refine lv_aload hx hb d_B_keepOut_106 (lv_at hl 0 rfl) ?_
      refine lv_lload hx hb d_B_keepOut_108 (lv_at hl 7 rfl) ?_
      refine lv_lload hx hb d_B_keepOut_110 (lv_at hl 7 rfl) ?_
      refine lv_ldc2 (v := 30000) hx hb hown (hT _ wd_713 args) d_B_keepOut_112 ?_
      refine lv_ladd hx hb d_B_keepOut_115 ?_
      obtain ⟨q67, e68, h⟩ := gb h
      obtain ⟨u65, e66⟩ := gsome h
      refine gw_callV e66 h (gw_runV (As := [.long p6, .long (p6 + 30000)]) (rest := []) hx hb hml hown hT hK hZ hA hI (ci := 3) rfl e68 (m_So_setHeights l hst D g0 o27 p6 (p6 + 30000) w u65 e66) ce_So_setHeights wd_553 wd_367 ⟨by decide, by decide⟩ rfl rfl hl.1 rfl (lv_room (Nat.le_of_ble_eq_true rfl)) d_B_keepOut_116 ⟨(show 9 + 0 ≤ 11 by omega), (show 64 + 0 ≤ 130 by omega)⟩) hI hA hexc (show 9 + 0 ≤ 11 by omega) (show 64 + 0 ≤ 130 by omega) (fun v69 w H locs h hI => ?_)
      refine lv_goto (tgt := 147) hx hb d_B_keepOut_119 (by decide) ?_
      exact hK147 w H locs ls h hI (lv_sub hl [1, 6, 0] rfl)
  · skip
    have h := gie c26 h
    refine lv_iconst (v := 0) hx hb d_B_keepOut_71 (by decide) ?_
    obtain ⟨g70, h⟩ := gif h
    exact W.widen (show 6 ≤ 11 by omega) (show 36 ≤ 130 by omega) (hret g70 0 _ (Option.some.inj h).symm _ _ _ _ d_B_keepOut_72 hI)
