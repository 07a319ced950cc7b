abbrev b_M_isSpot : ByteArray := prog_9_method_22_code
def y_M_isSpot : MethodName := ⟨"BodySolidsModel", "isSpot", "(JJII)Z"⟩
theorem d_M_isSpot_0 : decode b_M_isSpot 0 = .ok (.lload_n 0, 1) := by decide +kernel
theorem d_M_isSpot_1 : decode b_M_isSpot 1 = .ok (.ldc2_w 134, 3) := by decide +kernel
theorem d_M_isSpot_4 : decode b_M_isSpot 4 = .ok (.ldc2_w 136, 3) := by decide +kernel
theorem d_M_isSpot_7 : decode b_M_isSpot 7 = .ok (.invokestatic 88, 3) := by decide +kernel
theorem d_M_isSpot_10 : decode b_M_isSpot 10 = .ok (.ifCond .eq 42, 3) := by decide +kernel
theorem d_M_isSpot_13 : decode b_M_isSpot 13 = .ok (.lload_n 2, 1) := by decide +kernel
theorem d_M_isSpot_14 : decode b_M_isSpot 14 = .ok (.ldc2_w 134, 3) := by decide +kernel
theorem d_M_isSpot_17 : decode b_M_isSpot 17 = .ok (.ldc2_w 136, 3) := by decide +kernel
theorem d_M_isSpot_20 : decode b_M_isSpot 20 = .ok (.invokestatic 88, 3) := by decide +kernel
theorem d_M_isSpot_23 : decode b_M_isSpot 23 = .ok (.ifCond .eq 29, 3) := by decide +kernel
theorem d_M_isSpot_26 : decode b_M_isSpot 26 = .ok (.iload 4, 2) := by decide +kernel
theorem d_M_isSpot_28 : decode b_M_isSpot 28 = .ok (.ifCond .lt 24, 3) := by decide +kernel
theorem d_M_isSpot_31 : decode b_M_isSpot 31 = .ok (.iload 4, 2) := by decide +kernel
theorem d_M_isSpot_33 : decode b_M_isSpot 33 = .ok (.iconst 4, 1) := by decide +kernel
theorem d_M_isSpot_34 : decode b_M_isSpot 34 = .ok (.if_icmp .ge 18, 3) := by decide +kernel
theorem d_M_isSpot_37 : decode b_M_isSpot 37 = .ok (.iload 5, 2) := by decide +kernel
theorem d_M_isSpot_39 : decode b_M_isSpot 39 = .ok (.ifCond .eq 9, 3) := by decide +kernel
theorem d_M_isSpot_42 : decode b_M_isSpot 42 = .ok (.iload 5, 2) := by decide +kernel
theorem d_M_isSpot_44 : decode b_M_isSpot 44 = .ok (.iconst 1, 1) := by decide +kernel
theorem d_M_isSpot_45 : decode b_M_isSpot 45 = .ok (.if_icmp .ne 7, 3) := by decide +kernel
theorem d_M_isSpot_48 : decode b_M_isSpot 48 = .ok (.iconst 1, 1) := by decide +kernel
theorem d_M_isSpot_49 : decode b_M_isSpot 49 = .ok (.goto 4, 3) := by decide +kernel
theorem d_M_isSpot_52 : decode b_M_isSpot 52 = .ok (.iconst 0, 1) := by decide +kernel
theorem d_M_isSpot_53 : decode b_M_isSpot 53 = .ok (.ireturn, 1) := by decide +kernel
abbrev rm_M_isSpot : Room := { frames := 1, cells := 0, slots := 0, locals := 25 }
theorem ce_M_isSpot : gCe y_M_isSpot (.code y_M_isSpot b_M_isSpot 6 (some .boolean)) 6 4 true := gCe.code wd_946 wd_57 wd_945 (by decide) (by decide +kernel)
def f_M_isSpot (g0 : gG) (p0 : Int64) (p1 : Int64) (p2 : Int32) (p3 : Int32) (w : gW) : gX Int32 := gbind (f_M_within g0 p0 (-10000) 10000 w) fun v3 w => gjoin (fun K53 => gjoin (fun K52 => if v3 = 0 then (K52 w) else (gbind (f_M_within g0 p1 (-10000) 10000 w) fun v9 w => if v9 = 0 then (K52 w) else (if p2 < 0 then (K52 w) else (if 4 ≤ p2 then (K52 w) else (gjoin (fun K48 => if p3 = 0 then (K48 w) else (if p3 = 1 then (K48 w) else (K52 w))) (fun (w : gW) => K53 1 w)))))) (fun (w : gW) => K53 0 w)) (fun (y4 : Int32) (w : gW) => gguard (y4 = 0 ∨ y4 = 1) (some (.inr y4, w)))
set_option maxHeartbeats 4000000 in
set_option maxRecDepth 100000 in
theorem m_M_isSpot (l : Launch) (hst : l.stackTraces = false) (D : gD) (g0 : gG) (p0 : Int64) (p1 : Int64) (p2 : Int32) (p3 : Int32) (w : gW) (r : (String ⊕ Int32) × gW) (h : f_M_isSpot g0 p0 p1 p2 p3 w = some r) : gMet l y_M_isSpot (.code y_M_isSpot b_M_isSpot 6 (some .boolean)) rm_M_isSpot D g0 [.long p0, .long p1, .int p2, .int p3] w (goI r) := by
  refine gw_ofZ (by decide +kernel) (Nat.le_of_ble_eq_true rfl) ?_
  intro p e s m below meth c ls args A Q hx hb hml hown hlocks hin hnt hT hK hZ hA hret hexc hthr hI hl
  obtain ⟨H, hH⟩ : ∃ H, H = s.heap := ⟨_, rfl⟩
  rw [← hH] at hI ⊢
  obtain ⟨locs, hlocs⟩ : ∃ z : List Loc, z = [] := ⟨_, rfl⟩
  rw [← hlocs] at hI ⊢
  have hl : lv_has ls 6 [(0, .long p0), (2, .long p1), (4, .int p2), (5, .int p3)] := hl
  unfold f_M_isSpot at h
  refine lv_lload_n hx hb d_M_isSpot_0 rfl (lv_at hl 0 rfl) ?_
  refine lv_ldc2 (v := (-10000)) hx hb hown (hT _ wd_930 args) d_M_isSpot_1 ?_
  refine lv_ldc2 (v := 10000) hx hb hown (hT _ wd_931 args) d_M_isSpot_4 ?_
  obtain ⟨u1, e2⟩ := gsome h
  refine gw_callI e2 h (gw_runS (As := [.long p0, .long (-10000), .long 10000]) (rest := []) hx hb hml hown hT hK hZ hA hI (m_M_within l hst D g0 p0 (-10000) 10000 w u1 e2) ce_M_within wd_885 ⟨by decide, by decide⟩ rfl rfl hl.1 rfl (lv_room (Nat.le_of_ble_eq_true rfl)) d_M_isSpot_7 ⟨(show 0 + 0 ≤ 0 by omega), (show 0 + 0 ≤ 0 by omega)⟩) hI hA hexc (show 0 + 0 ≤ 0 by omega) (show 0 + 0 ≤ 0 by omega) (fun v3 w H locs h hI => ?_)
  obtain ⟨K53, eK53, h⟩ := gj h
  have hK53 : ∀ (y4 : Int32) (w : gW) (H : Heap) (locs : List Loc) (ls : Array Slot), K53 y4 w = some r → gI D s A w H locs → lv_has ls 6 [] → W p l e rm_M_isSpot s m args below meth c H locs 0 0 Q (F0 m 53 ls [.int y4]) := by
    intro y4 w H locs ls h hI hl
    have h := gk2 eK53 h
    obtain ⟨g5, h⟩ := gif h
    exact W.widen (show 0 ≤ 0 by omega) (show 0 ≤ 0 by omega) (hret g5 0 _ (Option.some.inj h).symm _ _ _ _ d_M_isSpot_53 hI)
  obtain ⟨K52, eK52, h⟩ := gj h
  have hK52 : ∀ (w : gW) (H : Heap) (locs : List Loc) (ls : Array Slot), K52 w = some r → gI D s A w H locs → lv_has ls 6 [] → W p l e rm_M_isSpot s m args below meth c H locs 0 0 Q (F0 m 52 ls []) := by
    intro w H locs ls h hI hl
    have h := gk1 eK52 h
    refine lv_iconst (v := 0) hx hb d_M_isSpot_52 (by decide) ?_
    exact hK53 _ w H locs ls h hI (lv_sub hl [] rfl)
  refine lv_if_eq (tgt := 52) hx hb d_M_isSpot_10 (by decide) (fun c6 => ?_) (fun c6 => ?_)
  · skip
    have h := git c6 h
    exact hK52 w H locs ls h hI (lv_sub hl [] rfl)
  · skip
    have h := gie c6 h
    refine lv_lload_n hx hb d_M_isSpot_13 rfl (lv_at hl 1 rfl) ?_
    refine lv_ldc2 (v := (-10000)) hx hb hown (hT _ wd_930 args) d_M_isSpot_14 ?_
    refine lv_ldc2 (v := 10000) hx hb hown (hT _ wd_931 args) d_M_isSpot_17 ?_
    obtain ⟨u7, e8⟩ := gsome h
    refine gw_callI e8 h (gw_runS (As := [.long p1, .long (-10000), .long 10000]) (rest := []) hx hb hml hown hT hK hZ hA hI (m_M_within l hst D g0 p1 (-10000) 10000 w u7 e8) ce_M_within wd_885 ⟨by decide, by decide⟩ rfl rfl hl.1 rfl (lv_room (Nat.le_of_ble_eq_true rfl)) d_M_isSpot_20 ⟨(show 0 + 0 ≤ 0 by omega), (show 0 + 0 ≤ 0 by omega)⟩) hI hA hexc (show 0 + 0 ≤ 0 by omega) (show 0 + 0 ≤ 0 by omega) (fun v9 w H locs h hI => ?_)
    refine lv_if_eq (tgt := 52) hx hb d_M_isSpot_23 (by decide) (fun c10 => ?_) (fun c10 => ?_)
    · skip
      have h := git c10 h
      exact hK52 w H locs ls h hI (lv_sub hl [] rfl)
    · skip
      have h := gie c10 h
      refine lv_iload hx hb d_M_isSpot_26 (lv_at hl 2 rfl) ?_
      refine lv_if_lt (tgt := 52) hx hb d_M_isSpot_28 (by decide) (fun c11 => ?_) (fun c11 => ?_)
      · skip
        have h := git c11 h
        exact hK52 w H locs ls h hI (lv_sub hl [] rfl)
      · skip
        have h := gie c11 h
        refine lv_iload hx hb d_M_isSpot_31 (lv_at hl 2 rfl) ?_
        refine lv_iconst (v := 4) hx hb d_M_isSpot_33 (by decide) ?_
        refine lv_icmp_ge (tgt := 52) hx hb d_M_isSpot_34 (by decide) (fun c12 => ?_) (fun c12 => ?_)
        · skip
          have h := git c12 h
          exact hK52 w H locs ls h hI (lv_sub hl [] rfl)
        · skip
          have h := gie c12 h
          refine lv_iload hx hb d_M_isSpot_37 (lv_at hl 3 rfl) ?_
          obtain ⟨K48, eK48, h⟩ := gj h
          have hK48 : ∀ (w : gW) (H : Heap) (locs : List Loc) (ls : Array Slot), K48 w = some r → gI D s A w H locs → lv_has ls 6 [] → W p l e rm_M_isSpot s m args below meth c H locs 0 0 Q (F0 m 48 ls []) := by
            intro w H locs ls h hI hl
            have h := gk1 eK48 h
            refine lv_iconst (v := 1) hx hb d_M_isSpot_48 (by decide) ?_
            refine lv_goto (tgt := 53) hx hb d_M_isSpot_49 (by decide) ?_
            exact hK53 _ w H locs ls h hI (lv_sub hl [] rfl)
          refine lv_if_eq (tgt := 48) hx hb d_M_isSpot_39 (by decide) (fun c13 => ?_) (fun c13 => ?_)
          · skip
            have h := git c13 h
            exact hK48 w H locs ls h hI (lv_sub hl [] rfl)
          · skip
            have h := gie c13 h
            refine lv_iload hx hb d_M_isSpot_42 (lv_at hl 3 rfl) ?_
            refine lv_iconst (v := 1) hx hb d_M_isSpot_44 (by decide) ?_
            refine lv_icmp_ne (tgt := 52) hx hb d_M_isSpot_45 (by decide) (fun c14 => ?_) (fun c14 => ?_)
            · skip
              have h := gie c14 h
              exact hK52 w H locs ls h hI (lv_sub hl [] rfl)
            · skip
              have h := git c14 h
              exact hK48 w H locs ls h hI (lv_sub hl [] rfl)

abbrev b_M_set : ByteArray := prog_9_method_23_code
def y_M_set : MethodName := ⟨"BodySolidsModel", "set", "(IJJII)V"⟩
theorem d_M_set_0 : decode b_M_set 0 = .ok (.aload_n 0, 1) := by decide +kernel
theorem d_M_set_1 : decode b_M_set 1 = .ok (.getfield 38, 3) := by decide +kernel
theorem d_M_set_4 : decode b_M_set 4 = .ok (.iload_n 1, 1) := by decide +kernel
theorem d_M_set_5 : decode b_M_set 5 = .ok (.lload_n 2, 1) := by decide +kernel
theorem d_M_set_6 : decode b_M_set 6 = .ok (.lastore, 1) := by decide +kernel
theorem d_M_set_7 : decode b_M_set 7 = .ok (.aload_n 0, 1) := by decide +kernel
theorem d_M_set_8 : decode b_M_set 8 = .ok (.getfield 41, 3) := by decide +kernel
theorem d_M_set_11 : decode b_M_set 11 = .ok (.iload_n 1, 1) := by decide +kernel
theorem d_M_set_12 : decode b_M_set 12 = .ok (.lload 4, 2) := by decide +kernel
theorem d_M_set_14 : decode b_M_set 14 = .ok (.lastore, 1) := by decide +kernel
theorem d_M_set_15 : decode b_M_set 15 = .ok (.aload_n 0, 1) := by decide +kernel
theorem d_M_set_16 : decode b_M_set 16 = .ok (.getfield 44, 3) := by decide +kernel
theorem d_M_set_19 : decode b_M_set 19 = .ok (.iload_n 1, 1) := by decide +kernel
theorem d_M_set_20 : decode b_M_set 20 = .ok (.iload 6, 2) := by decide +kernel
theorem d_M_set_22 : decode b_M_set 22 = .ok (.iastore, 1) := by decide +kernel
theorem d_M_set_23 : decode b_M_set 23 = .ok (.aload_n 0, 1) := by decide +kernel
theorem d_M_set_24 : decode b_M_set 24 = .ok (.getfield 47, 3) := by decide +kernel
theorem d_M_set_27 : decode b_M_set 27 = .ok (.iload_n 1, 1) := by decide +kernel
theorem d_M_set_28 : decode b_M_set 28 = .ok (.iload 7, 2) := by decide +kernel
theorem d_M_set_30 : decode b_M_set 30 = .ok (.iastore, 1) := by decide +kernel
theorem d_M_set_31 : decode b_M_set 31 = .ok (.return_, 1) := by decide +kernel
abbrev rm_M_set : Room := { frames := 0, cells := 0, slots := 0, locals := 0 }
theorem ce_M_set : gCe y_M_set (.code y_M_set b_M_set 8 none) 8 5 false := gCe.code wd_950 wd_57 wd_949 (by decide) (by decide +kernel)
def f_M_set (g0 : gG) (a0 : Nat) (p1 : Int32) (p2 : Int64) (p3 : Int64) (p4 : Int32) (p5 : Int32) (w : gW) : gX Unit := (gfA w a0 7 14).bind fun v1 => (gsJ w v1 p1 p2).bind fun w => (gfA w a0 7 15).bind fun v4 => (gsJ w v4 p1 p3).bind fun w => (gfA w a0 7 16).bind fun v7 => (gsI w v7 p1 p4).bind fun w => (gfA w a0 7 17).bind fun v10 => (gsI w v10 p1 p5).bind fun w => some (.inr (), w)
set_option maxHeartbeats 4000000 in
set_option maxRecDepth 100000 in
theorem m_M_set (l : Launch) (hst : l.stackTraces = false) (D : gD) (g0 : gG) (a0 : Nat) (p1 : Int32) (p2 : Int64) (p3 : Int64) (p4 : Int32) (p5 : Int32) (w : gW) (r : (String ⊕ Unit) × gW) (h : f_M_set g0 a0 p1 p2 p3 p4 p5 w = some r) : gMet l y_M_set (.code y_M_set b_M_set 8 none) rm_M_set D g0 [.ref a0, .int p1, .long p2, .long p3, .int p4, .int p5] w (goV r) := by
  refine gw_ofV (by decide +kernel) (Nat.le_of_ble_eq_true rfl) ?_
  intro p e s m below meth c ls args A Q hx hb hml hown hlocks hin hnt hT hK hZ hA hret hexc hthr hI hl
  obtain ⟨H, hH⟩ : ∃ H, H = s.heap := ⟨_, rfl⟩
  rw [← hH] at hI ⊢
  obtain ⟨locs, hlocs⟩ : ∃ z : List Loc, z = [] := ⟨_, rfl⟩
  rw [← hlocs] at hI ⊢
  have hl : lv_has ls 8 [(0, .ref a0), (1, .int p1), (2, .long p2), (4, .long p3), (6, .int p4), (7, .int p5)] := hl
  unfold f_M_set at h
  refine lv_aload_n hx hb d_M_set_0 rfl (lv_at hl 0 rfl) ?_
  obtain ⟨v1, e2, h⟩ := gb h
  refine gw_getA hx hb hT hown hK hI (ci := 7) rfl i_7 14 (by decide) wd_800 (fun _ h9 => h9) e2 d_M_set_1 ?_
  refine lv_iload_n hx hb d_M_set_4 rfl (lv_at hl 1 rfl) ?_
  refine lv_lload_n hx hb d_M_set_5 rfl (lv_at hl 2 rfl) ?_
  obtain ⟨w, e3, h⟩ := gb h
  refine gw_astJ hx hb hK hI e3 d_M_set_6 (fun H locs hI => ?_)
  refine lv_aload_n hx hb d_M_set_7 rfl (lv_at hl 0 rfl) ?_
  obtain ⟨v4, e5, h⟩ := gb h
  refine gw_getA hx hb hT hown hK hI (ci := 7) rfl i_7 15 (by decide) wd_801 (fun _ h9 => h9) e5 d_M_set_8 ?_
  refine lv_iload_n hx hb d_M_set_11 rfl (lv_at hl 1 rfl) ?_
  refine lv_lload hx hb d_M_set_12 (lv_at hl 3 rfl) ?_
  obtain ⟨w, e6, h⟩ := gb h
  refine gw_astJ hx hb hK hI e6 d_M_set_14 (fun H locs hI => ?_)
  refine lv_aload_n hx hb d_M_set_15 rfl (lv_at hl 0 rfl) ?_
  obtain ⟨v7, e8, h⟩ := gb h
  refine gw_getA hx hb hT hown hK hI (ci := 7) rfl i_7 16 (by decide) wd_802 (fun _ h9 => h9) e8 d_M_set_16 ?_
  refine lv_iload_n hx hb d_M_set_19 rfl (lv_at hl 1 rfl) ?_
  refine lv_iload hx hb d_M_set_20 (lv_at hl 4 rfl) ?_
  obtain ⟨w, e9, h⟩ := gb h
  refine gw_astI hx hb hK hI e9 d_M_set_22 (fun H locs hI => ?_)
  refine lv_aload_n hx hb d_M_set_23 rfl (lv_at hl 0 rfl) ?_
  obtain ⟨v10, e11, h⟩ := gb h
  refine gw_getA hx hb hT hown hK hI (ci := 7) rfl i_7 17 (by decide) wd_803 (fun _ h9 => h9) e11 d_M_set_24 ?_
  refine lv_iload_n hx hb d_M_set_27 rfl (lv_at hl 1 rfl) ?_
  refine lv_iload hx hb d_M_set_28 (lv_at hl 5 rfl) ?_
  obtain ⟨w, e12, h⟩ := gb h
  refine gw_astI hx hb hK hI e12 d_M_set_30 (fun H locs hI => ?_)
  exact W.widen (show 0 ≤ 0 by omega) (show 0 ≤ 0 by omega) (hret _ _ (Option.some.inj h).symm _ _ _ _ d_M_set_31 hI)

abbrev b_M_place : ByteArray := prog_9_method_24_code
def y_M_place : MethodName := ⟨"BodySolidsModel", "place", "(IJJII)I"⟩
theorem d_M_place_0 : decode b_M_place 0 = .ok (.aload_n 0, 1) := by decide +kernel
theorem d_M_place_1 : decode b_M_place 1 = .ok (.aload_n 0, 1) := by decide +kernel
theorem d_M_place_2 : decode b_M_place 2 = .ok (.iload_n 1, 1) := by decide +kernel
theorem d_M_place_3 : decode b_M_place 3 = .ok (.invokevirtual 109, 3) := by decide +kernel
theorem d_M_place_6 : decode b_M_place 6 = .ok (.ifCond .ne 7, 3) := by decide +kernel
theorem d_M_place_9 : decode b_M_place 9 = .ok (.iconst 1, 1) := by decide +kernel
theorem d_M_place_10 : decode b_M_place 10 = .ok (.goto 21, 3) := by decide +kernel
theorem d_M_place_13 : decode b_M_place 13 = .ok (.lload_n 2, 1) := by decide +kernel
theorem d_M_place_14 : decode b_M_place 14 = .ok (.lload 4, 2) := by decide +kernel
theorem d_M_place_16 : decode b_M_place 16 = .ok (.iload 6, 2) := by decide +kernel
theorem d_M_place_18 : decode b_M_place 18 = .ok (.iload 7, 2) := by decide +kernel
theorem d_M_place_20 : decode b_M_place 20 = .ok (.invokestatic 142, 3) := by decide +kernel
theorem d_M_place_23 : decode b_M_place 23 = .ok (.ifCond .eq 7, 3) := by decide +kernel
theorem d_M_place_26 : decode b_M_place 26 = .ok (.iconst 0, 1) := by decide +kernel
theorem d_M_place_27 : decode b_M_place 27 = .ok (.goto 4, 3) := by decide +kernel
theorem d_M_place_30 : decode b_M_place 30 = .ok (.iconst 2, 1) := by decide +kernel
theorem d_M_place_31 : decode b_M_place 31 = .ok (.putfield 80, 3) := by decide +kernel
theorem d_M_place_34 : decode b_M_place 34 = .ok (.aload_n 0, 1) := by decide +kernel
theorem d_M_place_35 : decode b_M_place 35 = .ok (.getfield 80, 3) := by decide +kernel
theorem d_M_place_38 : decode b_M_place 38 = .ok (.ifCond .eq 5, 3) := by decide +kernel
theorem d_M_place_41 : decode b_M_place 41 = .ok (.iconst 0, 1) := by decide +kernel
theorem d_M_place_42 : decode b_M_place 42 = .ok (.ireturn, 1) := by decide +kernel
theorem d_M_place_43 : decode b_M_place 43 = .ok (.aload_n 0, 1) := by decide +kernel
theorem d_M_place_44 : decode b_M_place 44 = .ok (.getfield 95, 3) := by decide +kernel
theorem d_M_place_47 : decode b_M_place 47 = .ok (.bipush 30, 2) := by decide +kernel
theorem d_M_place_49 : decode b_M_place 49 = .ok (.if_icmp .ne 5, 3) := by decide +kernel
theorem d_M_place_52 : decode b_M_place 52 = .ok (.iconst (-1), 1) := by decide +kernel
theorem d_M_place_53 : decode b_M_place 53 = .ok (.ireturn, 1) := by decide +kernel
theorem d_M_place_54 : decode b_M_place 54 = .ok (.aload_n 0, 1) := by decide +kernel
theorem d_M_place_55 : decode b_M_place 55 = .ok (.getfield 35, 3) := by decide +kernel
theorem d_M_place_58 : decode b_M_place 58 = .ok (.aload_n 0, 1) := by decide +kernel
theorem d_M_place_59 : decode b_M_place 59 = .ok (.getfield 95, 3) := by decide +kernel
theorem d_M_place_62 : decode b_M_place 62 = .ok (.iload_n 1, 1) := by decide +kernel
theorem d_M_place_63 : decode b_M_place 63 = .ok (.iastore, 1) := by decide +kernel
theorem d_M_place_64 : decode b_M_place 64 = .ok (.aload_n 0, 1) := by decide +kernel
theorem d_M_place_65 : decode b_M_place 65 = .ok (.aload_n 0, 1) := by decide +kernel
theorem d_M_place_66 : decode b_M_place 66 = .ok (.getfield 95, 3) := by decide +kernel
theorem d_M_place_69 : decode b_M_place 69 = .ok (.lload_n 2, 1) := by decide +kernel
theorem d_M_place_70 : decode b_M_place 70 = .ok (.lload 4, 2) := by decide +kernel
theorem d_M_place_72 : decode b_M_place 72 = .ok (.iload 6, 2) := by decide +kernel
theorem d_M_place_74 : decode b_M_place 74 = .ok (.iload 7, 2) := by decide +kernel
theorem d_M_place_76 : decode b_M_place 76 = .ok (.invokevirtual 146, 3) := by decide +kernel
theorem d_M_place_79 : decode b_M_place 79 = .ok (.aload_n 0, 1) := by decide +kernel
theorem d_M_place_80 : decode b_M_place 80 = .ok (.dup, 1) := by decide +kernel
theorem d_M_place_81 : decode b_M_place 81 = .ok (.getfield 95, 3) := by decide +kernel
theorem d_M_place_84 : decode b_M_place 84 = .ok (.iconst 1, 1) := by decide +kernel
theorem d_M_place_85 : decode b_M_place 85 = .ok (.iadd, 1) := by decide +kernel
theorem d_M_place_86 : decode b_M_place 86 = .ok (.putfield 95, 3) := by decide +kernel
theorem d_M_place_89 : decode b_M_place 89 = .ok (.aload_n 0, 1) := by decide +kernel
theorem d_M_place_90 : decode b_M_place 90 = .ok (.getfield 95, 3) := by decide +kernel
theorem d_M_place_93 : decode b_M_place 93 = .ok (.iconst 1, 1) := by decide +kernel
theorem d_M_place_94 : decode b_M_place 94 = .ok (.isub, 1) := by decide +kernel
theorem d_M_place_95 : decode b_M_place 95 = .ok (.ireturn, 1) := by decide +kernel
abbrev rm_M_place : Room := { frames := 2, cells := 0, slots := 0, locals := 50 }
theorem ce_M_place : gCe y_M_place (.code y_M_place b_M_place 8 (some .int)) 8 5 false := gCe.code wd_943 wd_57 wd_941 (by decide) (by decide +kernel)
def f_M_place (g0 : gG) (a0 : Nat) (p1 : Int32) (p2 : Int64) (p3 : Int64) (p4 : Int32) (p5 : Int32) (w : gW) : gX Int32 := (gck w a0 7).bind fun _ => gbind (f_M_isBody g0 a0 p1 w) fun v5 w => gjoin (fun K31 => if v5 = 0 then (K31 1 w) else (gbind (f_M_isSpot g0 p2 p3 p4 p5 w) fun v34 w => if v34 = 0 then (K31 2 w) else (K31 0 w))) (fun (y6 : Int32) (w : gW) => (gp w a0 7 0 (.int y6)).bind fun w => (gfI w a0 7 0).bind fun v8 => if v8 = 0 then ((gfI w a0 7 12).bind fun v11 => if v11 = 30 then (some (.inr (-1), w)) else ((gfA w a0 7 13).bind fun v14 => (gfI w a0 7 12).bind fun v16 => (gsI w v14 v16 p1).bind fun w => (gfI w a0 7 12).bind fun v19 => (gck w a0 7).bind fun _ => gbind (f_M_set g0 a0 v19 p2 p3 p4 p5 w) fun v25 w => (gfI w a0 7 12).bind fun v26 => (gp w a0 7 12 (.int (v26 + 1))).bind fun w => (gfI w a0 7 12).bind fun v29 => some (.inr (v29 - 1), w))) else (some (.inr 0, w)))
set_option maxHeartbeats 4000000 in
set_option maxRecDepth 100000 in
theorem m_M_place (l : Launch) (hst : l.stackTraces = false) (D : gD) (g0 : gG) (a0 : Nat) (p1 : Int32) (p2 : Int64) (p3 : Int64) (p4 : Int32) (p5 : Int32) (w : gW) (r : (String ⊕ Int32) × gW) (h : f_M_place g0 a0 p1 p2 p3 p4 p5 w = some r) : gMet l y_M_place (.code y_M_place b_M_place 8 (some .int)) rm_M_place D g0 [.ref a0, .int p1, .long p2, .long p3, .int p4, .int p5] w (goI r) := by
  refine gw_ofI (by decide +kernel) (Nat.le_of_ble_eq_true rfl) ?_
  intro p e s m below meth c ls args A Q hx hb hml hown hlocks hin hnt hT hK hZ hA hret hexc hthr hI hl
  obtain ⟨H, hH⟩ : ∃ H, H = s.heap := ⟨_, rfl⟩
  rw [← hH] at hI ⊢
  obtain ⟨locs, hlocs⟩ : ∃ z : List Loc, z = [] := ⟨_, rfl⟩
  rw [← hlocs] at hI ⊢
  have hl : lv_has ls 8 [(0, .ref a0), (1, .int p1), (2, .long p2), (4, .long p3), (6, .int p4), (7, .int p5)] := hl
  unfold f_M_place at h
  refine lv_aload_n hx hb d_M_place_0 rfl (lv_at hl 0 rfl) ?_
  refine lv_aload_n hx hb d_M_place_1 rfl (lv_at hl 0 rfl) ?_
  refine lv_iload_n hx hb d_M_place_2 rfl (lv_at hl 1 rfl) ?_
  obtain ⟨q3, e4, h⟩ := gb h
  obtain ⟨u1, e2⟩ := gsome h
  refine gw_callI e2 h (gw_runV (As := [.int p1]) (rest := [.ref a0]) hx hb hml hown hT hK hZ hA hI (ci := 7) rfl e4 (m_M_isBody l hst D g0 a0 p1 w u1 e2) ce_M_isBody wd_894 wd_17 ⟨by decide, by decide⟩ rfl rfl hl.1 rfl (lv_room (Nat.le_of_ble_eq_true rfl)) d_M_place_3 ⟨(show 0 + 0 ≤ 0 by omega), (show 0 + 0 ≤ 0 by omega)⟩) hI hA hexc (show 0 + 0 ≤ 0 by omega) (show 0 + 0 ≤ 0 by omega) (fun v5 w H locs h hI => ?_)
  obtain ⟨K31, eK31, h⟩ := gj h
  have hK31 : ∀ (y6 : Int32) (w : gW) (H : Heap) (locs : List Loc) (ls : Array Slot), K31 y6 w = some r → gI D s A w H locs → lv_has ls 8 [(0, .ref a0), (1, .int p1), (2, .long p2), (4, .long p3), (6, .int p4), (7, .int p5)] → W p l e rm_M_place s m args below meth c H locs 0 0 Q (F0 m 31 ls [.int y6, .ref a0]) := by
    intro y6 w H locs ls h hI hl
    have h := gk2 eK31 h
    obtain ⟨w, e7, h⟩ := gb h
    refine gw_put hx hb hT hown hK hI (ci := 7) rfl i_7 t_7 t_7_ok n_7 0 (by decide) wd_786 (fun _ h9 => h9) rfl (ty := .int) (by decide +kernel) rfl rfl e7 d_M_place_31 (fun H locs hI => ?_)
    refine lv_aload_n hx hb d_M_place_34 rfl (lv_at hl 0 rfl) ?_
    obtain ⟨v8, e9, h⟩ := gb h
    refine gw_getI hx hb hT hown hK hI (ci := 7) rfl i_7 0 (by decide) wd_786 (fun _ h9 => h9) e9 d_M_place_35 ?_
    refine lv_if_eq (tgt := 43) hx hb d_M_place_38 (by decide) (fun c10 => ?_) (fun c10 => ?_)
    · skip
      have h := git c10 h
      refine lv_aload_n hx hb d_M_place_43 rfl (lv_at hl 0 rfl) ?_
      obtain ⟨v11, e12, h⟩ := gb h
      refine gw_getI hx hb hT hown hK hI (ci := 7) rfl i_7 12 (by decide) wd_798 (fun _ h9 => h9) e12 d_M_place_44 ?_
      refine lv_bipush (v := 30) hx hb d_M_place_47 (by decide) ?_
      refine lv_icmp_ne (tgt := 54) hx hb d_M_place_49 (by decide) (fun c13 => ?_) (fun c13 => ?_)
      · skip
        have h := gie c13 h
        refine lv_aload_n hx hb d_M_place_54 rfl (lv_at hl 0 rfl) ?_
        obtain ⟨v14, e15, h⟩ := gb h
        refine gw_getA hx hb hT hown hK hI (ci := 7) rfl i_7 13 (by decide) wd_799 (fun _ h9 => h9) e15 d_M_place_55 ?_
        refine lv_aload_n hx hb d_M_place_58 rfl (lv_at hl 0 rfl) ?_
        obtain ⟨v16, e17, h⟩ := gb h
        refine gw_getI hx hb hT hown hK hI (ci := 7) rfl i_7 12 (by decide) wd_798 (fun _ h9 => h9) e17 d_M_place_59 ?_
        refine lv_iload_n hx hb d_M_place_62 rfl (lv_at hl 1 rfl) ?_
        obtain ⟨w, e18, h⟩ := gb h
        refine gw_astI hx hb hK hI e18 d_M_place_63 (fun H locs hI => ?_)
        refine lv_aload_n hx hb d_M_place_64 rfl (lv_at hl 0 rfl) ?_
        refine lv_aload_n hx hb d_M_place_65 rfl (lv_at hl 0 rfl) ?_
        obtain ⟨v19, e20, h⟩ := gb h
        refine gw_getI hx hb hT hown hK hI (ci := 7) rfl i_7 12 (by decide) wd_798 (fun _ h9 => h9) e20 d_M_place_66 ?_
        refine lv_lload_n hx hb d_M_place_69 rfl (lv_at hl 2 rfl) ?_
        refine lv_lload hx hb d_M_place_70 (lv_at hl 3 rfl) ?_
        refine lv_iload hx hb d_M_place_72 (lv_at hl 4 rfl) ?_
        refine lv_iload hx hb d_M_place_74 (lv_at hl 5 rfl) ?_
        obtain ⟨q23, e24, h⟩ := gb h
        obtain ⟨u21, e22⟩ := gsome h
        refine gw_callV e22 h (gw_runV (As := [.int v19, .long p2, .long p3, .int p4, .int p5]) (rest := []) hx hb hml hown hT hK hZ hA hI (ci := 7) rfl e24 (m_M_set l hst D g0 a0 v19 p2 p3 p4 p5 w u21 e22) ce_M_set wd_947 wd_22 ⟨by decide, by decide⟩ rfl rfl hl.1 rfl (lv_room (Nat.le_of_ble_eq_true rfl)) d_M_place_76 ⟨(show 0 + 0 ≤ 0 by omega), (show 0 + 0 ≤ 0 by omega)⟩) hI hA hexc (show 0 + 0 ≤ 0 by omega) (show 0 + 0 ≤ 0 by omega) (fun v25 w H locs h hI => ?_)
        refine lv_aload_n hx hb d_M_place_79 rfl (lv_at hl 0 rfl) ?_
        refine lv_dup hx hb d_M_place_80 rfl ?_
        obtain ⟨v26, e27, h⟩ := gb h
        refine gw_getI hx hb hT hown hK hI (ci := 7) rfl i_7 12 (by decide) wd_798 (fun _ h9 => h9) e27 d_M_place_81 ?_
        refine lv_iconst (v := 1) hx hb d_M_place_84 (by decide) ?_
        refine lv_iadd hx hb d_M_place_85 ?_
        obtain ⟨w, e28, h⟩ := gb h
        refine gw_put hx hb hT hown hK hI (ci := 7) rfl i_7 t_7 t_7_ok n_7 12 (by decide) wd_798 (fun _ h9 => h9) rfl (ty := .int) (by decide +kernel) rfl rfl e28 d_M_place_86 (fun H locs hI => ?_)
        refine lv_aload_n hx hb d_M_place_89 rfl (lv_at hl 0 rfl) ?_
        obtain ⟨v29, e30, h⟩ := gb h
        refine gw_getI hx hb hT hown hK hI (ci := 7) rfl i_7 12 (by decide) wd_798 (fun _ h9 => h9) e30 d_M_place_90 ?_
        refine lv_iconst (v := 1) hx hb d_M_place_93 (by decide) ?_
        refine lv_isub hx hb d_M_place_94 ?_
        exact W.widen (show 0 ≤ 0 by omega) (show 0 ≤ 0 by omega) (hret _ _ (Option.some.inj h).symm _ _ _ _ d_M_place_95 hI)
      · skip
        have h := git c13 h
        refine lv_iconst (v := -1) hx hb d_M_place_52 (by decide) ?_
        exact W.widen (show 0 ≤ 0 by omega) (show 0 ≤ 0 by omega) (hret _ _ (Option.some.inj h).symm _ _ _ _ d_M_place_53 hI)
    · skip
      have h := gie c10 h
      refine lv_iconst (v := 0) hx hb d_M_place_41 (by decide) ?_
      exact W.widen (show 0 ≤ 0 by omega) (show 0 ≤ 0 by omega) (hret _ _ (Option.some.inj h).symm _ _ _ _ d_M_place_42 hI)
  refine lv_if_ne (tgt := 13) hx hb d_M_place_6 (by decide) (fun c31 => ?_) (fun c31 => ?_)
  · skip
    have h := gie c31 h
    refine lv_lload_n hx hb d_M_place_13 rfl (lv_at hl 2 rfl) ?_
    refine lv_lload hx hb d_M_place_14 (lv_at hl 3 rfl) ?_
    refine lv_iload hx hb d_M_place_16 (lv_at hl 4 rfl) ?_
    refine lv_iload hx hb d_M_place_18 (lv_at hl 5 rfl) ?_
    obtain ⟨u32, e33⟩ := gsome h
    refine gw_callI e33 h (gw_runS (As := [.long p2, .long p3, .int p4, .int p5]) (rest := [.ref a0]) hx hb hml hown hT hK hZ hA hI (m_M_isSpot l hst D g0 p2 p3 p4 p5 w u32 e33) ce_M_isSpot wd_944 ⟨by decide, by decide⟩ rfl rfl hl.1 rfl (lv_room (Nat.le_of_ble_eq_true rfl)) d_M_place_20 ⟨(show 0 + 0 ≤ 0 by omega), (show 0 + 0 ≤ 0 by omega)⟩) hI hA hexc (show 0 + 0 ≤ 0 by omega) (show 0 + 0 ≤ 0 by omega) (fun v34 w H locs h hI => ?_)
    refine lv_if_eq (tgt := 30) hx hb d_M_place_23 (by decide) (fun c35 => ?_) (fun c35 => ?_)
    · skip
      have h := git c35 h
      refine lv_iconst (v := 2) hx hb d_M_place_30 (by decide) ?_
      exact hK31 _ w H locs ls h hI (lv_sub hl [0, 1, 2, 3, 4, 5] rfl)
    · skip
      have h := gie c35 h
      refine lv_iconst (v := 0) hx hb d_M_place_26 (by decide) ?_
      refine lv_goto (tgt := 31) hx hb d_M_place_27 (by decide) ?_
      exact hK31 _ w H locs ls h hI (lv_sub hl [0, 1, 2, 3, 4, 5] rfl)
  · skip
    have h := git c31 h
    refine lv_iconst (v := 1) hx hb d_M_place_9 (by decide) ?_
    refine lv_goto (tgt := 31) hx hb d_M_place_10 (by decide) ?_
    exact hK31 _ w H locs ls h hI (lv_sub hl [0, 1, 2, 3, 4, 5] rfl)

abbrev b_B_placementAt : ByteArray := prog_1_method_26_code
def y_B_placementAt : MethodName := ⟨"BodySolids", "placementAt", "(I)LBodySolids$Placement;"⟩
theorem d_B_placementAt_0 : decode b_B_placementAt 0 = .ok (.iload_n 1, 1) := by decide +kernel
theorem d_B_placementAt_1 : decode b_B_placementAt 1 = .ok (.aload_n 0, 1) := by decide +kernel
theorem d_B_placementAt_2 : decode b_B_placementAt 2 = .ok (.getfield 31, 3) := by decide +kernel
theorem d_B_placementAt_5 : decode b_B_placementAt 5 = .ok (.invokevirtual 68, 3) := by decide +kernel
theorem d_B_placementAt_8 : decode b_B_placementAt 8 = .ok (.invokestatic 190, 3) := by decide +kernel
theorem d_B_placementAt_11 : decode b_B_placementAt 11 = .ok (.aload_n 0, 1) := by decide +kernel
theorem d_B_placementAt_12 : decode b_B_placementAt 12 = .ok (.getfield 31, 3) := by decide +kernel
theorem d_B_placementAt_15 : decode b_B_placementAt 15 = .ok (.iload_n 1, 1) := by decide +kernel
theorem d_B_placementAt_16 : decode b_B_placementAt 16 = .ok (.invokevirtual 205, 3) := by decide +kernel
theorem d_B_placementAt_19 : decode b_B_placementAt 19 = .ok (.checkcast 164, 3) := by decide +kernel
theorem d_B_placementAt_22 : decode b_B_placementAt 22 = .ok (.areturn, 1) := by decide +kernel
abbrev rm_B_placementAt : Room := { frames := 8, cells := 1, slots := 6, locals := 111 }
theorem ce_B_placementAt : gCe y_B_placementAt (.code y_B_placementAt b_B_placementAt 2 (some (.object "BodySolids$Placement"))) 2 1 false := gCe.code wd_685 wd_49 wd_684 (by decide) (by decide +kernel)
def f_B_placementAt (g0 : gG) (a0 : Nat) (p1 : Int32) (w : gW) : gX Nat := (gfA w a0 0 2).bind fun v1 => (gck w v1 1).bind fun _ => gbind (f_AL_size g0 v1 w) fun v7 w => gbind (f_B_needIndex g0 p1 v7 w) fun v10 w => (gfA w a0 0 2).bind fun v11 => (gck w v11 1).bind fun _ => gbind (f_AL_get g0 v11 p1 w) fun v17 w => (gck w v17 5).bind fun _ => some (.inr v17, w)
set_option maxHeartbeats 4000000 in
set_option maxRecDepth 100000 in
theorem m_B_placementAt (l : Launch) (hst : l.stackTraces = false) (D : gD) (g0 : gG) (a0 : Nat) (p1 : Int32) (w : gW) (r : (String ⊕ Nat) × gW) (h : f_B_placementAt g0 a0 p1 w = some r) : gMet l y_B_placementAt (.code y_B_placementAt b_B_placementAt 2 (some (.object "BodySolids$Placement"))) rm_B_placementAt D g0 [.ref a0, .int p1] w (goA r) := by
  refine gw_ofA (by decide +kernel) (Nat.le_of_ble_eq_true rfl) (Or.inl ⟨_, rfl⟩) ?_
  intro p e s m below meth c ls args A Q hx hb hml hown hlocks hin hnt hT hK hZ hA hret hexc hthr hI hl
  obtain ⟨H, hH⟩ : ∃ H, H = s.heap := ⟨_, rfl⟩
  rw [← hH] at hI ⊢
  obtain ⟨locs, hlocs⟩ : ∃ z : List Loc, z = [] := ⟨_, rfl⟩
  rw [← hlocs] at hI ⊢
  have hl : lv_has ls 2 [(0, .ref a0), (1, .int p1)] := hl
  unfold f_B_placementAt at h
  refine lv_iload_n hx hb d_B_placementAt_0 rfl (lv_at hl 1 rfl) ?_
  refine lv_aload_n hx hb d_B_placementAt_1 rfl (lv_at hl 0 rfl) ?_
  obtain ⟨v1, e2, h⟩ := gb h
  refine gw_getA hx hb hT hown hK hI (ci := 0) rfl i_0 2 (by decide) wd_191 (fun _ h9 => h9) e2 d_B_placementAt_2 ?_
  obtain ⟨q5, e6, h⟩ := gb h
  obtain ⟨u3, e4⟩ := gsome h
  refine gw_callI e4 h (gw_runV (As := []) (rest := [.int p1]) hx hb hml hown hT hK hZ hA hI (ci := 1) rfl e6 (m_AL_size l hst D g0 v1 w u3 e4) ce_AL_size wd_224 wd_226 ⟨by decide, by decide⟩ rfl rfl hl.1 rfl (lv_room (Nat.le_of_ble_eq_true rfl)) d_B_placementAt_5 ⟨(show 0 + 0 ≤ 1 by omega), (show 0 + 0 ≤ 6 by omega)⟩) hI hA hexc (show 0 + 0 ≤ 1 by omega) (show 0 + 0 ≤ 6 by omega) (fun v7 w H locs h hI => ?_)
  obtain ⟨u8, e9⟩ := gsome h
  refine gw_callV e9 h (gw_runS (As := [.int p1, .int v7]) (rest := []) hx hb hml hown hT hK hZ hA hI (m_B_needIndex l hst D g0 p1 v7 w u8 e9) ce_B_needIndex wd_440 ⟨by decide, by decide⟩ rfl rfl hl.1 rfl (lv_room (Nat.le_of_ble_eq_true rfl)) d_B_placementAt_8 ⟨(show 0 + 1 ≤ 1 by omega), (show 0 + 6 ≤ 6 by omega)⟩) hI hA hexc (show 0 + 1 ≤ 1 by omega) (show 0 + 6 ≤ 6 by omega) (fun v10 w H locs h hI => ?_)
  refine W.widen (k := 1) (n := 6) (show 0 + 1 ≤ 1 by omega) (show 0 + 6 ≤ 6 by omega) ?_
  refine lv_aload_n hx hb d_B_placementAt_11 rfl (lv_at hl 0 rfl) ?_
  obtain ⟨v11, e12, h⟩ := gb h
  refine gw_getA hx hb hT hown hK hI (ci := 0) rfl i_0 2 (by decide) wd_191 (fun _ h9 => h9) e12 d_B_placementAt_12 ?_
  refine lv_iload_n hx hb d_B_placementAt_15 rfl (lv_at hl 1 rfl) ?_
  obtain ⟨q15, e16, h⟩ := gb h
  obtain ⟨u13, e14⟩ := gsome h
  refine gw_callA e14 h (gw_runV (As := [.int p1]) (rest := []) hx hb hml hown hT hK hZ hA hI (ci := 1) rfl e16 (m_AL_get l hst D g0 v11 p1 w u13 e14) ce_AL_get wd_321 wd_323 ⟨by decide, by decide⟩ rfl rfl hl.1 rfl (lv_room (Nat.le_of_ble_eq_true rfl)) d_B_placementAt_16 ⟨(show 1 + 0 ≤ 1 by omega), (show 6 + 0 ≤ 6 by omega)⟩) hI hA hexc (show 1 + 0 ≤ 1 by omega) (show 6 + 0 ≤ 6 by omega) (fun v17 w H locs h hI => ?_)
  obtain ⟨q19, e18, h⟩ := gb h
  refine gw_cast hx hb hT hown hK hI wd_335 (ci := 5) rfl wd_1123 e18 d_B_placementAt_19 ?_
  exact W.widen (show 1 ≤ 1 by omega) (show 6 ≤ 6 by omega) (hret _ _ (Option.some.inj h).symm _ _ _ _ d_B_placementAt_22 hI)

abbrev b_Pl_isAt : ByteArray := prog_6_method_2_code
def y_Pl_isAt : MethodName := ⟨"BodySolids$Placement", "isAt", "(JJII)Z"⟩
theorem d_Pl_isAt_0 : decode b_Pl_isAt 0 = .ok (.aload_n 0, 1) := by decide +kernel
theorem d_Pl_isAt_1 : decode b_Pl_isAt 1 = .ok (.getfield 13, 3) := by decide +kernel
theorem d_Pl_isAt_4 : decode b_Pl_isAt 4 = .ok (.lload_n 1, 1) := by decide +kernel
theorem d_Pl_isAt_5 : decode b_Pl_isAt 5 = .ok (.lcmp, 1) := by decide +kernel
theorem d_Pl_isAt_6 : decode b_Pl_isAt 6 = .ok (.ifCond .ne 34, 3) := by decide +kernel
theorem d_Pl_isAt_9 : decode b_Pl_isAt 9 = .ok (.aload_n 0, 1) := by decide +kernel
theorem d_Pl_isAt_10 : decode b_Pl_isAt 10 = .ok (.getfield 17, 3) := by decide +kernel
theorem d_Pl_isAt_13 : decode b_Pl_isAt 13 = .ok (.lload_n 3, 1) := by decide +kernel
theorem d_Pl_isAt_14 : decode b_Pl_isAt 14 = .ok (.lcmp, 1) := by decide +kernel
theorem d_Pl_isAt_15 : decode b_Pl_isAt 15 = .ok (.ifCond .ne 25, 3) := by decide +kernel
theorem d_Pl_isAt_18 : decode b_Pl_isAt 18 = .ok (.aload_n 0, 1) := by decide +kernel
theorem d_Pl_isAt_19 : decode b_Pl_isAt 19 = .ok (.getfield 20, 3) := by decide +kernel
theorem d_Pl_isAt_22 : decode b_Pl_isAt 22 = .ok (.iload 5, 2) := by decide +kernel
theorem d_Pl_isAt_24 : decode b_Pl_isAt 24 = .ok (.if_icmp .ne 16, 3) := by decide +kernel
theorem d_Pl_isAt_27 : decode b_Pl_isAt 27 = .ok (.aload_n 0, 1) := by decide +kernel
theorem d_Pl_isAt_28 : decode b_Pl_isAt 28 = .ok (.getfield 24, 3) := by decide +kernel
theorem d_Pl_isAt_31 : decode b_Pl_isAt 31 = .ok (.iload 6, 2) := by decide +kernel
theorem d_Pl_isAt_33 : decode b_Pl_isAt 33 = .ok (.if_icmp .ne 7, 3) := by decide +kernel
theorem d_Pl_isAt_36 : decode b_Pl_isAt 36 = .ok (.iconst 1, 1) := by decide +kernel
theorem d_Pl_isAt_37 : decode b_Pl_isAt 37 = .ok (.goto 4, 3) := by decide +kernel
theorem d_Pl_isAt_40 : decode b_Pl_isAt 40 = .ok (.iconst 0, 1) := by decide +kernel
theorem d_Pl_isAt_41 : decode b_Pl_isAt 41 = .ok (.ireturn, 1) := by decide +kernel
abbrev rm_Pl_isAt : Room := { frames := 0, cells := 0, slots := 0, locals := 0 }
theorem ce_Pl_isAt : gCe y_Pl_isAt (.code y_Pl_isAt b_Pl_isAt 7 (some .boolean)) 7 4 false := gCe.code wd_689 wd_68 wd_687 (by decide) (by decide +kernel)
def f_Pl_isAt (g0 : gG) (a0 : Nat) (p1 : Int64) (p2 : Int64) (p3 : Int32) (p4 : Int32) (w : gW) : gX Int32 := (gfJ w a0 5 1).bind fun v1 => gjoin (fun K41 => gjoin (fun K40 => if v1 = p1 then ((gfJ w a0 5 2).bind fun v6 => if v6 = p2 then ((gfI w a0 5 3).bind fun v9 => if v9 = p3 then ((gfI w a0 5 4).bind fun v12 => if v12 = p4 then (K41 1 w) else (K40 w)) else (K40 w)) else (K40 w)) else (K40 w)) (fun (w : gW) => K41 0 w)) (fun (y3 : Int32) (w : gW) => gguard (y3 = 0 ∨ y3 = 1) (some (.inr y3, w)))
set_option maxHeartbeats 4000000 in
set_option maxRecDepth 100000 in
theorem m_Pl_isAt (l : Launch) (hst : l.stackTraces = false) (D : gD) (g0 : gG) (a0 : Nat) (p1 : Int64) (p2 : Int64) (p3 : Int32) (p4 : Int32) (w : gW) (r : (String ⊕ Int32) × gW) (h : f_Pl_isAt g0 a0 p1 p2 p3 p4 w = some r) : gMet l y_Pl_isAt (.code y_Pl_isAt b_Pl_isAt 7 (some .boolean)) rm_Pl_isAt D g0 [.ref a0, .long p1, .long p2, .int p3, .int p4] w (goI r) := by
  refine gw_ofZ (by decide +kernel) (Nat.le_of_ble_eq_true rfl) ?_
  intro p e s m below meth c ls args A Q hx hb hml hown hlocks hin hnt hT hK hZ hA hret hexc hthr hI hl
  obtain ⟨H, hH⟩ : ∃ H, H = s.heap := ⟨_, rfl⟩
  rw [← hH] at hI ⊢
  obtain ⟨locs, hlocs⟩ : ∃ z : List Loc, z = [] := ⟨_, rfl⟩
  rw [← hlocs] at hI ⊢
  have hl : lv_has ls 7 [(0, .ref a0), (1, .long p1), (3, .long p2), (5, .int p3), (6, .int p4)] := hl
  unfold f_Pl_isAt at h
  refine lv_aload_n hx hb d_Pl_isAt_0 rfl (lv_at hl 0 rfl) ?_
  obtain ⟨v1, e2, h⟩ := gb h
  refine gw_getJ hx hb hT hown hK hI (ci := 5) rfl i_5 1 (by decide) wd_654 (fun _ h9 => h9) e2 d_Pl_isAt_1 ?_
  refine lv_lload_n hx hb d_Pl_isAt_4 rfl (lv_at hl 1 rfl) ?_
  refine W.lcmp hx hb d_Pl_isAt_5 ?_
  obtain ⟨K41, eK41, h⟩ := gj h
  have hK41 : ∀ (y3 : Int32) (w : gW) (H : Heap) (locs : List Loc) (ls : Array Slot), K41 y3 w = some r → gI D s A w H locs → lv_has ls 7 [] → W p l e rm_Pl_isAt s m args below meth c H locs 0 0 Q (F0 m 41 ls [.int y3]) := by
    intro y3 w H locs ls h hI hl
    have h := gk2 eK41 h
    obtain ⟨g4, h⟩ := gif h
    exact W.widen (show 0 ≤ 0 by omega) (show 0 ≤ 0 by omega) (hret g4 0 _ (Option.some.inj h).symm _ _ _ _ d_Pl_isAt_41 hI)
  obtain ⟨K40, eK40, h⟩ := gj h
  have hK40 : ∀ (w : gW) (H : Heap) (locs : List Loc) (ls : Array Slot), K40 w = some r → gI D s A w H locs → lv_has ls 7 [] → W p l e rm_Pl_isAt s m args below meth c H locs 0 0 Q (F0 m 40 ls []) := by
    intro w H locs ls h hI hl
    have h := gk1 eK40 h
    refine lv_iconst (v := 0) hx hb d_Pl_isAt_40 (by decide) ?_
    exact hK41 _ w H locs ls h hI (lv_sub hl [] rfl)
  refine lv_if_ne (tgt := 40) hx hb d_Pl_isAt_6 (by decide) (fun c5 => ?_) (fun c5 => ?_)
  · have c5 := mt (lg_cmp_eq _ _).mpr c5
    have h := gie c5 h
    exact hK40 w H locs ls h hI (lv_sub hl [] rfl)
  · have c5 := (lg_cmp_eq _ _).mp c5
    have h := git c5 h
    refine lv_aload_n hx hb d_Pl_isAt_9 rfl (lv_at hl 0 rfl) ?_
    obtain ⟨v6, e7, h⟩ := gb h
    refine gw_getJ hx hb hT hown hK hI (ci := 5) rfl i_5 2 (by decide) wd_655 (fun _ h9 => h9) e7 d_Pl_isAt_10 ?_
    refine lv_lload_n hx hb d_Pl_isAt_13 rfl (lv_at hl 2 rfl) ?_
    refine W.lcmp hx hb d_Pl_isAt_14 ?_
    refine lv_if_ne (tgt := 40) hx hb d_Pl_isAt_15 (by decide) (fun c8 => ?_) (fun c8 => ?_)
    · have c8 := mt (lg_cmp_eq _ _).mpr c8
      have h := gie c8 h
      exact hK40 w H locs ls h hI (lv_sub hl [] rfl)
    · have c8 := (lg_cmp_eq _ _).mp c8
      have h := git c8 h
      refine lv_aload_n hx hb d_Pl_isAt_18 rfl (lv_at hl 0 rfl) ?_
      obtain ⟨v9, e10, h⟩ := gb h
      refine gw_getI hx hb hT hown hK hI (ci := 5) rfl i_5 3 (by decide) wd_656 (fun _ h9 => h9) e10 d_Pl_isAt_19 ?_
      refine lv_iload hx hb d_Pl_isAt_22 (lv_at hl 3 rfl) ?_
      refine lv_icmp_ne (tgt := 40) hx hb d_Pl_isAt_24 (by decide) (fun c11 => ?_) (fun c11 => ?_)
      · skip
        have h := gie c11 h
        exact hK40 w H locs ls h hI (lv_sub hl [] rfl)
      · skip
        have h := git c11 h
        refine lv_aload_n hx hb d_Pl_isAt_27 rfl (lv_at hl 0 rfl) ?_
        obtain ⟨v12, e13, h⟩ := gb h
        refine gw_getI hx hb hT hown hK hI (ci := 5) rfl i_5 4 (by decide) wd_657 (fun _ h9 => h9) e13 d_Pl_isAt_28 ?_
        refine lv_iload hx hb d_Pl_isAt_31 (lv_at hl 4 rfl) ?_
        refine lv_icmp_ne (tgt := 40) hx hb d_Pl_isAt_33 (by decide) (fun c14 => ?_) (fun c14 => ?_)
        · skip
          have h := gie c14 h
          exact hK40 w H locs ls h hI (lv_sub hl [] rfl)
        · skip
          have h := git c14 h
          refine lv_iconst (v := 1) hx hb d_Pl_isAt_36 (by decide) ?_
          refine lv_goto (tgt := 41) hx hb d_Pl_isAt_37 (by decide) ?_
          exact hK41 _ w H locs ls h hI (lv_sub hl [] rfl)

abbrev b_B_move : ByteArray := prog_1_method_10_code
def y_B_move : MethodName := ⟨"BodySolids", "move", "(IJJII)Z"⟩
theorem d_B_move_0 : decode b_B_move 0 = .ok (.aload_n 0, 1) := by decide +kernel
theorem d_B_move_1 : decode b_B_move 1 = .ok (.iload_n 1, 1) := by decide +kernel
theorem d_B_move_2 : decode b_B_move 2 = .ok (.invokevirtual 174, 3) := by decide +kernel
theorem d_B_move_5 : decode b_B_move 5 = .ok (.astore 8, 2) := by decide +kernel
theorem d_B_move_7 : decode b_B_move 7 = .ok (.lload_n 2, 1) := by decide +kernel
theorem d_B_move_8 : decode b_B_move 8 = .ok (.lload 4, 2) := by decide +kernel
theorem d_B_move_10 : decode b_B_move 10 = .ok (.iload 6, 2) := by decide +kernel
theorem d_B_move_12 : decode b_B_move 12 = .ok (.iload 7, 2) := by decide +kernel
theorem d_B_move_14 : decode b_B_move 14 = .ok (.invokestatic 160, 3) := by decide +kernel
theorem d_B_move_17 : decode b_B_move 17 = .ok (.aload 8, 2) := by decide +kernel
theorem d_B_move_19 : decode b_B_move 19 = .ok (.lload_n 2, 1) := by decide +kernel
theorem d_B_move_20 : decode b_B_move 20 = .ok (.lload 4, 2) := by decide +kernel
theorem d_B_move_22 : decode b_B_move 22 = .ok (.iload 6, 2) := by decide +kernel
theorem d_B_move_24 : decode b_B_move 24 = .ok (.iload 7, 2) := by decide +kernel
theorem d_B_move_26 : decode b_B_move 26 = .ok (.invokevirtual 178, 3) := by decide +kernel
theorem d_B_move_29 : decode b_B_move 29 = .ok (.ifCond .eq 5, 3) := by decide +kernel
theorem d_B_move_32 : decode b_B_move 32 = .ok (.iconst 0, 1) := by decide +kernel
theorem d_B_move_33 : decode b_B_move 33 = .ok (.ireturn, 1) := by decide +kernel
theorem d_B_move_34 : decode b_B_move 34 = .ok (.aload 8, 2) := by decide +kernel
theorem d_B_move_36 : decode b_B_move 36 = .ok (.lload_n 2, 1) := by decide +kernel
theorem d_B_move_37 : decode b_B_move 37 = .ok (.lload 4, 2) := by decide +kernel
theorem d_B_move_39 : decode b_B_move 39 = .ok (.iload 6, 2) := by decide +kernel
theorem d_B_move_41 : decode b_B_move 41 = .ok (.iload 7, 2) := by decide +kernel
theorem d_B_move_43 : decode b_B_move 43 = .ok (.invokevirtual 168, 3) := by decide +kernel
theorem d_B_move_46 : decode b_B_move 46 = .ok (.aload_n 0, 1) := by decide +kernel
theorem d_B_move_47 : decode b_B_move 47 = .ok (.iload_n 1, 1) := by decide +kernel
theorem d_B_move_48 : decode b_B_move 48 = .ok (.invokevirtual 182, 3) := by decide +kernel
theorem d_B_move_51 : decode b_B_move 51 = .ok (.iconst 1, 1) := by decide +kernel
theorem d_B_move_52 : decode b_B_move 52 = .ok (.ireturn, 1) := by decide +kernel
abbrev rm_B_move : Room := { frames := 9, cells := 5, slots := 30, locals := 140 }
theorem ce_B_move : gCe y_B_move (.code y_B_move b_B_move 9 (some .boolean)) 9 5 false := gCe.code wd_681 wd_49 wd_679 (by decide) (by decide +kernel)
def f_B_move (g0 : gG) (a0 : Nat) (p1 : Int32) (p2 : Int64) (p3 : Int64) (p4 : Int32) (p5 : Int32) (w : gW) : gX Int32 := (gck w a0 0).bind fun _ => gbind (f_B_placementAt g0 a0 p1 w) fun v5 w => gbind (f_B_needPosition g0 p2 p3 p4 p5 w) fun v8 w => (gck w v5 5).bind fun _ => gbind (f_Pl_isAt g0 v5 p2 p3 p4 p5 w) fun v13 w => if v13 = 0 then ((gck w v5 5).bind fun _ => gbind (f_Pl_goTo g0 v5 p2 p3 p4 p5 w) fun v19 w => (gck w a0 0).bind fun _ => gbind (f_B_forgetRelationsAt g0 a0 p1 w) fun v24 w => gguard ((1 : Int32) = 0 ∨ (1 : Int32) = 1) (some (.inr 1, w))) else (gguard ((0 : Int32) = 0 ∨ (0 : Int32) = 1) (some (.inr 0, w)))
set_option maxHeartbeats 4000000 in
set_option maxRecDepth 100000 in
theorem m_B_move (l : Launch) (hst : l.stackTraces = false) (D : gD) (g0 : gG) (a0 : Nat) (p1 : Int32) (p2 : Int64) (p3 : Int64) (p4 : Int32) (p5 : Int32) (w : gW) (r : (String ⊕ Int32) × gW) (h : f_B_move g0 a0 p1 p2 p3 p4 p5 w = some r) : gMet l y_B_move (.code y_B_move b_B_move 9 (some .boolean)) rm_B_move D g0 [.ref a0, .int p1, .long p2, .long p3, .int p4, .int p5] w (goI r) := by
  refine gw_ofZ (by decide +kernel) (Nat.le_of_ble_eq_true rfl) ?_
  intro p e s m below meth c ls args A Q hx hb hml hown hlocks hin hnt hT hK hZ hA hret hexc hthr hI hl
  obtain ⟨H, hH⟩ : ∃ H, H = s.heap := ⟨_, rfl⟩
  rw [← hH] at hI ⊢
  obtain ⟨locs, hlocs⟩ : ∃ z : List Loc, z = [] := ⟨_, rfl⟩
  rw [← hlocs] at hI ⊢
  have hl : lv_has ls 9 [(0, .ref a0), (1, .int p1), (2, .long p2), (4, .long p3), (6, .int p4), (7, .int p5)] := hl
  unfold f_B_move at h
  refine lv_aload_n hx hb d_B_move_0 rfl (lv_at hl 0 rfl) ?_
  refine lv_iload_n hx hb d_B_move_1 rfl (lv_at hl 1 rfl) ?_
  obtain ⟨q3, e4, h⟩ := gb h
  obtain ⟨u1, e2⟩ := gsome h
  refine gw_callA e2 h (gw_runV (As := [.int p1]) (rest := []) hx hb hml hown hT hK hZ hA hI (ci := 0) rfl e4 (m_B_placementAt l hst D g0 a0 p1 w u1 e2) ce_B_placementAt wd_682 wd_15 ⟨by decide, by decide⟩ rfl rfl hl.1 rfl (lv_room (Nat.le_of_ble_eq_true rfl)) d_B_move_2 ⟨(show 0 + 1 ≤ 5 by omega), (show 0 + 6 ≤ 30 by omega)⟩) hI hA hexc (show 0 + 1 ≤ 5 by omega) (show 0 + 6 ≤ 30 by omega) (fun v5 w H locs h hI => ?_)
  refine W.widen (k := 1) (n := 6) (show 0 + 1 ≤ 1 by omega) (show 0 + 6 ≤ 6 by omega) ?_
  refine lv_astore (lv' := [(8, .ref v5), (0, .ref a0), (1, .int p1), (2, .long p2), (4, .long p3), (6, .int p4), (7, .int p5)]) hx hb d_B_move_5 hl (by decide) rfl (fun ls hl => ?_)
  refine lv_lload_n hx hb d_B_move_7 rfl (lv_at hl 3 rfl) ?_
  refine lv_lload hx hb d_B_move_8 (lv_at hl 4 rfl) ?_
  refine lv_iload hx hb d_B_move_10 (lv_at hl 5 rfl) ?_
  refine lv_iload hx hb d_B_move_12 (lv_at hl 6 rfl) ?_
  obtain ⟨u6, e7⟩ := gsome h
  refine gw_callV e7 h (gw_runS (As := [.long p2, .long p3, .int p4, .int p5]) (rest := []) hx hb hml hown hT hK hZ hA hI (m_B_needPosition l hst D g0 p2 p3 p4 p5 w u6 e7) ce_B_needPosition wd_642 ⟨by decide, by decide⟩ rfl rfl hl.1 rfl (lv_room (Nat.le_of_ble_eq_true rfl)) d_B_move_14 ⟨(show 1 + 4 ≤ 5 by omega), (show 6 + 24 ≤ 30 by omega)⟩) hI hA hexc (show 1 + 4 ≤ 5 by omega) (show 6 + 24 ≤ 30 by omega) (fun v8 w H locs h hI => ?_)
  refine W.widen (k := 5) (n := 30) (show 1 + 4 ≤ 5 by omega) (show 6 + 24 ≤ 30 by omega) ?_
  refine lv_aload hx hb d_B_move_17 (lv_at hl 0 rfl) ?_
  refine lv_lload_n hx hb d_B_move_19 rfl (lv_at hl 3 rfl) ?_
  refine lv_lload hx hb d_B_move_20 (lv_at hl 4 rfl) ?_
  refine lv_iload hx hb d_B_move_22 (lv_at hl 5 rfl) ?_
  refine lv_iload hx hb d_B_move_24 (lv_at hl 6 rfl) ?_
  obtain ⟨q11, e12, h⟩ := gb h
  obtain ⟨u9, e10⟩ := gsome h
  refine gw_callI e10 h (gw_runV (As := [.long p2, .long p3, .int p4, .int p5]) (rest := []) hx hb hml hown hT hK hZ hA hI (ci := 5) rfl e12 (m_Pl_isAt l hst D g0 v5 p2 p3 p4 p5 w u9 e10) ce_Pl_isAt wd_686 wd_688 ⟨by decide, by decide⟩ rfl rfl hl.1 rfl (lv_room (Nat.le_of_ble_eq_true rfl)) d_B_move_26 ⟨(show 5 + 0 ≤ 5 by omega), (show 30 + 0 ≤ 30 by omega)⟩) hI hA hexc (show 5 + 0 ≤ 5 by omega) (show 30 + 0 ≤ 30 by omega) (fun v13 w H locs h hI => ?_)
  refine lv_if_eq (tgt := 34) hx hb d_B_move_29 (by decide) (fun c14 => ?_) (fun c14 => ?_)
  · skip
    have h := git c14 h
    refine lv_aload hx hb d_B_move_34 (lv_at hl 0 rfl) ?_
    refine lv_lload_n hx hb d_B_move_36 rfl (lv_at hl 3 rfl) ?_
    refine lv_lload hx hb d_B_move_37 (lv_at hl 4 rfl) ?_
    refine lv_iload hx hb d_B_move_39 (lv_at hl 5 rfl) ?_
    refine lv_iload hx hb d_B_move_41 (lv_at hl 6 rfl) ?_
    obtain ⟨q17, e18, h⟩ := gb h
    obtain ⟨u15, e16⟩ := gsome h
    refine gw_callV e16 h (gw_runV (As := [.long p2, .long p3, .int p4, .int p5]) (rest := []) hx hb hml hown hT hK hZ hA hI (ci := 5) rfl e18 (m_Pl_goTo l hst D g0 v5 p2 p3 p4 p5 w u15 e16) ce_Pl_goTo wd_671 wd_673 ⟨by decide, by decide⟩ rfl rfl hl.1 rfl (lv_room (Nat.le_of_ble_eq_true rfl)) d_B_move_43 ⟨(show 5 + 0 ≤ 5 by omega), (show 30 + 0 ≤ 30 by omega)⟩) hI hA hexc (show 5 + 0 ≤ 5 by omega) (show 30 + 0 ≤ 30 by omega) (fun v19 w H locs h hI => ?_)
    refine lv_aload_n hx hb d_B_move_46 rfl (lv_at hl 1 rfl) ?_
    refine lv_iload_n hx hb d_B_move_47 rfl (lv_at hl 2 rfl) ?_
    obtain ⟨q22, e23, h⟩ := gb h
    obtain ⟨u20, e21⟩ := gsome h
    refine gw_callV e21 h (gw_runV (As := [.int p1]) (rest := []) hx hb hml hown hT hK hZ hA hI (ci := 0) rfl e23 (m_B_forgetRelationsAt l hst D g0 a0 p1 w u20 e21) ce_B_forgetRelationsAt wd_564 wd_10 ⟨by decide, by decide⟩ rfl rfl hl.1 rfl (lv_room (Nat.le_of_ble_eq_true rfl)) d_B_move_48 ⟨(show 5 + 0 ≤ 5 by omega), (show 30 + 0 ≤ 30 by omega)⟩) hI hA hexc (show 5 + 0 ≤ 5 by omega) (show 30 + 0 ≤ 30 by omega) (fun v24 w H locs h hI => ?_)
    refine lv_iconst (v := 1) hx hb d_B_move_51 (by decide) ?_
    obtain ⟨g25, h⟩ := gif h
    exact W.widen (show 5 ≤ 5 by omega) (show 30 ≤ 30 by omega) (hret g25 0 _ (Option.some.inj h).symm _ _ _ _ d_B_move_52 hI)
  · skip
    have h := gie c14 h
    refine lv_iconst (v := 0) hx hb d_B_move_32 (by decide) ?_
    obtain ⟨g26, h⟩ := gif h
    exact W.widen (show 5 ≤ 5 by omega) (show 30 ≤ 30 by omega) (hret g26 0 _ (Option.some.inj h).symm _ _ _ _ d_B_move_33 hI)
