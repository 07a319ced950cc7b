abbrev b_M_isSpot : ByteArray := prog_9_method_22_code
def y_M_isSpot : MethodName := ⟨"BodySolidsModel", "isSpot", "(JJII)Z"⟩
theorem d_M_isSpot_0 : decode b_M_isSpot 0 = .ok (.lload_n 0, 1) := by decide +kernel
theorem d_M_isSpot_1 : decode b_M_isSpot 1 = .ok (.ldc2_w 134, 3) := by decide +kernel
theorem d_M_isSpot_4 : decode b_M_isSpot 4 = .ok (.ldc2_w 136, 3) := by decide +kernel
theorem d_M_isSpot_7 : decode b_M_isSpot 7 = .ok (.invokestatic 88, 3) := by decide +kernel
theorem d_M_isSpot_10 : decode b_M_isSpot 10 = .ok (.ifCond .eq 42, 3) := by decide +kernel
theorem d_M_isSpot_13 : decode b_M_isSpot 13 = .ok (.lload_n 2, 1) := by decide +kernel
theorem d_M_isSpot_14 : decode b_M_isSpot 14 = .ok (.ldc2_w 134, 3) := by decide +kernel
theorem d_M_isSpot_17 : decode b_M_isSpot 17 = .ok (.ldc2_w 136, 3) := by decide +kernel
theorem d_M_isSpot_20 : decode b_M_isSpot 20 = .ok (.invokestatic 88, 3) := by decide +kernel
theorem d_M_isSpot_23 : decode b_M_isSpot 23 = .ok (.ifCond .eq 29, 3) := by decide +kernel
theorem d_M_isSpot_26 : decode b_M_isSpot 26 = .ok (.iload 4, 2) := by decide +kernel
theorem d_M_isSpot_28 : decode b_M_isSpot 28 = .ok (.ifCond .lt 24, 3) := by decide +kernel
theorem d_M_isSpot_31 : decode b_M_isSpot 31 = .ok (.iload 4, 2) := by decide +kernel
theorem d_M_isSpot_33 : decode b_M_isSpot 33 = .ok (.iconst 4, 1) := by decide +kernel
theorem d_M_isSpot_34 : decode b_M_isSpot 34 = .ok (.if_icmp .ge 18, 3) := by decide +kernel
theorem d_M_isSpot_37 : decode b_M_isSpot 37 = .ok (.iload 5, 2) := by decide +kernel
theorem d_M_isSpot_39 : decode b_M_isSpot 39 = .ok (.ifCond .eq 9, 3) := by decide +kernel
theorem d_M_isSpot_42 : decode b_M_isSpot 42 = .ok (.iload 5, 2) := by decide +kernel
theorem d_M_isSpot_44 : decode b_M_isSpot 44 = .ok (.iconst 1, 1) := by decide +kernel
theorem d_M_isSpot_45 : decode b_M_isSpot 45 = .ok (.if_icmp .ne 7, 3) := by decide +kernel
theorem d_M_isSpot_48 : decode b_M_isSpot 48 = .ok (.iconst 1, 1) := by decide +kernel
theorem d_M_isSpot_49 : decode b_M_isSpot 49 = .ok (.goto 4, 3) := by decide +kernel
theorem d_M_isSpot_52 : decode b_M_isSpot 52 = .ok (.iconst 0, 1) := by decide +kernel
theorem d_M_isSpot_53 : decode b_M_isSpot 53 = .ok (.ireturn, 1) := by decide +kernel
abbrev rm_M_isSpot : Room := { frames := 1, cells := 0, slots := 0, locals := 25 }
theorem ce_M_isSpot : gCe y_M_isSpot (.code y_M_isSpot b_M_isSpot 6 (some .boolean)) 6 4 true := gCe.code wd_946 wd_57 wd_945 (by decide) (by decide +kernel)
def f_M_isSpot (g0 : gG) (p0 : Int64) (p1 : Int64) (p2 : Int32) (p3 : Int32) (w : gW) : gX Int32 := gbind (f_M_within g0 p0 (-10000) 10000 w) fun v3 w => gjoin (fun K53 => gjoin (fun K52 => if v3 = 0 then (K52 w) else (gbind (f_M_within g0 p1 (-10000) 10000 w) fun v9 w => if v9 = 0 then (K52 w) else (if p2 < 0 then (K52 w) else (if 4 ≤ p2 then (K52 w) else (gjoin (fun K48 => if p3 = 0 then (K48 w) else (if p3 = 1 then (K48 w) else (K52 w))) (fun (w : gW) => K53 1 w)))))) (fun (w : gW) => K53 0 w)) (fun (y4 : Int32) (w : gW) => gguard (y4 = 0 ∨ y4 = 1) (some (.inr y4, w)))
set_option maxHeartbeats 4000000 in
set_option maxRecDepth 100000 in
theorem m_M_isSpot (l : Launch) (hst : l.stackTraces = false) (D : gD) (g0 : gG) (p0 : Int64) (p1 : Int64) (p2 : Int32) (p3 : Int32) (w : gW) (r : (String ⊕ Int32) × gW) (h : f_M_isSpot g0 p0 p1 p2 p3 w = some r) : gMet l y_M_isSpot (.code y_M_isSpot b_M_isSpot 6 (some .boolean)) rm_M_isSpot D g0 [.long p0, .long p1, .int p2, .int p3] w (goI r) := by
  refine gw_ofZ (by decide +kernel) (Nat.le_of_ble_eq_true rfl) ?_
  intro p e s m below meth c ls args A Q hx hb hml hown hlocks hin hnt hT hK hZ hA hret hexc hthr hI hl
  obtain ⟨H, hH⟩ : ∃ H, H = s.heap := ⟨_, rfl⟩
  rw [← hH] at hI ⊢
  obtain ⟨locs, hlocs⟩ : ∃ z : List Loc, z = [] := ⟨_, rfl⟩
  rw [← hlocs] at hI ⊢
  have hl : lv_has ls 6 [(0, .long p0), (2, .long p1), (4, .int p2), (5, .int p3)] := hl
  unfold f_M_isSpot at h
  refine lv_lload_n hx hb d_M_isSpot_0 rfl (lv_at hl 0 rfl) ?_
  refine lv_ldc2 (v := (-10000)) hx hb hown (hT _ wd_930 args) d_M_isSpot_1 ?_
  refine lv_ldc2 (v := 10000) hx hb hown (hT _ wd_931 args) d_M_isSpot_4 ?_
  obtain ⟨u1, e2⟩ := gsome h
  refine gw_callI e2 h (gw_runS (As := [.long p0, .long (-10000), .long 10000]) (rest := []) hx hb hml hown hT hK hZ hA hI (m_M_within l hst D g0 p0 (-10000) 10000 w u1 e2) ce_M_within wd_885 ⟨by decide, by decide⟩ rfl rfl hl.1 rfl (lv_room (Nat.le_of_ble_eq_true rfl)) d_M_isSpot_7 ⟨(show 0 + 0 ≤ 0 by omega), (show 0 + 0 ≤ 0 by omega)⟩) hI hA hexc (show 0 + 0 ≤ 0 by omega) (show 0 + 0 ≤ 0 by omega) (fun v3 w H locs h hI => ?_)
  obtain ⟨K53, eK53, h⟩ := gj h
  have hK53 : ∀ (y4 : Int32) (w : gW) (H : Heap) (locs : List Loc) (ls : Array Slot), K53 y4 w = some r → gI D s A w H locs → lv_has ls 6 [] → W p l e rm_M_isSpot s m args below meth c H locs 0 0 Q (F0 m 53 ls [.int y4]) := by
    intro y4 w H locs ls h hI hl
    have h := gk2 eK53 h
    obtain ⟨g5, h⟩ := gif h
    exact W.widen (show 0 ≤ 0 by omega) (show 0 ≤ 0 by omega) (hret g5 0 _ (Option.some.inj h).symm _ _ _ _ d_M_isSpot_53 hI)
  obtain ⟨K52, eK52, h⟩ := gj h
  have hK52 : ∀ (w : gW) (H : Heap) (locs : List Loc) (ls : Array Slot), K52 w = some r → gI D s A w H locs → lv_has ls 6 [] → W p l e rm_M_isSpot s m args below meth c H locs 0 0 Q (F0 m 52 ls []) := by
    intro w H locs ls h hI hl
    have h := gk1 eK52 h
    refine lv_iconst (v := 0) hx hb d_M_isSpot_52 (by decide) ?_
    exact hK53 _ w H locs ls h hI (lv_sub hl [] rfl)
  refine lv_if_eq (tgt := 52) hx hb d_M_isSpot_10 (by decide) (fun c6 => ?_) (fun c6 => ?_)
  · skip
    have h := git c6 h
    exact hK52 w H locs ls h hI (lv_sub hl [] rfl)
  · skip
    have h := gie c6 h
    refine lv_lload_n hx hb d_M_isSpot_13 rfl (lv_at hl 1 rfl) ?_
    refine lv_ldc2 (v := (-10000)) hx hb hown (hT _ wd_930 args) d_M_isSpot_14 ?_
    refine lv_ldc2 (v := 10000) hx hb hown (hT _ wd_931 args) d_M_isSpot_17 ?_
    obtain ⟨u7, e8⟩ := gsome h
    refine gw_callI e8 h (gw_runS (As := [.long p1, .long (-10000), .long 10000]) (rest := []) hx hb hml hown hT hK hZ hA hI (m_M_within l hst D g0 p1 (-10000) 10000 w u7 e8) ce_M_within wd_885 ⟨by decide, by decide⟩ rfl rfl hl.1 rfl (lv_room (Nat.le_of_ble_eq_true rfl)) d_M_isSpot_20 ⟨(show 0 + 0 ≤ 0 by omega), (show 0 + 0 ≤ 0 by omega)⟩) hI hA hexc (show 0 + 0 ≤ 0 by omega) (show 0 + 0 ≤ 0 by omega) (fun v9 w H locs h hI => ?_)
    refine lv_if_eq (tgt := 52) hx hb d_M_isSpot_23 (by decide) (fun c10 => ?_) (fun c10 => ?_)
    · skip
      have h := git c10 h
      exact hK52 w H locs ls h hI (lv_sub hl [] rfl)
    · skip
      have h := gie c10 h
      refine lv_iload hx hb d_M_isSpot_26 (lv_at hl 2 rfl) ?_
      refine lv_if_lt (tgt := 52) hx hb d_M_isSpot_28 (by decide) (fun c11 => ?_) (fun c11 => ?_)
      · skip
        have h := git c11 h
        exact hK52 w H locs ls h hI (lv_sub hl [] rfl)
      · skip
        have h := gie c11 h
        refine lv_iload hx hb d_M_isSpot_31 (lv_at hl 2 rfl) ?_
        refine lv_iconst (v := 4) hx hb d_M_isSpot_33 (by decide) ?_
        refine lv_icmp_ge (tgt := 52) hx hb d_M_isSpot_34 (by decide) (fun c12 => ?_) (fun c12 => ?_)
        · skip
          have h := git c12 h
          exact hK52 w H locs ls h hI (lv_sub hl [] rfl)
        · skip
          have h := gie c12 h
          refine lv_iload hx hb d_M_isSpot_37 (lv_at hl 3 rfl) ?_
          obtain ⟨K48, eK48, h⟩ := gj h
          have hK48 : ∀ (w : gW) (H : Heap) (locs : List Loc) (ls : Array Slot), K48 w = some r → gI D s A w H locs → lv_has ls 6 [] → W p l e rm_M_isSpot s m args below meth c H locs 0 0 Q (F0 m 48 ls []) := by
            intro w H locs ls h hI hl
            have h := gk1 eK48 h
            refine lv_iconst (v := 1) hx hb d_M_isSpot_48 (by decide) ?_
            refine lv_goto (tgt := 53) hx hb d_M_isSpot_49 (by decide) ?_
            exact hK53 _ w H locs ls h hI (lv_sub hl [] rfl)
          refine lv_if_eq (tgt := 48) hx hb d_M_isSpot_39 (by decide) (fun c13 => ?_) (fun c13 => ?_)
          · skip
            have h := git c13 h
            exact hK48 w H locs ls h hI (lv_sub hl [] rfl)
          · skip
            have h := gie c13 h
            refine lv_iload hx hb d_M_isSpot_42 (lv_at hl 3 rfl) ?_
            refine lv_iconst (v := 1) hx hb d_M_isSpot_44 (by decide) ?_
            refine lv_icmp_ne (tgt := 52) hx hb d_M_isSpot_45 (by decide) (fun c14 => ?_) (fun c14 => ?_)
            · skip
              have h := gie c14 h
              exact hK52 w H locs ls h hI (lv_sub hl [] rfl)
            · skip
              have h := git c14 h
              exact hK48 w H locs ls h hI (lv_sub hl [] rfl)

abbrev b_M_set : ByteArray := prog_9_method_23_code
def y_M_set : MethodName := ⟨"BodySolidsModel", "set", "(IJJII)V"⟩
theorem d_M_set_0 : decode b_M_set 0 = .ok (.aload_n 0, 1) := by decide +kernel
theorem d_M_set_1 : decode b_M_set 1 = .ok (.getfield 38, 3) := by decide +kernel
theorem d_M_set_4 : decode b_M_set 4 = .ok (.iload_n 1, 1) := by decide +kernel
theorem d_M_set_5 : decode b_M_set 5 = .ok (.lload_n 2, 1) := by decide +kernel
theorem d_M_set_6 : decode b_M_set 6 = .ok (.lastore, 1) := by decide +kernel
theorem d_M_set_7 : decode b_M_set 7 = .ok (.aload_n 0, 1) := by decide +kernel
theorem d_M_set_8 : decode b_M_set 8 = .ok (.getfield 41, 3) := by decide +kernel
theorem d_M_set_11 : decode b_M_set 11 = .ok (.iload_n 1, 1) := by decide +kernel
theorem d_M_set_12 : decode b_M_set 12 = .ok (.lload 4, 2) := by decide +kernel
theorem d_M_set_14 : decode b_M_set 14 = .ok (.lastore, 1) := by decide +kernel
theorem d_M_set_15 : decode b_M_set 15 = .ok (.aload_n 0, 1) := by decide +kernel
theorem d_M_set_16 : decode b_M_set 16 = .ok (.getfield 44, 3) := by decide +kernel
theorem d_M_set_19 : decode b_M_set 19 = .ok (.iload_n 1, 1) := by decide +kernel
theorem d_M_set_20 : decode b_M_set 20 = .ok (.iload 6, 2) := by decide +kernel
theorem d_M_set_22 : decode b_M_set 22 = .ok (.iastore, 1) := by decide +kernel
theorem d_M_set_23 : decode b_M_set 23 = .ok (.aload_n 0, 1) := by decide +kernel
theorem d_M_set_24 : decode b_M_set 24 = .ok (.getfield 47, 3) := by decide +kernel
theorem d_M_set_27 : decode b_M_set 27 = .ok (.iload_n 1, 1) := by decide +kernel
theorem d_M_set_28 : decode b_M_set 28 = .ok (.iload 7, 2) := by decide +kernel
theorem d_M_set_30 : decode b_M_set 30 = .ok (.iastore, 1) := by decide +kernel
theorem d_M_set_31 : decode b_M_set 31 = .ok (.return_, 1) := by decide +kernel
abbrev rm_M_set : Room := { frames := 0, cells := 0, slots := 0, locals := 0 }
theorem ce_M_set : gCe y_M_set (.code y_M_set b_M_set 8 none) 8 5 false := gCe.code wd_950 wd_57 wd_949 (by decide) (by decide +kernel)
def f_M_set (g0 : gG) (a0 : Nat) (p1 : Int32) (p2 : Int64) (p3 : Int64) (p4 : Int32) (p5 : Int32) (w : gW) : gX Unit := (gfA w a0 7 14).bind fun v1 => (gsJ w v1 p1 p2).bind fun w => (gfA w a0 7 15).bind fun v4 => (gsJ w v4 p1 p3).bind fun w => (gfA w a0 7 16).bind fun v7 => (gsI w v7 p1 p4).bind fun w => (gfA w a0 7 17).bind fun v10 => (gsI w v10 p1 p5).bind fun w => some (.inr (), w)
set_option maxHeartbeats 4000000 in
set_option maxRecDepth 100000 in
theorem m_M_set (l : Launch) (hst : l.stackTraces = false) (D : gD) (g0 : gG) (a0 : Nat) (p1 : Int32) (p2 : Int64) (p3 : Int64) (p4 : Int32) (p5 : Int32) (w : gW) (r : (String ⊕ Unit) × gW) (h : f_M_set g0 a0 p1 p2 p3 p4 p5 w = some r) : gMet l y_M_set (.code y_M_set b_M_set 8 none) rm_M_set D g0 [.ref a0, .int p1, .long p2, .long p3, .int p4, .int p5] w (goV r) := by
  refine gw_ofV (by decide +kernel) (Nat.le_of_ble_eq_true rfl) ?_
  intro p e s m below meth c ls args A Q hx hb hml hown hlocks hin hnt hT hK hZ hA hret hexc hthr hI hl
  obtain ⟨H, hH⟩ : ∃ H, H = s.heap := ⟨_, rfl⟩
  rw [← hH] at hI ⊢
  obtain ⟨locs, hlocs⟩ : ∃ z : List Loc, z = [] := ⟨_, rfl⟩
  rw [← hlocs] at hI ⊢
  have hl : lv_has ls 8 [(0, .ref a0), (1, .int p1), (2, .long p2), (4, .long p3), (6, .int p4), (7, .int p5)] := hl
  unfold f_M_set at h
  refine lv_aload_n hx hb d_M_set_0 rfl (lv_at hl 0 rfl) ?_
  obtain ⟨v1, e2, h⟩ := gb h
  refine gw_getA hx hb hT hown hK hI (ci := 7) rfl i_7 14 (by decide) wd_800 (fun _ h9 => h9) e2 d_M_set_1 ?_
  refine lv_iload_n hx hb d_M_set_4 rfl (lv_at hl 1 rfl) ?_
  refine lv_lload_n hx hb d_M_set_5 rfl (lv_at hl 2 rfl) ?_
  obtain ⟨w, e3, h⟩ := gb h
  refine gw_astJ hx hb hK hI e3 d_M_set_6 (fun H locs hI => ?_)
  refine lv_aload_n hx hb d_M_set_7 rfl (lv_at hl 0 rfl) ?_
  obtain ⟨v4, e5, h⟩ := gb h
  refine gw_getA hx hb hT hown hK hI (ci := 7) rfl i_7 15 (by decide) wd_801 (fun _ h9 => h9) e5 d_M_set_8 ?_
  refine lv_iload_n hx hb d_M_set_11 rfl (lv_at hl 1 rfl) ?_
  refine lv_lload hx hb d_M_set_12 (lv_at hl 3 rfl) ?_
  obtain ⟨w, e6, h⟩ := gb h
  refine gw_astJ hx hb hK hI e6 d_M_set_14 (fun H locs hI => ?_)
  refine lv_aload_n hx hb d_M_set_15 rfl (lv_at hl 0 rfl) ?_
  obtain ⟨v7, e8, h⟩ := gb h
  refine gw_getA hx hb hT hown hK hI (ci := 7) rfl i_7 16 (by decide) wd_802 (fun _ h9 => h9) e8 d_M_set_16 ?_
  refine lv_iload_n hx hb d_M_set_19 rfl (lv_at hl 1 rfl) ?_
  refine lv_iload hx hb d_M_set_20 (lv_at hl 4 rfl) ?_
  obtain ⟨w, e9, h⟩ := gb h
  refine gw_astI hx hb hK hI e9 d_M_set_22 (fun H locs hI => ?_)
  refine lv_aload_n hx hb d_M_set_23 rfl (lv_at hl 0 rfl) ?_
  obtain ⟨v10, e11, h⟩ := gb h
  refine gw_getA hx hb hT hown hK hI (ci := 7) rfl i_7 17 (by decide) wd_803 (fun _ h9 => h9) e11 d_M_set_24 ?_
  refine lv_iload_n hx hb d_M_set_27 rfl (lv_at hl 1 rfl) ?_
  refine lv_iload hx hb d_M_set_28 (lv_at hl 5 rfl) ?_
  obtain ⟨w, e12, h⟩ := gb h
  refine gw_astI hx hb hK hI e12 d_M_set_30 (fun H locs hI => ?_)
  exact W.widen (show 0 ≤ 0 by omega) (show 0 ≤ 0 by omega) (hret _ _ (Option.some.inj h).symm _ _ _ _ d_M_set_31 hI)

abbrev b_M_place : ByteArray := prog_9_method_24_code
def y_M_place : MethodName := ⟨"BodySolidsModel", "place", "(IJJII)I"⟩
theorem d_M_place_0 : decode b_M_place 0 = .ok (.aload_n 0, 1) := by decide +kernel
theorem d_M_place_1 : decode b_M_place 1 = .ok (.aload_n 0, 1) := by decide +kernel
theorem d_M_place_2 : decode b_M_place 2 = .ok (.iload_n 1, 1) := by decide +kernel
theorem d_M_place_3 : decode b_M_place 3 = .ok (.invokevirtual 109, 3) := by decide +kernel
theorem d_M_place_6 : decode b_M_place 6 = .ok (.ifCond .ne 7, 3) := by decide +kernel
theorem d_M_place_9 : decode b_M_place 9 = .ok (.iconst 1, 1) := by decide +kernel
theorem d_M_place_10 : decode b_M_place 10 = .ok (.goto 21, 3) := by decide +kernel
theorem d_M_place_13 : decode b_M_place 13 = .ok (.lload_n 2, 1) := by decide +kernel
theorem d_M_place_14 : decode b_M_place 14 = .ok (.lload 4, 2) := by decide +kernel
theorem d_M_place_16 : decode b_M_place 16 = .ok (.iload 6, 2) := by decide +kernel
theorem d_M_place_18 : decode b_M_place 18 = .ok (.iload 7, 2) := by decide +kernel
theorem d_M_place_20 : decode b_M_place 20 = .ok (.invokestatic 142, 3) := by decide +kernel
theorem d_M_place_23 : decode b_M_place 23 = .ok (.ifCond .eq 7, 3) := by decide +kernel
theorem d_M_place_26 : decode b_M_place 26 = .ok (.iconst 0, 1) := by decide +kernel
theorem d_M_place_27 : decode b_M_place 27 = .ok (.goto 4, 3) := by decide +kernel
theorem d_M_place_30 : decode b_M_place 30 = .ok (.iconst 2, 1) := by decide +kernel
theorem d_M_place_31 : decode b_M_place 31 = .ok (.putfield 80, 3) := by decide +kernel
theorem d_M_place_34 : decode b_M_place 34 = .ok (.aload_n 0, 1) := by decide +kernel
theorem d_M_place_35 : decode b_M_place 35 = .ok (.getfield 80, 3) := by decide +kernel
theorem d_M_place_38 : decode b_M_place 38 = .ok (.ifCond .eq 5, 3) := by decide +kernel
theorem d_M_place_41 : decode b_M_place 41 = .ok (.iconst 0, 1) := by decide +kernel
theorem d_M_place_42 : decode b_M_place 42 = .ok (.ireturn, 1) := by decide +kernel
theorem d_M_place_43 : decode b_M_place 43 = .ok (.aload_n 0, 1) := by decide +kernel
theorem d_M_place_44 : decode b_M_place 44 = .ok (.getfield 95, 3) := by decide +kernel
theorem d_M_place_47 : decode b_M_place 47 = .ok (.bipush 30, 2) := by decide +kernel
theorem d_M_place_49 : decode b_M_place 49 = .ok (.if_icmp .ne 5, 3) := by decide +kernel
theorem d_M_place_52 : decode b_M_place 52 = .ok (.iconst (-1), 1) := by decide +kernel
theorem d_M_place_53 : decode b_M_place 53 = .ok (.ireturn, 1) := by decide +kernel
theorem d_M_place_54 : decode b_M_place 54 = .ok (.aload_n 0, 1) := by decide +kernel
theorem d_M_place_55 : decode b_M_place 55 = .ok (.getfield 35, 3) := by decide +kernel
theorem d_M_place_58 : decode b_M_place 58 = .ok (.aload_n 0, 1) := by decide +kernel
theorem d_M_place_59 : decode b_M_place 59 = .ok (.getfield 95, 3) := by decide +kernel
theorem d_M_place_62 : decode b_M_place 62 = .ok (.iload_n 1, 1) := by decide +kernel
theorem d_M_place_63 : decode b_M_place 63 = .ok (.iastore, 1) := by decide +kernel
theorem d_M_place_64 : decode b_M_place 64 = .ok (.aload_n 0, 1) := by decide +kernel
theorem d_M_place_65 : decode b_M_place 65 = .ok (.aload_n 0, 1) := by decide +kernel
theorem d_M_place_66 : decode b_M_place 66 = .ok (.getfield 95, 3) := by decide +kernel
theorem d_M_place_69 : decode b_M_place 69 = .ok (.lload_n 2, 1) := by decide +kernel
theorem d_M_place_70 : decode b_M_place 70 = .ok (.lload 4, 2) := by decide +kernel
theorem d_M_place_72 : decode b_M_place 72 = .ok (.iload 6, 2) := by decide +kernel
theorem d_M_place_74 : decode b_M_place 74 = .ok (.iload 7, 2) := by decide +kernel
theorem d_M_place_76 : decode b_M_place 76 = .ok (.invokevirtual 146, 3) := by decide +kernel
theorem d_M_place_79 : decode b_M_place 79 = .ok (.aload_n 0, 1) := by decide +kernel
theorem d_M_place_80 : decode b_M_place 80 = .ok (.dup, 1) := by decide +kernel
theorem d_M_place_81 : decode b_M_place 81 = .ok (.getfield 95, 3) := by decide +kernel
theorem d_M_place_84 : decode b_M_place 84 = .ok (.iconst 1, 1) := by decide +kernel
theorem d_M_place_85 : decode b_M_place 85 = .ok (.iadd, 1) := by decide +kernel
theorem d_M_place_86 : decode b_M_place 86 = .ok (.putfield 95, 3) := by decide +kernel
theorem d_M_place_89 : decode b_M_place 89 = .ok (.aload_n 0, 1) := by decide +kernel
theorem d_M_place_90 : decode b_M_place 90 = .ok (.getfield 95, 3) := by decide +kernel
theorem d_M_place_93 : decode b_M_place 93 = .ok (.iconst 1, 1) := by decide +kernel
theorem d_M_place_94 : decode b_M_place 94 = .ok (.isub, 1) := by decide +kernel
theorem d_M_place_95 : decode b_M_place 95 = .ok (.ireturn, 1) := by decide +kernel
abbrev rm_M_place : Room := { frames := 2, cells := 0, slots := 0, locals := 50 }
theorem ce_M_place : gCe y_M_place (.code y_M_place b_M_place 8 (some .int)) 8 5 false := gCe.code wd_943 wd_57 wd_941 (by decide) (by decide +kernel)
def f_M_place (g0 : gG) (a0 : Nat) (p1 : Int32) (p2 : Int64) (p3 : Int64) (p4 : Int32) (p5 : Int32) (w : gW) : gX Int32 := (gck w a0 7).bind fun _ => gbind (f_M_isBody g0 a0 p1 w) fun v5 w => gjoin (fun K31 => if v5 = 0 then (K31 1 w) else (gbind (f_M_isSpot g0 p2 p3 p4 p5 w) fun v34 w => if v34 = 0 then (K31 2 w) else (K31 0 w))) (fun (y6 : Int32) (w : gW) => (gp w a0 7 0 (.int y6)).bind fun w => (gfI w a0 7 0).bind fun v8 => if v8 = 0 then ((gfI w a0 7 12).bind fun v11 => if v11 = 30 then (some (.inr (-1), w)) else ((gfA w a0 7 13).bind fun v14 => (gfI w a0 7 12).bind fun v16 => (gsI w v14 v16 p1).bind fun w => (gfI w a0 7 12).bind fun v19 => (gck w a0 7).bind fun _ => gbind (f_M_set g0 a0 v19 p2 p3 p4 p5 w) fun v25 w => (gfI w a0 7 12).bind fun v26 => (gp w a0 7 12 (.int (v26 + 1))).bind fun w => (gfI w a0 7 12).bind fun v29 => some (.inr (v29 - 1), w))) else (some (.inr 0, w)))
set_option maxHeartbeats 4000000 in
set_option maxRecDepth 100000 in
theorem m_M_place (l : Launch) (hst : l.stackTraces = false) (D : gD) (g0 : gG) (a0 : Nat) (p1 : Int32) (p2 : Int64) (p3 : Int64) (p4 : Int32) (p5 : Int32) (w : gW) (r : (String ⊕ Int32) × gW) (h : f_M_place g0 a0 p1 p2 p3 p4 p5 w = some r) : gMet l y_M_place (.code y_M_place b_M_place 8 (some .int)) rm_M_place D g0 [.ref a0, .int p1, .long p2, .long p3, .int p4, .int p5] w (goI r) := by
  refine gw_ofI (by decide +kernel) (Nat.le_of_ble_eq_true rfl) ?_
  intro p e s m below meth c ls args A Q hx hb hml hown hlocks hin hnt hT hK hZ hA hret hexc hthr hI hl
  obtain ⟨H, hH⟩ : ∃ H, H = s.heap := ⟨_, rfl⟩
  rw [← hH] at hI ⊢
  obtain ⟨locs, hlocs⟩ : ∃ z : List Loc, z = [] := ⟨_, rfl⟩
  rw [← hlocs] at hI ⊢
  have hl : lv_has ls 8 [(0, .ref a0), (1, .int p1), (2, .long p2), (4, .long p3), (6, .int p4), (7, .int p5)] := hl
  unfold f_M_place at h
  refine lv_aload_n hx hb d_M_place_0 rfl (lv_at hl 0 rfl) ?_
  refine lv_aload_n hx hb d_M_place_1 rfl (lv_at hl 0 rfl) ?_
  refine lv_iload_n hx hb d_M_place_2 rfl (lv_at hl 1 rfl) ?_
  obtain ⟨q3, e4, h⟩ := gb h
  obtain ⟨u1, e2⟩ := gsome h
  refine gw_callI e2 h (gw_runV (As := [.int p1]) (rest := [.ref a0]) hx hb hml hown hT hK hZ hA hI (ci := 7) rfl e4 (m_M_isBody l hst D g0 a0 p1 w u1 e2) ce_M_isBody wd_894 wd_17 ⟨by decide, by decide⟩ rfl rfl hl.1 rfl (lv_room (Nat.le_of_ble_eq_true rfl)) d_M_place_3 ⟨(show 0 + 0 ≤ 0 by omega), (show 0 + 0 ≤ 0 by omega)⟩) hI hA hexc (show 0 + 0 ≤ 0 by omega) (show 0 + 0 ≤ 0 by omega) (fun v5 w H locs h hI => ?_)
  obtain ⟨K31, eK31, h⟩ := gj h
  have hK31 : ∀ (y6 : Int32) (w : gW) (H : Heap) (locs : List Loc) (ls : Array Slot), K31 y6 w = some r → gI D s A w H locs → lv_has ls 8 [(0, .ref a0), (1, .int p1), (2, .long p2), (4, .long p3), (6, .int p4), (7, .int p5)] → W p l e rm_M_place s m args below meth c H locs 0 0 Q (F0 m 31 ls [.int y6, .ref a0]) := by
    intro y6 w H locs ls h hI hl
    have h := gk2 eK31 h
    obtain ⟨w, e7, h⟩ := gb h
    refine gw_put hx hb hT hown hK hI (ci := 7) rfl i_7 t_7 t_7_ok n_7 0 (by decide) wd_786 (fun _ h9 => h9) rfl (ty := .int) (by decide +kernel) rfl rfl e7 d_M_place_31 (fun H locs hI => ?_)
    refine lv_aload_n hx hb d_M_place_34 rfl (lv_at hl 0 rfl) ?_
    obtain ⟨v8, e9, h⟩ := gb h
    refine gw_getI hx hb hT hown hK hI (ci := 7) rfl i_7 0 (by decide) wd_786 (fun _ h9 => h9) e9 d_M_place_35 ?_
    refine lv_if_eq (tgt := 43) hx hb d_M_place_38 (by decide) (fun c10 => ?_) (fun c10 => ?_)
    · skip
      have h := git c10 h
      refine lv_aload_n hx hb d_M_place_43 rfl (lv_at hl 0 rfl) ?_
      obtain ⟨v11, e12, h⟩ := gb h
      refine gw_getI hx hb hT hown hK hI (ci := 7) rfl i_7 12 (by decide) wd_798 (fun _ h9 => h9) e12 d_M_place_44 ?_
      refine lv_bipush (v := 30) hx hb d_M_place_47 (by decide) ?_
      refine lv_icmp_ne (tgt := 54) hx hb d_M_place_49 (by decide) (fun c13 => ?_) (fun c13 => ?_)
      · skip
        have h := gie c13 h
        refine lv_aload_n hx hb d_M_place_54 rfl (lv_at hl 0 rfl) ?_
        obtain ⟨v14, e15, h⟩ := gb h
        refine gw_getA hx hb hT hown hK hI (ci := 7) rfl i_7 13 (by decide) wd_799 (fun _ h9 => h9) e15 d_M_place_55 ?_
        refine lv_aload_n hx hb d_M_place_58 rfl (lv_at hl 0 rfl) ?_
        obtain ⟨v16, e17, h⟩ := gb h
        refine gw_getI hx hb hT hown hK hI (ci := 7) rfl i_7 12 (by decide) wd_798 (fun _ h9 => h9) e17 d_M_place_59 ?_
        refine lv_iload_n hx hb d_M_place_62 rfl (lv_at hl 1 rfl) ?_
        obtain ⟨w, e18, h⟩ := gb h
        refine gw_astI hx hb hK hI e18 d_M_place_63 (fun H locs hI => ?_)
        refine lv_aload_n hx hb d_M_place_64 rfl (lv_at hl 0 rfl) ?_
        refine lv_aload_n hx hb d_M_place_65 rfl (lv_at hl 0 rfl) ?_
        obtain ⟨v19, e20, h⟩ := gb h
        refine gw_getI hx hb hT hown hK hI (ci := 7) rfl i_7 12 (by decide) wd_798 (fun _ h9 => h9) e20 d_M_place_66 ?_
        refine lv_lload_n hx hb d_M_place_69 rfl (lv_at hl 2 rfl) ?_
        refine lv_lload hx hb d_M_place_70 (lv_at hl 3 rfl) ?_
        refine lv_iload hx hb d_M_place_72 (lv_at hl 4 rfl) ?_
        refine lv_iload hx hb d_M_place_74 (lv_at hl 5 rfl) ?_
        obtain ⟨q23, e24, h⟩ := gb h
        obtain ⟨u21, e22⟩ := gsome h
        refine gw_callV e22 h (gw_runV (As := [.int v19, .long p2, .long p3, .int p4, .int p5]) (rest := []) hx hb hml hown hT hK hZ hA hI (ci := 7) rfl e24 (m_M_set l hst D g0 a0 v19 p2 p3 p4 p5 w u21 e22) ce_M_set wd_947 wd_22 ⟨by decide, by decide⟩ rfl rfl hl.1 rfl (lv_room (Nat.le_of_ble_eq_true rfl)) d_M_place_76 ⟨(show 0 + 0 ≤ 0 by omega), (show 0 + 0 ≤ 0 by omega)⟩) hI hA hexc (show 0 + 0 ≤ 0 by omega) (show 0 + 0 ≤ 0 by omega) (fun v25 w H locs h hI => ?_)
        refine lv_aload_n hx hb d_M_place_79 rfl (lv_at hl 0 rfl) ?_
        refine lv_dup hx hb d_M_place_80 rfl ?_
        obtain ⟨v26, e27, h⟩ := gb h
        refine gw_getI hx hb hT hown hK hI (ci := 7) rfl i_7 12 (by decide) wd_798 (fun _ h9 => h9) e27 d_M_place_81 ?_
        refine lv_iconst (v := 1) hx hb d_M_place_84 (by decide) ?_
        refine lv_iadd hx hb d_M_place_85 ?_
        obtain ⟨w, e28, h⟩ := gb h
        refine gw_put hx hb hT hown hK hI (ci := 7) rfl i_7 t_7 t_7_ok n_7 12 (by decide) wd_798 (fun _ h9 => h9) rfl (ty := .int) (by decide +kernel) rfl rfl e28 d_M_place_86 (fun H locs hI => ?_)
        refine lv_aload_n hx hb d_M_place_89 rfl (lv_at hl 0 rfl) ?_
        obtain ⟨v29, e30, h⟩ := gb h
        refine gw_getI hx hb hT hown hK hI (ci := 7) rfl i_7 12 (by decide) wd_798 (fun _ h9 => h9) e30 d_M_place_90 ?_
        refine lv_iconst (v := 1) hx hb d_M_place_93 (by decide) ?_
        refine lv_isub hx hb d_M_place_94 ?_
        exact W.widen (show 0 ≤ 0 by omega) (show 0 ≤ 0 by omega) (hret _ _ (Option.some.inj h).symm _ _ _ _ d_M_place_95 hI)
      · skip
        have h := git c13 h
        refine lv_iconst (v := -1) hx hb d_M_place_52 (by decide) ?_
        exact W.widen (show 0 ≤ 0 by omega) (show 0 ≤ 0 by omega) (hret _ _ (Option.some.inj h).symm _ _ _ _ d_M_place_53 hI)
    · skip
      have h := gie c10 h
      refine lv_iconst (v := 0) hx hb d_M_place_41 (by decide) ?_
      exact W.widen (show 0 ≤ 0 by omega) (show 0 ≤ 0 by omega) (hret _ _ (Option.some.inj h).symm _ _ _ _ d_M_place_42 hI)
  refine lv_if_ne (tgt := 13) hx hb d_M_place_6 (by decide) (fun c31 => ?_) (fun c31 => ?_)
  · skip
    have h := gie c31 h
    refine lv_lload_n hx hb d_M_place_13 rfl (lv_at hl 2 rfl) ?_
    refine lv_lload hx hb d_M_place_14 (lv_at hl 3 rfl) ?_
    refine lv_iload hx hb d_M_place_16 (lv_at hl 4 rfl) ?_
    refine lv_iload hx hb d_M_place_18 (lv_at hl 5 rfl) ?_
    obtain ⟨u32, e33⟩ := gsome h
    refine gw_callI e33 h (gw_runS (As := [.long p2, .long p3, .int p4, .int p5]) (rest := [.ref a0]) hx hb hml hown hT hK hZ hA hI (m_M_isSpot l hst D g0 p2 p3 p4 p5 w u32 e33) ce_M_isSpot wd_944 ⟨by decide, by decide⟩ rfl rfl hl.1 rfl (lv_room (Nat.le_of_ble_eq_true rfl)) d_M_place_20 ⟨(show 0 + 0 ≤ 0 by omega), (show 0 + 0 ≤ 0 by omega)⟩) hI hA hexc (show 0 + 0 ≤ 0 by omega) (show 0 + 0 ≤ 0 by omega) (fun v34 w H locs h hI => ?_)
    refine lv_if_eq (tgt := 30) hx hb d_M_place_23 (by decide) (fun c35 => ?_) (fun c35 => ?_)
    · skip
      have h := git c35 h
      refine lv_iconst (v := 2) hx hb d_M_place_30 (by decide) ?_
      exact hK31 _ w H locs ls h hI (lv_sub hl [0, 1, 2, 3, 4, 5] rfl)
    · skip
      have h := gie c35 h
      refine lv_iconst (v := 0) hx hb d_M_place_26 (by decide) ?_
      refine lv_goto (tgt := 31) hx hb d_M_place_27 (by decide) ?_
      exact hK31 _ w H locs ls h hI (lv_sub hl [0, 1, 2, 3, 4, 5] rfl)
  · skip
    have h := git c31 h
    refine lv_iconst (v := 1) hx hb d_M_place_9 (by decide) ?_
    refine lv_goto (tgt := 31) hx hb d_M_place_10 (by decide) ?_
    exact hK31 _ w H locs ls h hI (lv_sub hl [0, 1, 2, 3, 4, 5] rfl)

abbrev b_Pl_boardX : ByteArray := prog_6_method_4_code
def y_Pl_boardX : MethodName := ⟨"BodySolids$Placement", "boardX", "(JJ)J"⟩
theorem d_Pl_boardX_0 : decode b_Pl_boardX 0 = .ok (.aload_n 0, 1) := by decide +kernel
theorem d_Pl_boardX_1 : decode b_Pl_boardX 1 = .ok (.getfield 24, 3) := by decide +kernel
theorem d_Pl_boardX_4 : decode b_Pl_boardX 4 = .ok (.iconst 1, 1) := by decide +kernel
theorem d_Pl_boardX_5 : decode b_Pl_boardX 5 = .ok (.if_icmp .ne 8, 3) := by decide +kernel
theorem d_Pl_boardX_8 : decode b_Pl_boardX 8 = .ok (.lload_n 1, 1) := by decide +kernel
theorem d_Pl_boardX_9 : decode b_Pl_boardX 9 = .ok (.lneg, 1) := by decide +kernel
theorem d_Pl_boardX_10 : decode b_Pl_boardX 10 = .ok (.goto 4, 3) := by decide +kernel
theorem d_Pl_boardX_13 : decode b_Pl_boardX 13 = .ok (.lload_n 1, 1) := by decide +kernel
theorem d_Pl_boardX_14 : decode b_Pl_boardX 14 = .ok (.lstore 5, 2) := by decide +kernel
theorem d_Pl_boardX_16 : decode b_Pl_boardX 16 = .ok (.aload_n 0, 1) := by decide +kernel
theorem d_Pl_boardX_17 : decode b_Pl_boardX 17 = .ok (.getfield 20, 3) := by decide +kernel
theorem d_Pl_boardX_20 : decode b_Pl_boardX 20 = .ok (.tableswitch 51 0 2 #[28, 36, 43], 28) := by decide +kernel
theorem d_Pl_boardX_48 : decode b_Pl_boardX 48 = .ok (.aload_n 0, 1) := by decide +kernel
theorem d_Pl_boardX_49 : decode b_Pl_boardX 49 = .ok (.getfield 13, 3) := by decide +kernel
theorem d_Pl_boardX_52 : decode b_Pl_boardX 52 = .ok (.lload 5, 2) := by decide +kernel
theorem d_Pl_boardX_54 : decode b_Pl_boardX 54 = .ok (.ladd, 1) := by decide +kernel
theorem d_Pl_boardX_55 : decode b_Pl_boardX 55 = .ok (.lreturn, 1) := by decide +kernel
theorem d_Pl_boardX_56 : decode b_Pl_boardX 56 = .ok (.aload_n 0, 1) := by decide +kernel
theorem d_Pl_boardX_57 : decode b_Pl_boardX 57 = .ok (.getfield 13, 3) := by decide +kernel
theorem d_Pl_boardX_60 : decode b_Pl_boardX 60 = .ok (.lload_n 3, 1) := by decide +kernel
theorem d_Pl_boardX_61 : decode b_Pl_boardX 61 = .ok (.lsub, 1) := by decide +kernel
theorem d_Pl_boardX_62 : decode b_Pl_boardX 62 = .ok (.lreturn, 1) := by decide +kernel
theorem d_Pl_boardX_63 : decode b_Pl_boardX 63 = .ok (.aload_n 0, 1) := by decide +kernel
theorem d_Pl_boardX_64 : decode b_Pl_boardX 64 = .ok (.getfield 13, 3) := by decide +kernel
theorem d_Pl_boardX_67 : decode b_Pl_boardX 67 = .ok (.lload 5, 2) := by decide +kernel
theorem d_Pl_boardX_69 : decode b_Pl_boardX 69 = .ok (.lsub, 1) := by decide +kernel
theorem d_Pl_boardX_70 : decode b_Pl_boardX 70 = .ok (.lreturn, 1) := by decide +kernel
theorem d_Pl_boardX_71 : decode b_Pl_boardX 71 = .ok (.aload_n 0, 1) := by decide +kernel
theorem d_Pl_boardX_72 : decode b_Pl_boardX 72 = .ok (.getfield 13, 3) := by decide +kernel
theorem d_Pl_boardX_75 : decode b_Pl_boardX 75 = .ok (.lload_n 3, 1) := by decide +kernel
theorem d_Pl_boardX_76 : decode b_Pl_boardX 76 = .ok (.ladd, 1) := by decide +kernel
theorem d_Pl_boardX_77 : decode b_Pl_boardX 77 = .ok (.lreturn, 1) := by decide +kernel
abbrev rm_Pl_boardX : Room := { frames := 0, cells := 0, slots := 0, locals := 0 }
theorem ce_Pl_boardX : gCe y_Pl_boardX (.code y_Pl_boardX b_Pl_boardX 7 (some .long)) 7 2 false := gCe.code wd_354 wd_68 wd_352 (by decide) (by decide +kernel)
def f_Pl_boardX (g0 : gG) (a0 : Nat) (p1 : Int64) (p2 : Int64) (w : gW) : gX Int64 := (gfI w a0 5 4).bind fun v1 => gjoin (fun K14 => if v1 = 1 then (K14 (-p1) w) else (K14 p1 w)) (fun (y3 : Int64) (w : gW) => (gfI w a0 5 3).bind fun v4 => if v4 = 0 then ((gfJ w a0 5 1).bind fun v7 => some (.inr (v7 + y3), w)) else (if v4 = 1 then ((gfJ w a0 5 1).bind fun v10 => some (.inr (v10 - p2), w)) else (if v4 = 2 then ((gfJ w a0 5 1).bind fun v13 => some (.inr (v13 - y3), w)) else ((gfJ w a0 5 1).bind fun v15 => some (.inr (v15 + p2), w)))))
set_option maxHeartbeats 4000000 in
set_option maxRecDepth 100000 in
theorem m_Pl_boardX (l : Launch) (hst : l.stackTraces = false) (D : gD) (g0 : gG) (a0 : Nat) (p1 : Int64) (p2 : Int64) (w : gW) (r : (String ⊕ Int64) × gW) (h : f_Pl_boardX g0 a0 p1 p2 w = some r) : gMet l y_Pl_boardX (.code y_Pl_boardX b_Pl_boardX 7 (some .long)) rm_Pl_boardX D g0 [.ref a0, .long p1, .long p2] w (goJ r) := by
  refine gw_ofJ (by decide +kernel) (Nat.le_of_ble_eq_true rfl) ?_
  intro p e s m below meth c ls args A Q hx hb hml hown hlocks hin hnt hT hK hZ hA hret hexc hthr hI hl
  obtain ⟨H, hH⟩ : ∃ H, H = s.heap := ⟨_, rfl⟩
  rw [← hH] at hI ⊢
  obtain ⟨locs, hlocs⟩ : ∃ z : List Loc, z = [] := ⟨_, rfl⟩
  rw [← hlocs] at hI ⊢
  have hl : lv_has ls 7 [(0, .ref a0), (1, .long p1), (3, .long p2)] := hl
  unfold f_Pl_boardX at h
  refine lv_aload_n hx hb d_Pl_boardX_0 rfl (lv_at hl 0 rfl) ?_
  obtain ⟨v1, e2, h⟩ := gb h
  refine gw_getI hx hb hT hown hK hI (ci := 5) rfl i_5 4 (by decide) wd_657 (fun _ h9 => h9) e2 d_Pl_boardX_1 ?_
  refine lv_iconst (v := 1) hx hb d_Pl_boardX_4 (by decide) ?_
  obtain ⟨K14, eK14, h⟩ := gj h
  have hK14 : ∀ (y3 : Int64) (w : gW) (H : Heap) (locs : List Loc) (ls : Array Slot), K14 y3 w = some r → gI D s A w H locs → lv_has ls 7 [(0, .ref a0), (3, .long p2)] → W p l e rm_Pl_boardX s m args below meth c H locs 0 0 Q (F0 m 14 ls [.long y3]) := by
    intro y3 w H locs ls h hI hl
    have h := gk2 eK14 h
    refine lv_lstore (lv' := [(5, .long y3), (0, .ref a0), (3, .long p2)]) hx hb d_Pl_boardX_14 hl (by decide) rfl (fun ls hl => ?_)
    refine lv_aload_n hx hb d_Pl_boardX_16 rfl (lv_at hl 1 rfl) ?_
    obtain ⟨v4, e5, h⟩ := gb h
    refine gw_getI hx hb hT hown hK hI (ci := 5) rfl i_5 3 (by decide) wd_656 (fun _ h9 => h9) e5 d_Pl_boardX_17 ?_
    rcases Decidable.em (v4 = 0) with c6 | c6
    · have h := git c6 h
      refine lv_tableIn (off := 28) (tgt := 48) hx hb d_Pl_boardX_20 (by rw [c6]; decide) (by rw [c6]; decide) (by rw [c6]; decide) (by decide) ?_
      refine lv_aload_n hx hb d_Pl_boardX_48 rfl (lv_at hl 1 rfl) ?_
      obtain ⟨v7, e8, h⟩ := gb h
      refine gw_getJ hx hb hT hown hK hI (ci := 5) rfl i_5 1 (by decide) wd_654 (fun _ h9 => h9) e8 d_Pl_boardX_49 ?_
      refine lv_lload hx hb d_Pl_boardX_52 (lv_at hl 0 rfl) ?_
      refine lv_ladd hx hb d_Pl_boardX_54 ?_
      exact W.widen (show 0 ≤ 0 by omega) (show 0 ≤ 0 by omega) (hret _ _ (Option.some.inj h).symm _ _ _ _ d_Pl_boardX_55 hI)
    have h := gie c6 h
    rcases Decidable.em (v4 = 1) with c9 | c9
    · have h := git c9 h
      refine lv_tableIn (off := 36) (tgt := 56) hx hb d_Pl_boardX_20 (by rw [c9]; decide) (by rw [c9]; decide) (by rw [c9]; decide) (by decide) ?_
      refine lv_aload_n hx hb d_Pl_boardX_56 rfl (lv_at hl 1 rfl) ?_
      obtain ⟨v10, e11, h⟩ := gb h
      refine gw_getJ hx hb hT hown hK hI (ci := 5) rfl i_5 1 (by decide) wd_654 (fun _ h9 => h9) e11 d_Pl_boardX_57 ?_
      refine lv_lload_n hx hb d_Pl_boardX_60 rfl (lv_at hl 2 rfl) ?_
      refine lv_lsub hx hb d_Pl_boardX_61 ?_
      exact W.widen (show 0 ≤ 0 by omega) (show 0 ≤ 0 by omega) (hret _ _ (Option.some.inj h).symm _ _ _ _ d_Pl_boardX_62 hI)
    have h := gie c9 h
    rcases Decidable.em (v4 = 2) with c12 | c12
    · have h := git c12 h
      refine lv_tableIn (off := 43) (tgt := 63) hx hb d_Pl_boardX_20 (by rw [c12]; decide) (by rw [c12]; decide) (by rw [c12]; decide) (by decide) ?_
      refine lv_aload_n hx hb d_Pl_boardX_63 rfl (lv_at hl 1 rfl) ?_
      obtain ⟨v13, e14, h⟩ := gb h
      refine gw_getJ hx hb hT hown hK hI (ci := 5) rfl i_5 1 (by decide) wd_654 (fun _ h9 => h9) e14 d_Pl_boardX_64 ?_
      refine lv_lload hx hb d_Pl_boardX_67 (lv_at hl 0 rfl) ?_
      refine lv_lsub hx hb d_Pl_boardX_69 ?_
      exact W.widen (show 0 ≤ 0 by omega) (show 0 ≤ 0 by omega) (hret _ _ (Option.some.inj h).symm _ _ _ _ d_Pl_boardX_70 hI)
    have h := gie c12 h
    refine lv_tableOut (tgt := 71) hx hb d_Pl_boardX_20 (by have q0 := lv_neT c6 (show (0 : Int32).toInt = 0 by decide); have q1 := lv_neT c9 (show (1 : Int32).toInt = 1 by decide); have q2 := lv_neT c12 (show (2 : Int32).toInt = 2 by decide); omega) (by decide) ?_
    refine lv_aload_n hx hb d_Pl_boardX_71 rfl (lv_at hl 1 rfl) ?_
    obtain ⟨v15, e16, h⟩ := gb h
    refine gw_getJ hx hb hT hown hK hI (ci := 5) rfl i_5 1 (by decide) wd_654 (fun _ h9 => h9) e16 d_Pl_boardX_72 ?_
    refine lv_lload_n hx hb d_Pl_boardX_75 rfl (lv_at hl 2 rfl) ?_
    refine lv_ladd hx hb d_Pl_boardX_76 ?_
    exact W.widen (show 0 ≤ 0 by omega) (show 0 ≤ 0 by omega) (hret _ _ (Option.some.inj h).symm _ _ _ _ d_Pl_boardX_77 hI)
  refine lv_icmp_ne (tgt := 13) hx hb d_Pl_boardX_5 (by decide) (fun c17 => ?_) (fun c17 => ?_)
  · skip
    have h := gie c17 h
    refine lv_lload_n hx hb d_Pl_boardX_13 rfl (lv_at hl 1 rfl) ?_
    exact hK14 _ w H locs ls h hI (lv_sub hl [0, 2] rfl)
  · skip
    have h := git c17 h
    refine lv_lload_n hx hb d_Pl_boardX_8 rfl (lv_at hl 1 rfl) ?_
    refine lv_lneg hx hb d_Pl_boardX_9 ?_
    refine lv_goto (tgt := 14) hx hb d_Pl_boardX_10 (by decide) ?_
    exact hK14 _ w H locs ls h hI (lv_sub hl [0, 2] rfl)

abbrev b_Pl_boardY : ByteArray := prog_6_method_5_code
def y_Pl_boardY : MethodName := ⟨"BodySolids$Placement", "boardY", "(JJ)J"⟩
theorem d_Pl_boardY_0 : decode b_Pl_boardY 0 = .ok (.aload_n 0, 1) := by decide +kernel
theorem d_Pl_boardY_1 : decode b_Pl_boardY 1 = .ok (.getfield 24, 3) := by decide +kernel
theorem d_Pl_boardY_4 : decode b_Pl_boardY 4 = .ok (.iconst 1, 1) := by decide +kernel
theorem d_Pl_boardY_5 : decode b_Pl_boardY 5 = .ok (.if_icmp .ne 8, 3) := by decide +kernel
theorem d_Pl_boardY_8 : decode b_Pl_boardY 8 = .ok (.lload_n 1, 1) := by decide +kernel
theorem d_Pl_boardY_9 : decode b_Pl_boardY 9 = .ok (.lneg, 1) := by decide +kernel
theorem d_Pl_boardY_10 : decode b_Pl_boardY 10 = .ok (.goto 4, 3) := by decide +kernel
theorem d_Pl_boardY_13 : decode b_Pl_boardY 13 = .ok (.lload_n 1, 1) := by decide +kernel
theorem d_Pl_boardY_14 : decode b_Pl_boardY 14 = .ok (.lstore 5, 2) := by decide +kernel
theorem d_Pl_boardY_16 : decode b_Pl_boardY 16 = .ok (.aload_n 0, 1) := by decide +kernel
theorem d_Pl_boardY_17 : decode b_Pl_boardY 17 = .ok (.getfield 20, 3) := by decide +kernel
theorem d_Pl_boardY_20 : decode b_Pl_boardY 20 = .ok (.tableswitch 50 0 2 #[28, 35, 43], 28) := by decide +kernel
theorem d_Pl_boardY_48 : decode b_Pl_boardY 48 = .ok (.aload_n 0, 1) := by decide +kernel
theorem d_Pl_boardY_49 : decode b_Pl_boardY 49 = .ok (.getfield 17, 3) := by decide +kernel
theorem d_Pl_boardY_52 : decode b_Pl_boardY 52 = .ok (.lload_n 3, 1) := by decide +kernel
theorem d_Pl_boardY_53 : decode b_Pl_boardY 53 = .ok (.ladd, 1) := by decide +kernel
theorem d_Pl_boardY_54 : decode b_Pl_boardY 54 = .ok (.lreturn, 1) := by decide +kernel
theorem d_Pl_boardY_55 : decode b_Pl_boardY 55 = .ok (.aload_n 0, 1) := by decide +kernel
theorem d_Pl_boardY_56 : decode b_Pl_boardY 56 = .ok (.getfield 17, 3) := by decide +kernel
theorem d_Pl_boardY_59 : decode b_Pl_boardY 59 = .ok (.lload 5, 2) := by decide +kernel
theorem d_Pl_boardY_61 : decode b_Pl_boardY 61 = .ok (.ladd, 1) := by decide +kernel
theorem d_Pl_boardY_62 : decode b_Pl_boardY 62 = .ok (.lreturn, 1) := by decide +kernel
theorem d_Pl_boardY_63 : decode b_Pl_boardY 63 = .ok (.aload_n 0, 1) := by decide +kernel
theorem d_Pl_boardY_64 : decode b_Pl_boardY 64 = .ok (.getfield 17, 3) := by decide +kernel
theorem d_Pl_boardY_67 : decode b_Pl_boardY 67 = .ok (.lload_n 3, 1) := by decide +kernel
theorem d_Pl_boardY_68 : decode b_Pl_boardY 68 = .ok (.lsub, 1) := by decide +kernel
theorem d_Pl_boardY_69 : decode b_Pl_boardY 69 = .ok (.lreturn, 1) := by decide +kernel
theorem d_Pl_boardY_70 : decode b_Pl_boardY 70 = .ok (.aload_n 0, 1) := by decide +kernel
theorem d_Pl_boardY_71 : decode b_Pl_boardY 71 = .ok (.getfield 17, 3) := by decide +kernel
theorem d_Pl_boardY_74 : decode b_Pl_boardY 74 = .ok (.lload 5, 2) := by decide +kernel
theorem d_Pl_boardY_76 : decode b_Pl_boardY 76 = .ok (.lsub, 1) := by decide +kernel
theorem d_Pl_boardY_77 : decode b_Pl_boardY 77 = .ok (.lreturn, 1) := by decide +kernel
abbrev rm_Pl_boardY : Room := { frames := 0, cells := 0, slots := 0, locals := 0 }
theorem ce_Pl_boardY : gCe y_Pl_boardY (.code y_Pl_boardY b_Pl_boardY 7 (some .long)) 7 2 false := gCe.code wd_358 wd_68 wd_356 (by decide) (by decide +kernel)
def f_Pl_boardY (g0 : gG) (a0 : Nat) (p1 : Int64) (p2 : Int64) (w : gW) : gX Int64 := (gfI w a0 5 4).bind fun v1 => gjoin (fun K14 => if v1 = 1 then (K14 (-p1) w) else (K14 p1 w)) (fun (y3 : Int64) (w : gW) => (gfI w a0 5 3).bind fun v4 => if v4 = 0 then ((gfJ w a0 5 2).bind fun v7 => some (.inr (v7 + p2), w)) else (if v4 = 1 then ((gfJ w a0 5 2).bind fun v10 => some (.inr (v10 + y3), w)) else (if v4 = 2 then ((gfJ w a0 5 2).bind fun v13 => some (.inr (v13 - p2), w)) else ((gfJ w a0 5 2).bind fun v15 => some (.inr (v15 - y3), w)))))
set_option maxHeartbeats 4000000 in
set_option maxRecDepth 100000 in
theorem m_Pl_boardY (l : Launch) (hst : l.stackTraces = false) (D : gD) (g0 : gG) (a0 : Nat) (p1 : Int64) (p2 : Int64) (w : gW) (r : (String ⊕ Int64) × gW) (h : f_Pl_boardY g0 a0 p1 p2 w = some r) : gMet l y_Pl_boardY (.code y_Pl_boardY b_Pl_boardY 7 (some .long)) rm_Pl_boardY D g0 [.ref a0, .long p1, .long p2] w (goJ r) := by
  refine gw_ofJ (by decide +kernel) (Nat.le_of_ble_eq_true rfl) ?_
  intro p e s m below meth c ls args A Q hx hb hml hown hlocks hin hnt hT hK hZ hA hret hexc hthr hI hl
  obtain ⟨H, hH⟩ : ∃ H, H = s.heap := ⟨_, rfl⟩
  rw [← hH] at hI ⊢
  obtain ⟨locs, hlocs⟩ : ∃ z : List Loc, z = [] := ⟨_, rfl⟩
  rw [← hlocs] at hI ⊢
  have hl : lv_has ls 7 [(0, .ref a0), (1, .long p1), (3, .long p2)] := hl
  unfold f_Pl_boardY at h
  refine lv_aload_n hx hb d_Pl_boardY_0 rfl (lv_at hl 0 rfl) ?_
  obtain ⟨v1, e2, h⟩ := gb h
  refine gw_getI hx hb hT hown hK hI (ci := 5) rfl i_5 4 (by decide) wd_657 (fun _ h9 => h9) e2 d_Pl_boardY_1 ?_
  refine lv_iconst (v := 1) hx hb d_Pl_boardY_4 (by decide) ?_
  obtain ⟨K14, eK14, h⟩ := gj h
  have hK14 : ∀ (y3 : Int64) (w : gW) (H : Heap) (locs : List Loc) (ls : Array Slot), K14 y3 w = some r → gI D s A w H locs → lv_has ls 7 [(0, .ref a0), (3, .long p2)] → W p l e rm_Pl_boardY s m args below meth c H locs 0 0 Q (F0 m 14 ls [.long y3]) := by
    intro y3 w H locs ls h hI hl
    have h := gk2 eK14 h
    refine lv_lstore (lv' := [(5, .long y3), (0, .ref a0), (3, .long p2)]) hx hb d_Pl_boardY_14 hl (by decide) rfl (fun ls hl => ?_)
    refine lv_aload_n hx hb d_Pl_boardY_16 rfl (lv_at hl 1 rfl) ?_
    obtain ⟨v4, e5, h⟩ := gb h
    refine gw_getI hx hb hT hown hK hI (ci := 5) rfl i_5 3 (by decide) wd_656 (fun _ h9 => h9) e5 d_Pl_boardY_17 ?_
    rcases Decidable.em (v4 = 0) with c6 | c6
    · have h := git c6 h
      refine lv_tableIn (off := 28) (tgt := 48) hx hb d_Pl_boardY_20 (by rw [c6]; decide) (by rw [c6]; decide) (by rw [c6]; decide) (by decide) ?_
      refine lv_aload_n hx hb d_Pl_boardY_48 rfl (lv_at hl 1 rfl) ?_
      obtain ⟨v7, e8, h⟩ := gb h
      refine gw_getJ hx hb hT hown hK hI (ci := 5) rfl i_5 2 (by decide) wd_655 (fun _ h9 => h9) e8 d_Pl_boardY_49 ?_
      refine lv_lload_n hx hb d_Pl_boardY_52 rfl (lv_at hl 2 rfl) ?_
      refine lv_ladd hx hb d_Pl_boardY_53 ?_
      exact W.widen (show 0 ≤ 0 by omega) (show 0 ≤ 0 by omega) (hret _ _ (Option.some.inj h).symm _ _ _ _ d_Pl_boardY_54 hI)
    have h := gie c6 h
    rcases Decidable.em (v4 = 1) with c9 | c9
    · have h := git c9 h
      refine lv_tableIn (off := 35) (tgt := 55) hx hb d_Pl_boardY_20 (by rw [c9]; decide) (by rw [c9]; decide) (by rw [c9]; decide) (by decide) ?_
      refine lv_aload_n hx hb d_Pl_boardY_55 rfl (lv_at hl 1 rfl) ?_
      obtain ⟨v10, e11, h⟩ := gb h
      refine gw_getJ hx hb hT hown hK hI (ci := 5) rfl i_5 2 (by decide) wd_655 (fun _ h9 => h9) e11 d_Pl_boardY_56 ?_
      refine lv_lload hx hb d_Pl_boardY_59 (lv_at hl 0 rfl) ?_
      refine lv_ladd hx hb d_Pl_boardY_61 ?_
      exact W.widen (show 0 ≤ 0 by omega) (show 0 ≤ 0 by omega) (hret _ _ (Option.some.inj h).symm _ _ _ _ d_Pl_boardY_62 hI)
    have h := gie c9 h
    rcases Decidable.em (v4 = 2) with c12 | c12
    · have h := git c12 h
      refine lv_tableIn (off := 43) (tgt := 63) hx hb d_Pl_boardY_20 (by rw [c12]; decide) (by rw [c12]; decide) (by rw [c12]; decide) (by decide) ?_
      refine lv_aload_n hx hb d_Pl_boardY_63 rfl (lv_at hl 1 rfl) ?_
      obtain ⟨v13, e14, h⟩ := gb h
      refine gw_getJ hx hb hT hown hK hI (ci := 5) rfl i_5 2 (by decide) wd_655 (fun _ h9 => h9) e14 d_Pl_boardY_64 ?_
      refine lv_lload_n hx hb d_Pl_boardY_67 rfl (lv_at hl 2 rfl) ?_
      refine lv_lsub hx hb d_Pl_boardY_68 ?_
      exact W.widen (show 0 ≤ 0 by omega) (show 0 ≤ 0 by omega) (hret _ _ (Option.some.inj h).symm _ _ _ _ d_Pl_boardY_69 hI)
    have h := gie c12 h
    refine lv_tableOut (tgt := 70) hx hb d_Pl_boardY_20 (by have q0 := lv_neT c6 (show (0 : Int32).toInt = 0 by decide); have q1 := lv_neT c9 (show (1 : Int32).toInt = 1 by decide); have q2 := lv_neT c12 (show (2 : Int32).toInt = 2 by decide); omega) (by decide) ?_
    refine lv_aload_n hx hb d_Pl_boardY_70 rfl (lv_at hl 1 rfl) ?_
    obtain ⟨v15, e16, h⟩ := gb h
    refine gw_getJ hx hb hT hown hK hI (ci := 5) rfl i_5 2 (by decide) wd_655 (fun _ h9 => h9) e16 d_Pl_boardY_71 ?_
    refine lv_lload hx hb d_Pl_boardY_74 (lv_at hl 0 rfl) ?_
    refine lv_lsub hx hb d_Pl_boardY_76 ?_
    exact W.widen (show 0 ≤ 0 by omega) (show 0 ≤ 0 by omega) (hret _ _ (Option.some.inj h).symm _ _ _ _ d_Pl_boardY_77 hI)
  refine lv_icmp_ne (tgt := 13) hx hb d_Pl_boardY_5 (by decide) (fun c17 => ?_) (fun c17 => ?_)
  · skip
    have h := gie c17 h
    refine lv_lload_n hx hb d_Pl_boardY_13 rfl (lv_at hl 1 rfl) ?_
    exact hK14 _ w H locs ls h hI (lv_sub hl [0, 2] rfl)
  · skip
    have h := git c17 h
    refine lv_lload_n hx hb d_Pl_boardY_8 rfl (lv_at hl 1 rfl) ?_
    refine lv_lneg hx hb d_Pl_boardY_9 ?_
    refine lv_goto (tgt := 14) hx hb d_Pl_boardY_10 (by decide) ?_
    exact hK14 _ w H locs ls h hI (lv_sub hl [0, 2] rfl)

abbrev b_So_layAs : ByteArray := prog_7_method_6_code
def y_So_layAs : MethodName := ⟨"BodySolids$Solid", "layAs", "(LBodySolids$Solid;LBodySolids$Placement;J)V"⟩
theorem d_So_layAs_0 : decode b_So_layAs 0 = .ok (.aload_n 0, 1) := by decide +kernel
theorem d_So_layAs_1 : decode b_So_layAs 1 = .ok (.aload_n 1, 1) := by decide +kernel
theorem d_So_layAs_2 : decode b_So_layAs 2 = .ok (.getfield 18, 3) := by decide +kernel
theorem d_So_layAs_5 : decode b_So_layAs 5 = .ok (.aload_n 1, 1) := by decide +kernel
theorem d_So_layAs_6 : decode b_So_layAs 6 = .ok (.getfield 22, 3) := by decide +kernel
theorem d_So_layAs_9 : decode b_So_layAs 9 = .ok (.aload_n 1, 1) := by decide +kernel
theorem d_So_layAs_10 : decode b_So_layAs 10 = .ok (.getfield 26, 3) := by decide +kernel
theorem d_So_layAs_13 : decode b_So_layAs 13 = .ok (.invokevirtual 63, 3) := by decide +kernel
theorem d_So_layAs_16 : decode b_So_layAs 16 = .ok (.aload_n 2, 1) := by decide +kernel
theorem d_So_layAs_17 : decode b_So_layAs 17 = .ok (.getfield 67, 3) := by decide +kernel
theorem d_So_layAs_20 : decode b_So_layAs 20 = .ok (.iconst 1, 1) := by decide +kernel
theorem d_So_layAs_21 : decode b_So_layAs 21 = .ok (.if_icmp .ne 7, 3) := by decide +kernel
theorem d_So_layAs_24 : decode b_So_layAs 24 = .ok (.iconst 1, 1) := by decide +kernel
theorem d_So_layAs_25 : decode b_So_layAs 25 = .ok (.goto 4, 3) := by decide +kernel
theorem d_So_layAs_28 : decode b_So_layAs 28 = .ok (.iconst 0, 1) := by decide +kernel
theorem d_So_layAs_29 : decode b_So_layAs 29 = .ok (.istore 5, 2) := by decide +kernel
theorem d_So_layAs_31 : decode b_So_layAs 31 = .ok (.iconst 0, 1) := by decide +kernel
theorem d_So_layAs_32 : decode b_So_layAs 32 = .ok (.istore 6, 2) := by decide +kernel
theorem d_So_layAs_34 : decode b_So_layAs 34 = .ok (.iload 6, 2) := by decide +kernel
theorem d_So_layAs_36 : decode b_So_layAs 36 = .ok (.aload_n 1, 1) := by decide +kernel
theorem d_So_layAs_37 : decode b_So_layAs 37 = .ok (.getfield 29, 3) := by decide +kernel
theorem d_So_layAs_40 : decode b_So_layAs 40 = .ok (.if_icmp .ge 77, 3) := by decide +kernel
theorem d_So_layAs_43 : decode b_So_layAs 43 = .ok (.iload 6, 2) := by decide +kernel
theorem d_So_layAs_45 : decode b_So_layAs 45 = .ok (.bipush 8, 2) := by decide +kernel
theorem d_So_layAs_47 : decode b_So_layAs 47 = .ok (.if_icmp .ge 70, 3) := by decide +kernel
theorem d_So_layAs_50 : decode b_So_layAs 50 = .ok (.iload 5, 2) := by decide +kernel
theorem d_So_layAs_52 : decode b_So_layAs 52 = .ok (.ifCond .eq 15, 3) := by decide +kernel
theorem d_So_layAs_55 : decode b_So_layAs 55 = .ok (.aload_n 1, 1) := by decide +kernel
theorem d_So_layAs_56 : decode b_So_layAs 56 = .ok (.getfield 29, 3) := by decide +kernel
theorem d_So_layAs_59 : decode b_So_layAs 59 = .ok (.iconst 1, 1) := by decide +kernel
theorem d_So_layAs_60 : decode b_So_layAs 60 = .ok (.isub, 1) := by decide +kernel
theorem d_So_layAs_61 : decode b_So_layAs 61 = .ok (.iload 6, 2) := by decide +kernel
theorem d_So_layAs_63 : decode b_So_layAs 63 = .ok (.isub, 1) := by decide +kernel
theorem d_So_layAs_64 : decode b_So_layAs 64 = .ok (.goto 5, 3) := by decide +kernel
theorem d_So_layAs_67 : decode b_So_layAs 67 = .ok (.iload 6, 2) := by decide +kernel
theorem d_So_layAs_69 : decode b_So_layAs 69 = .ok (.istore 7, 2) := by decide +kernel
theorem d_So_layAs_71 : decode b_So_layAs 71 = .ok (.aload_n 0, 1) := by decide +kernel
theorem d_So_layAs_72 : decode b_So_layAs 72 = .ok (.aload_n 2, 1) := by decide +kernel
theorem d_So_layAs_73 : decode b_So_layAs 73 = .ok (.aload_n 1, 1) := by decide +kernel
theorem d_So_layAs_74 : decode b_So_layAs 74 = .ok (.getfield 9, 3) := by decide +kernel
theorem d_So_layAs_77 : decode b_So_layAs 77 = .ok (.iload 7, 2) := by decide +kernel
theorem d_So_layAs_79 : decode b_So_layAs 79 = .ok (.laload, 1) := by decide +kernel
theorem d_So_layAs_80 : decode b_So_layAs 80 = .ok (.aload_n 1, 1) := by decide +kernel
theorem d_So_layAs_81 : decode b_So_layAs 81 = .ok (.getfield 15, 3) := by decide +kernel
theorem d_So_layAs_84 : decode b_So_layAs 84 = .ok (.iload 7, 2) := by decide +kernel
theorem d_So_layAs_86 : decode b_So_layAs 86 = .ok (.laload, 1) := by decide +kernel
theorem d_So_layAs_87 : decode b_So_layAs 87 = .ok (.invokevirtual 72, 3) := by decide +kernel
theorem d_So_layAs_90 : decode b_So_layAs 90 = .ok (.aload_n 2, 1) := by decide +kernel
theorem d_So_layAs_91 : decode b_So_layAs 91 = .ok (.aload_n 1, 1) := by decide +kernel
theorem d_So_layAs_92 : decode b_So_layAs 92 = .ok (.getfield 9, 3) := by decide +kernel
theorem d_So_layAs_95 : decode b_So_layAs 95 = .ok (.iload 7, 2) := by decide +kernel
theorem d_So_layAs_97 : decode b_So_layAs 97 = .ok (.laload, 1) := by decide +kernel
theorem d_So_layAs_98 : decode b_So_layAs 98 = .ok (.aload_n 1, 1) := by decide +kernel
theorem d_So_layAs_99 : decode b_So_layAs 99 = .ok (.getfield 15, 3) := by decide +kernel
theorem d_So_layAs_102 : decode b_So_layAs 102 = .ok (.iload 7, 2) := by decide +kernel
theorem d_So_layAs_104 : decode b_So_layAs 104 = .ok (.laload, 1) := by decide +kernel
theorem d_So_layAs_105 : decode b_So_layAs 105 = .ok (.invokevirtual 75, 3) := by decide +kernel
theorem d_So_layAs_108 : decode b_So_layAs 108 = .ok (.invokevirtual 53, 3) := by decide +kernel
theorem d_So_layAs_111 : decode b_So_layAs 111 = .ok (.iinc 6 1, 3) := by decide +kernel
theorem d_So_layAs_114 : decode b_So_layAs 114 = .ok (.goto (-80), 3) := by decide +kernel
theorem d_So_layAs_117 : decode b_So_layAs 117 = .ok (.aload_n 2, 1) := by decide +kernel
theorem d_So_layAs_118 : decode b_So_layAs 118 = .ok (.getfield 67, 3) := by decide +kernel
theorem d_So_layAs_121 : decode b_So_layAs 121 = .ok (.iconst 1, 1) := by decide +kernel
theorem d_So_layAs_122 : decode b_So_layAs 122 = .ok (.if_icmp .ne 24, 3) := by decide +kernel
theorem d_So_layAs_125 : decode b_So_layAs 125 = .ok (.aload_n 0, 1) := by decide +kernel
theorem d_So_layAs_126 : decode b_So_layAs 126 = .ok (.lload_n 3, 1) := by decide +kernel
theorem d_So_layAs_127 : decode b_So_layAs 127 = .ok (.lneg, 1) := by decide +kernel
theorem d_So_layAs_128 : decode b_So_layAs 128 = .ok (.aload_n 1, 1) := by decide +kernel
theorem d_So_layAs_129 : decode b_So_layAs 129 = .ok (.getfield 60, 3) := by decide +kernel
theorem d_So_layAs_132 : decode b_So_layAs 132 = .ok (.lsub, 1) := by decide +kernel
theorem d_So_layAs_133 : decode b_So_layAs 133 = .ok (.lload_n 3, 1) := by decide +kernel
theorem d_So_layAs_134 : decode b_So_layAs 134 = .ok (.lneg, 1) := by decide +kernel
theorem d_So_layAs_135 : decode b_So_layAs 135 = .ok (.aload_n 1, 1) := by decide +kernel
theorem d_So_layAs_136 : decode b_So_layAs 136 = .ok (.getfield 57, 3) := by decide +kernel
theorem d_So_layAs_139 : decode b_So_layAs 139 = .ok (.lsub, 1) := by decide +kernel
theorem d_So_layAs_140 : decode b_So_layAs 140 = .ok (.invokevirtual 78, 3) := by decide +kernel
theorem d_So_layAs_143 : decode b_So_layAs 143 = .ok (.goto 15, 3) := by decide +kernel
theorem d_So_layAs_146 : decode b_So_layAs 146 = .ok (.aload_n 0, 1) := by decide +kernel
theorem d_So_layAs_147 : decode b_So_layAs 147 = .ok (.aload_n 1, 1) := by decide +kernel
theorem d_So_layAs_148 : decode b_So_layAs 148 = .ok (.getfield 57, 3) := by decide +kernel
theorem d_So_layAs_151 : decode b_So_layAs 151 = .ok (.aload_n 1, 1) := by decide +kernel
theorem d_So_layAs_152 : decode b_So_layAs 152 = .ok (.getfield 60, 3) := by decide +kernel
theorem d_So_layAs_155 : decode b_So_layAs 155 = .ok (.invokevirtual 78, 3) := by decide +kernel
theorem d_So_layAs_158 : decode b_So_layAs 158 = .ok (.return_, 1) := by decide +kernel
abbrev rm_So_layAs : Room := { frames := 2, cells := 0, slots := 0, locals := 47 }
theorem ce_So_layAs : gCe y_So_layAs (.code y_So_layAs b_So_layAs 8 none) 8 3 false := gCe.code wd_346 wd_56 wd_344 (by decide) (by decide +kernel)
def f_So_layAs_L34 (g0 : gG) (c0 : Nat) (c1 : Nat) (c2 : Nat) (c3 : Int64) (c5 : Int32) (K117 : gW → gX Unit) : Nat → Int32 → gW → gX Unit
  | 0, _, _ => none
  | n + 1, z6, w => (gfI w c1 3 5).bind fun v36 => if v36 ≤ z6 then (K117 w) else (if 8 ≤ z6 then (K117 w) else (gjoin (fun K69 => if c5 = 0 then (K69 z6 w) else ((gfI w c1 3 5).bind fun v73 => K69 ((v73 - 1) - z6) w)) (fun (y40 : Int32) (w : gW) => (gfA w c1 3 3).bind fun v41 => (gaJ w v41 y40).bind fun v43 => (gfA w c1 3 4).bind fun v45 => (gaJ w v45 y40).bind fun v47 => (gck w c2 5).bind fun _ => gbind (f_Pl_boardX g0 c2 v43 v47 w) fun v53 w => (gfA w c1 3 3).bind fun v54 => (gaJ w v54 y40).bind fun v56 => (gfA w c1 3 4).bind fun v58 => (gaJ w v58 y40).bind fun v60 => (gck w c2 5).bind fun _ => gbind (f_Pl_boardY g0 c2 v56 v60 w) fun v66 w => (gck w c0 3).bind fun _ => gbind (f_So_addCorner g0 c0 v53 v66 w) fun v71 w => f_So_layAs_L34 g0 c0 c1 c2 c3 c5 K117 n (z6 + 1) w)))
def f_So_layAs (g0 : gG) (a0 : Nat) (a1 : Nat) (a2 : Nat) (p3 : Int64) (w : gW) : gX Unit := (gfI w a1 3 0).bind fun v1 => (gfJ w a1 3 1).bind fun v3 => (gfJ w a1 3 2).bind fun v5 => (gck w a0 3).bind fun _ => gbind (f_So_begin g0 a0 v1 v3 v5 w) fun v11 w => (gfI w a2 5 4).bind fun v12 => gjoin (fun K29 => if v12 = 1 then (K29 1 w) else (K29 0 w)) (fun (y14 : Int32) (w : gW) => gjoin (fun K117 => f_So_layAs_L34 g0 a0 a1 a2 p3 y14 K117 64 0 w) (fun (w : gW) => (gfI w a2 5 4).bind fun v15 => gjoin (fun K158 => if v15 = 1 then ((gfJ w a1 3 11).bind fun v27 => (gfJ w a1 3 8).bind fun v29 => (gck w a0 3).bind fun _ => gbind (f_So_setHeights g0 a0 ((-p3) - v27) ((-p3) - v29) w) fun v35 w => K158 w) else ((gfJ w a1 3 8).bind fun v18 => (gfJ w a1 3 11).bind fun v20 => (gck w a0 3).bind fun _ => gbind (f_So_setHeights g0 a0 v18 v20 w) fun v26 w => K158 w)) (fun (w : gW) => some (.inr (), w))))
set_option maxHeartbeats 4000000 in
set_option maxRecDepth 100000 in
theorem m_So_layAs (l : Launch) (hst : l.stackTraces = false) (D : gD) (g0 : gG) (a0 : Nat) (a1 : Nat) (a2 : Nat) (p3 : Int64) (w : gW) (r : (String ⊕ Unit) × gW) (h : f_So_layAs g0 a0 a1 a2 p3 w = some r) : gMet l y_So_layAs (.code y_So_layAs b_So_layAs 8 none) rm_So_layAs D g0 [.ref a0, .ref a1, .ref a2, .long p3] w (goV r) := by
  refine gw_ofV (by decide +kernel) (Nat.le_of_ble_eq_true rfl) ?_
  intro p e s m below meth c ls args A Q hx hb hml hown hlocks hin hnt hT hK hZ hA hret hexc hthr hI hl
  obtain ⟨H, hH⟩ : ∃ H, H = s.heap := ⟨_, rfl⟩
  rw [← hH] at hI ⊢
  obtain ⟨locs, hlocs⟩ : ∃ z : List Loc, z = [] := ⟨_, rfl⟩
  rw [← hlocs] at hI ⊢
  have hl : lv_has ls 8 [(0, .ref a0), (1, .ref a1), (2, .ref a2), (3, .long p3)] := hl
  unfold f_So_layAs at h
  refine lv_aload_n hx hb d_So_layAs_0 rfl (lv_at hl 0 rfl) ?_
  refine lv_aload_n hx hb d_So_layAs_1 rfl (lv_at hl 1 rfl) ?_
  obtain ⟨v1, e2, h⟩ := gb h
  refine gw_getI hx hb hT hown hK hI (ci := 3) rfl i_3 0 (by decide) wd_129 (fun _ h9 => h9) e2 d_So_layAs_2 ?_
  refine lv_aload_n hx hb d_So_layAs_5 rfl (lv_at hl 1 rfl) ?_
  obtain ⟨v3, e4, h⟩ := gb h
  refine gw_getJ hx hb hT hown hK hI (ci := 3) rfl i_3 1 (by decide) wd_132 (fun _ h9 => h9) e4 d_So_layAs_6 ?_
  refine lv_aload_n hx hb d_So_layAs_9 rfl (lv_at hl 1 rfl) ?_
  obtain ⟨v5, e6, h⟩ := gb h
  refine gw_getJ hx hb hT hown hK hI (ci := 3) rfl i_3 2 (by decide) wd_134 (fun _ h9 => h9) e6 d_So_layAs_10 ?_
  obtain ⟨q9, e10, h⟩ := gb h
  obtain ⟨u7, e8⟩ := gsome h
  refine gw_callV e8 h (gw_runV (As := [.int v1, .long v3, .long v5]) (rest := []) hx hb hml hown hT hK hZ hA hI (ci := 3) rfl e10 (m_So_begin l hst D g0 a0 v1 v3 v5 w u7 e8) ce_So_begin wd_347 wd_349 ⟨by decide, by decide⟩ rfl rfl hl.1 rfl (lv_room (Nat.le_of_ble_eq_true rfl)) d_So_layAs_13 ⟨(show 0 + 0 ≤ 0 by omega), (show 0 + 0 ≤ 0 by omega)⟩) hI hA hexc (show 0 + 0 ≤ 0 by omega) (show 0 + 0 ≤ 0 by omega) (fun v11 w H locs h hI => ?_)
  refine lv_aload_n hx hb d_So_layAs_16 rfl (lv_at hl 2 rfl) ?_
  obtain ⟨v12, e13, h⟩ := gb h
  refine gw_getI hx hb hT hown hK hI (ci := 5) rfl i_5 4 (by decide) wd_658 (fun _ h9 => h9) e13 d_So_layAs_17 ?_
  refine lv_iconst (v := 1) hx hb d_So_layAs_20 (by decide) ?_
  obtain ⟨K29, eK29, h⟩ := gj h
  have hK29 : ∀ (y14 : Int32) (w : gW) (H : Heap) (locs : List Loc) (ls : Array Slot), K29 y14 w = some r → gI D s A w H locs → lv_has ls 8 [(0, .ref a0), (1, .ref a1), (2, .ref a2), (3, .long p3)] → W p l e rm_So_layAs s m args below meth c H locs 0 0 Q (F0 m 29 ls [.int y14]) := by
    intro y14 w H locs ls h hI hl
    have h := gk2 eK29 h
    refine lv_istore (lv' := [(5, .int y14), (0, .ref a0), (1, .ref a1), (2, .ref a2), (3, .long p3)]) hx hb d_So_layAs_29 hl (by decide) rfl (fun ls hl => ?_)
    refine lv_iconst (v := 0) hx hb d_So_layAs_31 (by decide) ?_
    refine lv_istore (lv' := [(6, .int 0), (5, .int y14), (0, .ref a0), (1, .ref a1), (2, .ref a2), (3, .long p3)]) hx hb d_So_layAs_32 hl (by decide) rfl (fun ls hl => ?_)
    obtain ⟨K117, eK117, h⟩ := gj h
    have hK117 : ∀ (w : gW) (H : Heap) (locs : List Loc) (ls : Array Slot), K117 w = some r → gI D s A w H locs → lv_has ls 8 [(0, .ref a0), (1, .ref a1), (2, .ref a2), (3, .long p3)] → W p l e rm_So_layAs s m args below meth c H locs 0 0 Q (F0 m 117 ls []) := by
      intro w H locs ls h hI hl
      have h := gk1 eK117 h
      refine lv_aload_n hx hb d_So_layAs_117 rfl (lv_at hl 2 rfl) ?_
      obtain ⟨v15, e16, h⟩ := gb h
      refine gw_getI hx hb hT hown hK hI (ci := 5) rfl i_5 4 (by decide) wd_658 (fun _ h9 => h9) e16 d_So_layAs_118 ?_
      refine lv_iconst (v := 1) hx hb d_So_layAs_121 (by decide) ?_
      obtain ⟨K158, eK158, h⟩ := gj h
      have hK158 : ∀ (w : gW) (H : Heap) (locs : List Loc) (ls : Array Slot), K158 w = some r → gI D s A w H locs → lv_has ls 8 [] → W p l e rm_So_layAs s m args below meth c H locs 0 0 Q (F0 m 158 ls []) := by
        intro w H locs ls h hI hl
        have h := gk1 eK158 h
        exact W.widen (show 0 ≤ 0 by omega) (show 0 ≤ 0 by omega) (hret _ _ (Option.some.inj h).symm _ _ _ _ d_So_layAs_158 hI)
      refine lv_icmp_ne (tgt := 146) hx hb d_So_layAs_122 (by decide) (fun c17 => ?_) (fun c17 => ?_)
      · skip
        have h := gie c17 h
        refine lv_aload_n hx hb d_So_layAs_146 rfl (lv_at hl 0 rfl) ?_
        refine lv_aload_n hx hb d_So_layAs_147 rfl (lv_at hl 1 rfl) ?_
        obtain ⟨v18, e19, h⟩ := gb h
        refine gw_getJ hx hb hT hown hK hI (ci := 3) rfl i_3 8 (by decide) wd_146 (fun _ h9 => h9) e19 d_So_layAs_148 ?_
        refine lv_aload_n hx hb d_So_layAs_151 rfl (lv_at hl 1 rfl) ?_
        obtain ⟨v20, e21, h⟩ := gb h
        refine gw_getJ hx hb hT hown hK hI (ci := 3) rfl i_3 11 (by decide) wd_152 (fun _ h9 => h9) e21 d_So_layAs_152 ?_
        obtain ⟨q24, e25, h⟩ := gb h
        obtain ⟨u22, e23⟩ := gsome h
        refine gw_callV e23 h (gw_runV (As := [.long v18, .long v20]) (rest := []) hx hb hml hown hT hK hZ hA hI (ci := 3) rfl e25 (m_So_setHeights l hst D g0 a0 v18 v20 w u22 e23) ce_So_setHeights wd_365 wd_367 ⟨by decide, by decide⟩ rfl rfl hl.1 rfl (lv_room (Nat.le_of_ble_eq_true rfl)) d_So_layAs_155 ⟨(show 0 + 0 ≤ 0 by omega), (show 0 + 0 ≤ 0 by omega)⟩) hI hA hexc (show 0 + 0 ≤ 0 by omega) (show 0 + 0 ≤ 0 by omega) (fun v26 w H locs h hI => ?_)
        exact hK158 w H locs ls h hI (lv_sub hl [] rfl)
      · skip
        have h := git c17 h
        refine lv_aload_n hx hb d_So_layAs_125 rfl (lv_at hl 0 rfl) ?_
        refine lv_lload_n hx hb d_So_layAs_126 rfl (lv_at hl 3 rfl) ?_
        refine lv_lneg hx hb d_So_layAs_127 ?_
        refine lv_aload_n hx hb d_So_layAs_128 rfl (lv_at hl 1 rfl) ?_
        obtain ⟨v27, e28, h⟩ := gb h
        refine gw_getJ hx hb hT hown hK hI (ci := 3) rfl i_3 11 (by decide) wd_152 (fun _ h9 => h9) e28 d_So_layAs_129 ?_
        refine lv_lsub hx hb d_So_layAs_132 ?_
        refine lv_lload_n hx hb d_So_layAs_133 rfl (lv_at hl 3 rfl) ?_
        refine lv_lneg hx hb d_So_layAs_134 ?_
        refine lv_aload_n hx hb d_So_layAs_135 rfl (lv_at hl 1 rfl) ?_
        obtain ⟨v29, e30, h⟩ := gb h
        refine gw_getJ hx hb hT hown hK hI (ci := 3) rfl i_3 8 (by decide) wd_146 (fun _ h9 => h9) e30 d_So_layAs_136 ?_
        refine lv_lsub hx hb d_So_layAs_139 ?_
        obtain ⟨q33, e34, h⟩ := gb h
        obtain ⟨u31, e32⟩ := gsome h
        refine gw_callV e32 h (gw_runV (As := [.long ((-p3) - v27), .long ((-p3) - v29)]) (rest := []) hx hb hml hown hT hK hZ hA hI (ci := 3) rfl e34 (m_So_setHeights l hst D g0 a0 ((-p3) - v27) ((-p3) - v29) w u31 e32) ce_So_setHeights wd_365 wd_367 ⟨by decide, by decide⟩ rfl rfl hl.1 rfl (lv_room (Nat.le_of_ble_eq_true rfl)) d_So_layAs_140 ⟨(show 0 + 0 ≤ 0 by omega), (show 0 + 0 ≤ 0 by omega)⟩) hI hA hexc (show 0 + 0 ≤ 0 by omega) (show 0 + 0 ≤ 0 by omega) (fun v35 w H locs h hI => ?_)
        refine lv_goto (tgt := 158) hx hb d_So_layAs_143 (by decide) ?_
        exact hK158 w H locs ls h hI (lv_sub hl [] rfl)
    have hL34 : ∀ (n : Nat), ∀ (z36 : Int32) (w : gW) (H : Heap) (locs : List Loc) (ls : Array Slot), f_So_layAs_L34 g0 a0 a1 a2 p3 y14 K117 n z36 w = some r → gI D s A w H locs → lv_has ls 8 [(0, .ref a0), (1, .ref a1), (2, .ref a2), (3, .long p3), (5, .int y14), (6, .int z36)] → W p l e rm_So_layAs s m args below meth c H locs 0 0 Q (F0 m 34 ls []) := by
      intro n
      induction n with
      | zero => intro z36 w H locs ls h hI hl; exact absurd h (by simp [f_So_layAs_L34])
      | succ n ih =>
        intro z36 w H locs ls h hI hl
        rw [f_So_layAs_L34] at h
        refine lv_iload hx hb d_So_layAs_34 (lv_at hl 5 rfl) ?_
        refine lv_aload_n hx hb d_So_layAs_36 rfl (lv_at hl 1 rfl) ?_
        obtain ⟨v37, e38, h⟩ := gb h
        refine gw_getI hx hb hT hown hK hI (ci := 3) rfl i_3 5 (by decide) wd_139 (fun _ h9 => h9) e38 d_So_layAs_37 ?_
        refine lv_icmp_ge (tgt := 117) hx hb d_So_layAs_40 (by decide) (fun c39 => ?_) (fun c39 => ?_)
        · skip
          have h := git c39 h
          exact hK117 w H locs ls h hI (lv_sub hl [0, 1, 2, 3] rfl)
        · skip
          have h := gie c39 h
          refine lv_iload hx hb d_So_layAs_43 (lv_at hl 5 rfl) ?_
          refine lv_bipush (v := 8) hx hb d_So_layAs_45 (by decide) ?_
          refine lv_icmp_ge (tgt := 117) hx hb d_So_layAs_47 (by decide) (fun c40 => ?_) (fun c40 => ?_)
          · skip
            have h := git c40 h
            exact hK117 w H locs ls h hI (lv_sub hl [0, 1, 2, 3] rfl)
          · skip
            have h := gie c40 h
            refine lv_iload hx hb d_So_layAs_50 (lv_at hl 4 rfl) ?_
            obtain ⟨K69, eK69, h⟩ := gj h
            have hK69 : ∀ (y41 : Int32) (w : gW) (H : Heap) (locs : List Loc) (ls : Array Slot), K69 y41 w = some r → gI D s A w H locs → lv_has ls 8 [(0, .ref a0), (1, .ref a1), (2, .ref a2), (3, .long p3), (5, .int y14), (6, .int z36)] → W p l e rm_So_layAs s m args below meth c H locs 0 0 Q (F0 m 69 ls [.int y41]) := by
              intro y41 w H locs ls h hI hl
              have h := gk2 eK69 h
              refine lv_istore (lv' := [(7, .int y41), (0, .ref a0), (1, .ref a1), (2, .ref a2), (3, .long p3), (5, .int y14), (6, .int z36)]) hx hb d_So_layAs_69 hl (by decide) rfl (fun ls hl => ?_)
              refine lv_aload_n hx hb d_So_layAs_71 rfl (lv_at hl 1 rfl) ?_
              refine lv_aload_n hx hb d_So_layAs_72 rfl (lv_at hl 3 rfl) ?_
              refine lv_aload_n hx hb d_So_layAs_73 rfl (lv_at hl 2 rfl) ?_
              obtain ⟨v42, e43, h⟩ := gb h
              refine gw_getA hx hb hT hown hK hI (ci := 3) rfl i_3 3 (by decide) wd_135 (fun _ h9 => h9) e43 d_So_layAs_74 ?_
              refine lv_iload hx hb d_So_layAs_77 (lv_at hl 0 rfl) ?_
              obtain ⟨v44, e45, h⟩ := gb h
              refine gw_aldJ hx hb hK hI e45 d_So_layAs_79 ?_
              refine lv_aload_n hx hb d_So_layAs_80 rfl (lv_at hl 2 rfl) ?_
              obtain ⟨v46, e47, h⟩ := gb h
              refine gw_getA hx hb hT hown hK hI (ci := 3) rfl i_3 4 (by decide) wd_137 (fun _ h9 => h9) e47 d_So_layAs_81 ?_
              refine lv_iload hx hb d_So_layAs_84 (lv_at hl 0 rfl) ?_
              obtain ⟨v48, e49, h⟩ := gb h
              refine gw_aldJ hx hb hK hI e49 d_So_layAs_86 ?_
              obtain ⟨q52, e53, h⟩ := gb h
              obtain ⟨u50, e51⟩ := gsome h
              refine gw_callJ e51 h (gw_runV (As := [.long v44, .long v48]) (rest := [.ref a0]) hx hb hml hown hT hK hZ hA hI (ci := 5) rfl e53 (m_Pl_boardX l hst D g0 a2 v44 v48 w u50 e51) ce_Pl_boardX wd_351 wd_353 ⟨by decide, by decide⟩ rfl rfl hl.1 rfl (lv_room (Nat.le_of_ble_eq_true rfl)) d_So_layAs_87 ⟨(show 0 + 0 ≤ 0 by omega), (show 0 + 0 ≤ 0 by omega)⟩) hI hA hexc (show 0 + 0 ≤ 0 by omega) (show 0 + 0 ≤ 0 by omega) (fun v54 w H locs h hI => ?_)
              refine lv_aload_n hx hb d_So_layAs_90 rfl (lv_at hl 3 rfl) ?_
              refine lv_aload_n hx hb d_So_layAs_91 rfl (lv_at hl 2 rfl) ?_
              obtain ⟨v55, e56, h⟩ := gb h
              refine gw_getA hx hb hT hown hK hI (ci := 3) rfl i_3 3 (by decide) wd_135 (fun _ h9 => h9) e56 d_So_layAs_92 ?_
              refine lv_iload hx hb d_So_layAs_95 (lv_at hl 0 rfl) ?_
              obtain ⟨v57, e58, h⟩ := gb h
              refine gw_aldJ hx hb hK hI e58 d_So_layAs_97 ?_
              refine lv_aload_n hx hb d_So_layAs_98 rfl (lv_at hl 2 rfl) ?_
              obtain ⟨v59, e60, h⟩ := gb h
              refine gw_getA hx hb hT hown hK hI (ci := 3) rfl i_3 4 (by decide) wd_137 (fun _ h9 => h9) e60 d_So_layAs_99 ?_
              refine lv_iload hx hb d_So_layAs_102 (lv_at hl 0 rfl) ?_
              obtain ⟨v61, e62, h⟩ := gb h
              refine gw_aldJ hx hb hK hI e62 d_So_layAs_104 ?_
              obtain ⟨q65, e66, h⟩ := gb h
              obtain ⟨u63, e64⟩ := gsome h
              refine gw_callJ e64 h (gw_runV (As := [.long v57, .long v61]) (rest := [.long v54, .ref a0]) hx hb hml hown hT hK hZ hA hI (ci := 5) rfl e66 (m_Pl_boardY l hst D g0 a2 v57 v61 w u63 e64) ce_Pl_boardY wd_355 wd_357 ⟨by decide, by decide⟩ rfl rfl hl.1 rfl (lv_room (Nat.le_of_ble_eq_true rfl)) d_So_layAs_105 ⟨(show 0 + 0 ≤ 0 by omega), (show 0 + 0 ≤ 0 by omega)⟩) hI hA hexc (show 0 + 0 ≤ 0 by omega) (show 0 + 0 ≤ 0 by omega) (fun v67 w H locs h hI => ?_)
              obtain ⟨q70, e71, h⟩ := gb h
              obtain ⟨u68, e69⟩ := gsome h
              refine gw_callV e69 h (gw_runV (As := [.long v54, .long v67]) (rest := []) hx hb hml hown hT hK hZ hA hI (ci := 3) rfl e71 (m_So_addCorner l hst D g0 a0 v54 v67 w u68 e69) ce_So_addCorner wd_359 wd_361 ⟨by decide, by decide⟩ rfl rfl hl.1 rfl (lv_room (Nat.le_of_ble_eq_true rfl)) d_So_layAs_108 ⟨(show 0 + 0 ≤ 0 by omega), (show 0 + 0 ≤ 0 by omega)⟩) hI hA hexc (show 0 + 0 ≤ 0 by omega) (show 0 + 0 ≤ 0 by omega) (fun v72 w H locs h hI => ?_)
              refine lv_iinc (v := z36 + 1) (lv' := [(6, .int (z36 + 1)), (7, .int y41), (0, .ref a0), (1, .ref a1), (2, .ref a2), (3, .long p3), (5, .int y14)]) hx hb d_So_layAs_111 hl (k := 6) rfl rfl (by decide) rfl (fun ls hl => ?_)
              refine lv_goto (tgt := 34) hx hb d_So_layAs_114 (by decide) ?_
              exact ih _ w H locs ls h hI (lv_sub hl [2, 3, 4, 5, 6, 0] rfl)
            refine lv_if_eq (tgt := 67) hx hb d_So_layAs_52 (by decide) (fun c73 => ?_) (fun c73 => ?_)
            · skip
              have h := git c73 h
              refine lv_iload hx hb d_So_layAs_67 (lv_at hl 5 rfl) ?_
              exact hK69 _ w H locs ls h hI (lv_sub hl [0, 1, 2, 3, 4, 5] rfl)
            · skip
              have h := gie c73 h
              refine lv_aload_n hx hb d_So_layAs_55 rfl (lv_at hl 1 rfl) ?_
              obtain ⟨v74, e75, h⟩ := gb h
              refine gw_getI hx hb hT hown hK hI (ci := 3) rfl i_3 5 (by decide) wd_139 (fun _ h9 => h9) e75 d_So_layAs_56 ?_
              refine lv_iconst (v := 1) hx hb d_So_layAs_59 (by decide) ?_
              refine lv_isub hx hb d_So_layAs_60 ?_
              refine lv_iload hx hb d_So_layAs_61 (lv_at hl 5 rfl) ?_
              refine lv_isub hx hb d_So_layAs_63 ?_
              refine lv_goto (tgt := 69) hx hb d_So_layAs_64 (by decide) ?_
              exact hK69 _ w H locs ls h hI (lv_sub hl [0, 1, 2, 3, 4, 5] rfl)
    exact hL34 64 _ w H locs ls h hI (lv_sub hl [2, 3, 4, 5, 1, 0] rfl)
  refine lv_icmp_ne (tgt := 28) hx hb d_So_layAs_21 (by decide) (fun c76 => ?_) (fun c76 => ?_)
  · skip
    have h := gie c76 h
    refine lv_iconst (v := 0) hx hb d_So_layAs_28 (by decide) ?_
    exact hK29 _ w H locs ls h hI (lv_sub hl [0, 1, 2, 3] rfl)
  · skip
    have h := git c76 h
    refine lv_iconst (v := 1) hx hb d_So_layAs_24 (by decide) ?_
    refine lv_goto (tgt := 29) hx hb d_So_layAs_25 (by decide) ?_
    exact hK29 _ w H locs ls h hI (lv_sub hl [0, 1, 2, 3] rfl)

abbrev b_La_lay : ByteArray := prog_4_method_2_code
def y_La_lay : MethodName := ⟨"BodySolids$Layout", "lay", "(LBodySolids$Placement;J)V"⟩
theorem d_La_lay_0 : decode b_La_lay 0 = .ok (.aload_n 1, 1) := by decide +kernel
theorem d_La_lay_1 : decode b_La_lay 1 = .ok (.getfield 22, 3) := by decide +kernel
theorem d_La_lay_4 : decode b_La_lay 4 = .ok (.getfield 28, 3) := by decide +kernel
theorem d_La_lay_7 : decode b_La_lay 7 = .ok (.astore 4, 2) := by decide +kernel
theorem d_La_lay_9 : decode b_La_lay 9 = .ok (.aload_n 0, 1) := by decide +kernel
theorem d_La_lay_10 : decode b_La_lay 10 = .ok (.aload 4, 2) := by decide +kernel
theorem d_La_lay_12 : decode b_La_lay 12 = .ok (.invokevirtual 33, 3) := by decide +kernel
theorem d_La_lay_15 : decode b_La_lay 15 = .ok (.bipush 12, 2) := by decide +kernel
theorem d_La_lay_17 : decode b_La_lay 17 = .ok (.invokestatic 39, 3) := by decide +kernel
theorem d_La_lay_20 : decode b_La_lay 20 = .ok (.putfield 17, 3) := by decide +kernel
theorem d_La_lay_23 : decode b_La_lay 23 = .ok (.iconst 0, 1) := by decide +kernel
theorem d_La_lay_24 : decode b_La_lay 24 = .ok (.istore 5, 2) := by decide +kernel
theorem d_La_lay_26 : decode b_La_lay 26 = .ok (.iload 5, 2) := by decide +kernel
theorem d_La_lay_28 : decode b_La_lay 28 = .ok (.aload_n 0, 1) := by decide +kernel
theorem d_La_lay_29 : decode b_La_lay 29 = .ok (.getfield 17, 3) := by decide +kernel
theorem d_La_lay_32 : decode b_La_lay 32 = .ok (.if_icmp .ge 31, 3) := by decide +kernel
theorem d_La_lay_35 : decode b_La_lay 35 = .ok (.aload_n 0, 1) := by decide +kernel
theorem d_La_lay_36 : decode b_La_lay 36 = .ok (.getfield 11, 3) := by decide +kernel
theorem d_La_lay_39 : decode b_La_lay 39 = .ok (.iload 5, 2) := by decide +kernel
theorem d_La_lay_41 : decode b_La_lay 41 = .ok (.aaload, 1) := by decide +kernel
theorem d_La_lay_42 : decode b_La_lay 42 = .ok (.aload 4, 2) := by decide +kernel
theorem d_La_lay_44 : decode b_La_lay 44 = .ok (.iload 5, 2) := by decide +kernel
theorem d_La_lay_46 : decode b_La_lay 46 = .ok (.invokevirtual 45, 3) := by decide +kernel
theorem d_La_lay_49 : decode b_La_lay 49 = .ok (.checkcast 9, 3) := by decide +kernel
theorem d_La_lay_52 : decode b_La_lay 52 = .ok (.aload_n 1, 1) := by decide +kernel
theorem d_La_lay_53 : decode b_La_lay 53 = .ok (.lload_n 2, 1) := by decide +kernel
theorem d_La_lay_54 : decode b_La_lay 54 = .ok (.invokevirtual 49, 3) := by decide +kernel
theorem d_La_lay_57 : decode b_La_lay 57 = .ok (.iinc 5 1, 3) := by decide +kernel
theorem d_La_lay_60 : decode b_La_lay 60 = .ok (.goto (-34), 3) := by decide +kernel
theorem d_La_lay_63 : decode b_La_lay 63 = .ok (.return_, 1) := by decide +kernel
abbrev rm_La_lay : Room := { frames := 3, cells := 0, slots := 0, locals := 74 }
theorem ce_La_lay : gCe y_La_lay (.code y_La_lay b_La_lay 6 none) 6 2 false := gCe.code wd_339 wd_55 wd_337 (by decide) (by decide +kernel)
def f_La_lay_L26 (g0 : gG) (c0 : Nat) (c1 : Nat) (c2 : Int64) (c4 : Nat) (K63 : gW → gX Unit) : Nat → Int32 → gW → gX Unit
  | 0, _, _ => none
  | n + 1, z5, w => (gfI w c0 2 1).bind fun v14 => if v14 ≤ z5 then (K63 w) else ((gfA w c0 2 0).bind fun v17 => (gaA w v17 z5).bind fun v19 => (gck w c4 1).bind fun _ => gbind (f_AL_get g0 c4 z5 w) fun v25 w => (gck w v25 3).bind fun _ => (gck w v19 3).bind fun _ => gbind (f_So_layAs g0 v19 v25 c1 c2 w) fun v32 w => f_La_lay_L26 g0 c0 c1 c2 c4 K63 n (z5 + 1) w)
def f_La_lay (g0 : gG) (a0 : Nat) (a1 : Nat) (p2 : Int64) (w : gW) : gX Unit := (gfA w a1 5 0).bind fun v1 => (gfA w v1 4 0).bind fun v3 => (gck w v3 1).bind fun _ => gbind (f_AL_size g0 v3 w) fun v9 w => gbind (f_Ma_min g0 v9 12 w) fun v12 w => (gp w a0 2 1 (.int v12)).bind fun w => gjoin (fun K63 => f_La_lay_L26 g0 a0 a1 p2 v3 K63 64 0 w) (fun (w : gW) => some (.inr (), w))
set_option maxHeartbeats 4000000 in
set_option maxRecDepth 100000 in
theorem m_La_lay (l : Launch) (hst : l.stackTraces = false) (D : gD) (g0 : gG) (a0 : Nat) (a1 : Nat) (p2 : Int64) (w : gW) (r : (String ⊕ Unit) × gW) (h : f_La_lay g0 a0 a1 p2 w = some r) : gMet l y_La_lay (.code y_La_lay b_La_lay 6 none) rm_La_lay D g0 [.ref a0, .ref a1, .long p2] w (goV r) := by
  refine gw_ofV (by decide +kernel) (Nat.le_of_ble_eq_true rfl) ?_
  intro p e s m below meth c ls args A Q hx hb hml hown hlocks hin hnt hT hK hZ hA hret hexc hthr hI hl
  obtain ⟨H, hH⟩ : ∃ H, H = s.heap := ⟨_, rfl⟩
  rw [← hH] at hI ⊢
  obtain ⟨locs, hlocs⟩ : ∃ z : List Loc, z = [] := ⟨_, rfl⟩
  rw [← hlocs] at hI ⊢
  have hl : lv_has ls 6 [(0, .ref a0), (1, .ref a1), (2, .long p2)] := hl
  unfold f_La_lay at h
  refine lv_aload_n hx hb d_La_lay_0 rfl (lv_at hl 1 rfl) ?_
  obtain ⟨v1, e2, h⟩ := gb h
  refine gw_getA hx hb hT hown hK hI (ci := 5) rfl i_5 0 (by decide) wd_652 (fun _ h9 => h9) e2 d_La_lay_1 ?_
  obtain ⟨v3, e4, h⟩ := gb h
  refine gw_getA hx hb hT hown hK hI (ci := 4) rfl i_4 0 (by decide) wd_237 (fun _ h9 => h9) e4 d_La_lay_4 ?_
  refine lv_astore (lv' := [(4, .ref v3), (0, .ref a0), (1, .ref a1), (2, .long p2)]) hx hb d_La_lay_7 hl (by decide) rfl (fun ls hl => ?_)
  refine lv_aload_n hx hb d_La_lay_9 rfl (lv_at hl 1 rfl) ?_
  refine lv_aload hx hb d_La_lay_10 (lv_at hl 0 rfl) ?_
  obtain ⟨q7, e8, h⟩ := gb h
  obtain ⟨u5, e6⟩ := gsome h
  refine gw_callI e6 h (gw_runV (As := []) (rest := [.ref a0]) hx hb hml hown hT hK hZ hA hI (ci := 1) rfl e8 (m_AL_size l hst D g0 v3 w u5 e6) ce_AL_size wd_340 wd_226 ⟨by decide, by decide⟩ rfl rfl hl.1 rfl (lv_room (Nat.le_of_ble_eq_true rfl)) d_La_lay_12 ⟨(show 0 + 0 ≤ 0 by omega), (show 0 + 0 ≤ 0 by omega)⟩) hI hA hexc (show 0 + 0 ≤ 0 by omega) (show 0 + 0 ≤ 0 by omega) (fun v9 w H locs h hI => ?_)
  refine lv_bipush (v := 12) hx hb d_La_lay_15 (by decide) ?_
  obtain ⟨u10, e11⟩ := gsome h
  refine gw_callI e11 h (gw_runS (As := [.int v9, .int 12]) (rest := [.ref a0]) hx hb hml hown hT hK hZ hA hI (m_Ma_min l hst D g0 v9 12 w u10 e11) ce_Ma_min wd_341 ⟨by decide, by decide⟩ rfl rfl hl.1 rfl (lv_room (Nat.le_of_ble_eq_true rfl)) d_La_lay_17 ⟨(show 0 + 0 ≤ 0 by omega), (show 0 + 0 ≤ 0 by omega)⟩) hI hA hexc (show 0 + 0 ≤ 0 by omega) (show 0 + 0 ≤ 0 by omega) (fun v12 w H locs h hI => ?_)
  obtain ⟨w, e13, h⟩ := gb h
  refine gw_put hx hb hT hown hK hI (ci := 2) rfl i_2 t_2 t_2_ok n_2 1 (by decide) wd_182 (fun _ h9 => h9) rfl (ty := .int) (by decide +kernel) rfl rfl e13 d_La_lay_20 (fun H locs hI => ?_)
  refine lv_iconst (v := 0) hx hb d_La_lay_23 (by decide) ?_
  refine lv_istore (lv' := [(5, .int 0), (4, .ref v3), (0, .ref a0), (1, .ref a1), (2, .long p2)]) hx hb d_La_lay_24 hl (by decide) rfl (fun ls hl => ?_)
  obtain ⟨K63, eK63, h⟩ := gj h
  have hK63 : ∀ (w : gW) (H : Heap) (locs : List Loc) (ls : Array Slot), K63 w = some r → gI D s A w H locs → lv_has ls 6 [] → W p l e rm_La_lay s m args below meth c H locs 0 0 Q (F0 m 63 ls []) := by
    intro w H locs ls h hI hl
    have h := gk1 eK63 h
    exact W.widen (show 0 ≤ 0 by omega) (show 0 ≤ 0 by omega) (hret _ _ (Option.some.inj h).symm _ _ _ _ d_La_lay_63 hI)
  have hL26 : ∀ (n : Nat), ∀ (z14 : Int32) (w : gW) (H : Heap) (locs : List Loc) (ls : Array Slot), f_La_lay_L26 g0 a0 a1 p2 v3 K63 n z14 w = some r → gI D s A w H locs → lv_has ls 6 [(0, .ref a0), (1, .ref a1), (2, .long p2), (4, .ref v3), (5, .int z14)] → W p l e rm_La_lay s m args below meth c H locs 0 0 Q (F0 m 26 ls []) := by
    intro n
    induction n with
    | zero => intro z14 w H locs ls h hI hl; exact absurd h (by simp [f_La_lay_L26])
    | succ n ih =>
      intro z14 w H locs ls h hI hl
      rw [f_La_lay_L26] at h
      refine lv_iload hx hb d_La_lay_26 (lv_at hl 4 rfl) ?_
      refine lv_aload_n hx hb d_La_lay_28 rfl (lv_at hl 0 rfl) ?_
      obtain ⟨v15, e16, h⟩ := gb h
      refine gw_getI hx hb hT hown hK hI (ci := 2) rfl i_2 1 (by decide) wd_182 (fun _ h9 => h9) e16 d_La_lay_29 ?_
      refine lv_icmp_ge (tgt := 63) hx hb d_La_lay_32 (by decide) (fun c17 => ?_) (fun c17 => ?_)
      · skip
        have h := git c17 h
        exact hK63 w H locs ls h hI (lv_sub hl [] rfl)
      · skip
        have h := gie c17 h
        refine lv_aload_n hx hb d_La_lay_35 rfl (lv_at hl 0 rfl) ?_
        obtain ⟨v18, e19, h⟩ := gb h
        refine gw_getA hx hb hT hown hK hI (ci := 2) rfl i_2 0 (by decide) wd_180 (fun _ h9 => h9) e19 d_La_lay_36 ?_
        refine lv_iload hx hb d_La_lay_39 (lv_at hl 4 rfl) ?_
        obtain ⟨v20, e21, h⟩ := gb h
        refine gw_aldA hx hb hK hI e21 d_La_lay_41 ?_
        refine lv_aload hx hb d_La_lay_42 (lv_at hl 3 rfl) ?_
        refine lv_iload hx hb d_La_lay_44 (lv_at hl 4 rfl) ?_
        obtain ⟨q24, e25, h⟩ := gb h
        obtain ⟨u22, e23⟩ := gsome h
        refine gw_callA e23 h (gw_runV (As := [.int z14]) (rest := [.ref v20]) hx hb hml hown hT hK hZ hA hI (ci := 1) rfl e25 (m_AL_get l hst D g0 v3 z14 w u22 e23) ce_AL_get wd_342 wd_323 ⟨by decide, by decide⟩ rfl rfl hl.1 rfl (lv_room (Nat.le_of_ble_eq_true rfl)) d_La_lay_46 ⟨(show 0 + 0 ≤ 0 by omega), (show 0 + 0 ≤ 0 by omega)⟩) hI hA hexc (show 0 + 0 ≤ 0 by omega) (show 0 + 0 ≤ 0 by omega) (fun v26 w H locs h hI => ?_)
        obtain ⟨q28, e27, h⟩ := gb h
        refine gw_cast hx hb hT hown hK hI wd_122 (ci := 3) rfl wd_1124 e27 d_La_lay_49 ?_
        refine lv_aload_n hx hb d_La_lay_52 rfl (lv_at hl 1 rfl) ?_
        refine lv_lload_n hx hb d_La_lay_53 rfl (lv_at hl 2 rfl) ?_
        obtain ⟨q31, e32, h⟩ := gb h
        obtain ⟨u29, e30⟩ := gsome h
        refine gw_callV e30 h (gw_runV (As := [.ref v26, .ref a1, .long p2]) (rest := []) hx hb hml hown hT hK hZ hA hI (ci := 3) rfl e32 (m_So_layAs l hst D g0 v20 v26 a1 p2 w u29 e30) ce_So_layAs wd_343 wd_345 ⟨by decide, by decide⟩ rfl rfl hl.1 rfl (lv_room (Nat.le_of_ble_eq_true rfl)) d_La_lay_54 ⟨(show 0 + 0 ≤ 0 by omega), (show 0 + 0 ≤ 0 by omega)⟩) hI hA hexc (show 0 + 0 ≤ 0 by omega) (show 0 + 0 ≤ 0 by omega) (fun v33 w H locs h hI => ?_)
        refine lv_iinc (v := z14 + 1) (lv' := [(5, .int (z14 + 1)), (0, .ref a0), (1, .ref a1), (2, .long p2), (4, .ref v3)]) hx hb d_La_lay_57 hl (k := 4) rfl rfl (by decide) rfl (fun ls hl => ?_)
        refine lv_goto (tgt := 26) hx hb d_La_lay_60 (by decide) ?_
        exact ih _ w H locs ls h hI (lv_sub hl [1, 2, 3, 4, 0] rfl)
  exact hL26 64 _ w H locs ls h hI (lv_sub hl [2, 3, 4, 1, 0] rfl)

abbrev b_Me_gap : ByteArray := prog_5_method_3_code
def y_Me_gap : MethodName := ⟨"BodySolids$Meeting", "gap", "(JJJJ)J"⟩
theorem d_Me_gap_0 : decode b_Me_gap 0 = .ok (.lload 4, 2) := by decide +kernel
theorem d_Me_gap_2 : decode b_Me_gap 2 = .ok (.lload_n 2, 1) := by decide +kernel
theorem d_Me_gap_3 : decode b_Me_gap 3 = .ok (.lsub, 1) := by decide +kernel
theorem d_Me_gap_4 : decode b_Me_gap 4 = .ok (.lload_n 0, 1) := by decide +kernel
theorem d_Me_gap_5 : decode b_Me_gap 5 = .ok (.lload 6, 2) := by decide +kernel
theorem d_Me_gap_7 : decode b_Me_gap 7 = .ok (.lsub, 1) := by decide +kernel
theorem d_Me_gap_8 : decode b_Me_gap 8 = .ok (.invokestatic 68, 3) := by decide +kernel
theorem d_Me_gap_11 : decode b_Me_gap 11 = .ok (.lreturn, 1) := by decide +kernel
abbrev rm_Me_gap : Room := { frames := 1, cells := 0, slots := 0, locals := 23 }
theorem ce_Me_gap : gCe y_Me_gap (.code y_Me_gap b_Me_gap 8 (some .long)) 8 4 true := gCe.code wd_378 wd_69 wd_377 (by decide) (by decide +kernel)
def f_Me_gap (g0 : gG) (p0 : Int64) (p1 : Int64) (p2 : Int64) (p3 : Int64) (w : gW) : gX Int64 := gbind (f_Ma_max2 g0 (p2 - p1) (p0 - p3) w) fun v3 w => some (.inr v3, w)
set_option maxHeartbeats 4000000 in
set_option maxRecDepth 100000 in
theorem m_Me_gap (l : Launch) (hst : l.stackTraces = false) (D : gD) (g0 : gG) (p0 : Int64) (p1 : Int64) (p2 : Int64) (p3 : Int64) (w : gW) (r : (String ⊕ Int64) × gW) (h : f_Me_gap g0 p0 p1 p2 p3 w = some r) : gMet l y_Me_gap (.code y_Me_gap b_Me_gap 8 (some .long)) rm_Me_gap D g0 [.long p0, .long p1, .long p2, .long p3] w (goJ r) := by
  refine gw_ofJ (by decide +kernel) (Nat.le_of_ble_eq_true rfl) ?_
  intro p e s m below meth c ls args A Q hx hb hml hown hlocks hin hnt hT hK hZ hA hret hexc hthr hI hl
  obtain ⟨H, hH⟩ : ∃ H, H = s.heap := ⟨_, rfl⟩
  rw [← hH] at hI ⊢
  obtain ⟨locs, hlocs⟩ : ∃ z : List Loc, z = [] := ⟨_, rfl⟩
  rw [← hlocs] at hI ⊢
  have hl : lv_has ls 8 [(0, .long p0), (2, .long p1), (4, .long p2), (6, .long p3)] := hl
  unfold f_Me_gap at h
  refine lv_lload hx hb d_Me_gap_0 (lv_at hl 2 rfl) ?_
  refine lv_lload_n hx hb d_Me_gap_2 rfl (lv_at hl 1 rfl) ?_
  refine lv_lsub hx hb d_Me_gap_3 ?_
  refine lv_lload_n hx hb d_Me_gap_4 rfl (lv_at hl 0 rfl) ?_
  refine lv_lload hx hb d_Me_gap_5 (lv_at hl 3 rfl) ?_
  refine lv_lsub hx hb d_Me_gap_7 ?_
  obtain ⟨u1, e2⟩ := gsome h
  refine gw_callJ e2 h (gw_runS (As := [.long (p2 - p1), .long (p0 - p3)]) (rest := []) hx hb hml hown hT hK hZ hA hI (m_Ma_max2 l hst D g0 (p2 - p1) (p0 - p3) w u1 e2) ce_Ma_max2 wd_379 ⟨by decide, by decide⟩ rfl rfl hl.1 rfl (lv_room (Nat.le_of_ble_eq_true rfl)) d_Me_gap_8 ⟨(show 0 + 0 ≤ 0 by omega), (show 0 + 0 ≤ 0 by omega)⟩) hI hA hexc (show 0 + 0 ≤ 0 by omega) (show 0 + 0 ≤ 0 by omega) (fun v3 w H locs h hI => ?_)
  exact W.widen (show 0 ≤ 0 by omega) (show 0 ≤ 0 by omega) (hret _ _ (Option.some.inj h).symm _ _ _ _ d_Me_gap_11 hI)

abbrev b_Me_sign : ByteArray := prog_5_method_4_code
def y_Me_sign : MethodName := ⟨"BodySolids$Meeting", "sign", "(J)I"⟩
theorem d_Me_sign_0 : decode b_Me_sign 0 = .ok (.lload_n 0, 1) := by decide +kernel
theorem d_Me_sign_1 : decode b_Me_sign 1 = .ok (.lconst 0, 1) := by decide +kernel
theorem d_Me_sign_2 : decode b_Me_sign 2 = .ok (.lcmp, 1) := by decide +kernel
theorem d_Me_sign_3 : decode b_Me_sign 3 = .ok (.ifCond .le 7, 3) := by decide +kernel
theorem d_Me_sign_6 : decode b_Me_sign 6 = .ok (.iconst 1, 1) := by decide +kernel
theorem d_Me_sign_7 : decode b_Me_sign 7 = .ok (.goto 14, 3) := by decide +kernel
theorem d_Me_sign_10 : decode b_Me_sign 10 = .ok (.lload_n 0, 1) := by decide +kernel
theorem d_Me_sign_11 : decode b_Me_sign 11 = .ok (.lconst 0, 1) := by decide +kernel
theorem d_Me_sign_12 : decode b_Me_sign 12 = .ok (.lcmp, 1) := by decide +kernel
theorem d_Me_sign_13 : decode b_Me_sign 13 = .ok (.ifCond .ge 7, 3) := by decide +kernel
theorem d_Me_sign_16 : decode b_Me_sign 16 = .ok (.iconst (-1), 1) := by decide +kernel
theorem d_Me_sign_17 : decode b_Me_sign 17 = .ok (.goto 4, 3) := by decide +kernel
theorem d_Me_sign_20 : decode b_Me_sign 20 = .ok (.iconst 0, 1) := by decide +kernel
theorem d_Me_sign_21 : decode b_Me_sign 21 = .ok (.ireturn, 1) := by decide +kernel
abbrev rm_Me_sign : Room := { frames := 0, cells := 0, slots := 0, locals := 0 }
theorem ce_Me_sign : gCe y_Me_sign (.code y_Me_sign b_Me_sign 2 (some .int)) 2 1 true := gCe.code wd_385 wd_69 wd_384 (by decide) (by decide +kernel)
def f_Me_sign (g0 : gG) (p0 : Int64) (w : gW) : gX Int32 := gjoin (fun K21 => if p0 ≤ 0 then (if 0 ≤ p0 then (K21 0 w) else (K21 (-1) w)) else (K21 1 w)) (fun (y1 : Int32) (w : gW) => some (.inr y1, w))
set_option maxHeartbeats 4000000 in
set_option maxRecDepth 100000 in
theorem m_Me_sign (l : Launch) (hst : l.stackTraces = false) (D : gD) (g0 : gG) (p0 : Int64) (w : gW) (r : (String ⊕ Int32) × gW) (h : f_Me_sign g0 p0 w = some r) : gMet l y_Me_sign (.code y_Me_sign b_Me_sign 2 (some .int)) rm_Me_sign D g0 [.long p0] w (goI r) := by
  refine gw_ofI (by decide +kernel) (Nat.le_of_ble_eq_true rfl) ?_
  intro p e s m below meth c ls args A Q hx hb hml hown hlocks hin hnt hT hK hZ hA hret hexc hthr hI hl
  obtain ⟨H, hH⟩ : ∃ H, H = s.heap := ⟨_, rfl⟩
  rw [← hH] at hI ⊢
  obtain ⟨locs, hlocs⟩ : ∃ z : List Loc, z = [] := ⟨_, rfl⟩
  rw [← hlocs] at hI ⊢
  have hl : lv_has ls 2 [(0, .long p0)] := hl
  unfold f_Me_sign at h
  refine lv_lload_n hx hb d_Me_sign_0 rfl (lv_at hl 0 rfl) ?_
  refine lv_lconst (v := 0) hx hb d_Me_sign_1 (by decide) ?_
  refine W.lcmp hx hb d_Me_sign_2 ?_
  obtain ⟨K21, eK21, h⟩ := gj h
  have hK21 : ∀ (y1 : Int32) (w : gW) (H : Heap) (locs : List Loc) (ls : Array Slot), K21 y1 w = some r → gI D s A w H locs → lv_has ls 2 [] → W p l e rm_Me_sign s m args below meth c H locs 0 0 Q (F0 m 21 ls [.int y1]) := by
    intro y1 w H locs ls h hI hl
    have h := gk2 eK21 h
    exact W.widen (show 0 ≤ 0 by omega) (show 0 ≤ 0 by omega) (hret _ _ (Option.some.inj h).symm _ _ _ _ d_Me_sign_21 hI)
  refine lv_if_le (tgt := 10) hx hb d_Me_sign_3 (by decide) (fun c2 => ?_) (fun c2 => ?_)
  · have c2 := (lg_cmp_le _ _).mp c2
    have h := git c2 h
    refine lv_lload_n hx hb d_Me_sign_10 rfl (lv_at hl 0 rfl) ?_
    refine lv_lconst (v := 0) hx hb d_Me_sign_11 (by decide) ?_
    refine W.lcmp hx hb d_Me_sign_12 ?_
    refine lv_if_ge (tgt := 20) hx hb d_Me_sign_13 (by decide) (fun c3 => ?_) (fun c3 => ?_)
    · have c3 := (lg_cmp_ge _ _).mp c3
      have h := git c3 h
      refine lv_iconst (v := 0) hx hb d_Me_sign_20 (by decide) ?_
      exact hK21 _ w H locs ls h hI (lv_sub hl [] rfl)
    · have c3 := mt (lg_cmp_ge _ _).mpr c3
      have h := gie c3 h
      refine lv_iconst (v := -1) hx hb d_Me_sign_16 (by decide) ?_
      refine lv_goto (tgt := 21) hx hb d_Me_sign_17 (by decide) ?_
      exact hK21 _ w H locs ls h hI (lv_sub hl [] rfl)
  · have c2 := mt (lg_cmp_le _ _).mpr c2
    have h := gie c2 h
    refine lv_iconst (v := 1) hx hb d_Me_sign_6 (by decide) ?_
    refine lv_goto (tgt := 21) hx hb d_Me_sign_7 (by decide) ?_
    exact hK21 _ w H locs ls h hI (lv_sub hl [] rfl)

abbrev b_Me_partedBySides : ByteArray := prog_5_method_7_code
def y_Me_partedBySides : MethodName := ⟨"BodySolids$Meeting", "partedBySides", "(LBodySolids$Solid;LBodySolids$Solid;)I"⟩
theorem d_Me_partedBySides_0 : decode b_Me_partedBySides 0 = .ok (.iconst (-1), 1) := by decide +kernel
theorem d_Me_partedBySides_1 : decode b_Me_partedBySides 1 = .ok (.istore_n 2, 1) := by decide +kernel
theorem d_Me_partedBySides_2 : decode b_Me_partedBySides 2 = .ok (.iconst 0, 1) := by decide +kernel
theorem d_Me_partedBySides_3 : decode b_Me_partedBySides 3 = .ok (.istore_n 3, 1) := by decide +kernel
theorem d_Me_partedBySides_4 : decode b_Me_partedBySides 4 = .ok (.iload_n 3, 1) := by decide +kernel
theorem d_Me_partedBySides_5 : decode b_Me_partedBySides 5 = .ok (.aload_n 0, 1) := by decide +kernel
theorem d_Me_partedBySides_6 : decode b_Me_partedBySides 6 = .ok (.getfield 78, 3) := by decide +kernel
theorem d_Me_partedBySides_9 : decode b_Me_partedBySides 9 = .ok (.if_icmp .ge 148, 3) := by decide +kernel
theorem d_Me_partedBySides_12 : decode b_Me_partedBySides 12 = .ok (.iload_n 2, 1) := by decide +kernel
theorem d_Me_partedBySides_13 : decode b_Me_partedBySides 13 = .ok (.iconst 1, 1) := by decide +kernel
theorem d_Me_partedBySides_14 : decode b_Me_partedBySides 14 = .ok (.if_icmp .eq 143, 3) := by decide +kernel
theorem d_Me_partedBySides_17 : decode b_Me_partedBySides 17 = .ok (.iload_n 3, 1) := by decide +kernel
theorem d_Me_partedBySides_18 : decode b_Me_partedBySides 18 = .ok (.iconst 1, 1) := by decide +kernel
theorem d_Me_partedBySides_19 : decode b_Me_partedBySides 19 = .ok (.iadd, 1) := by decide +kernel
theorem d_Me_partedBySides_20 : decode b_Me_partedBySides 20 = .ok (.aload_n 0, 1) := by decide +kernel
theorem d_Me_partedBySides_21 : decode b_Me_partedBySides 21 = .ok (.getfield 78, 3) := by decide +kernel
theorem d_Me_partedBySides_24 : decode b_Me_partedBySides 24 = .ok (.if_icmp .ge 9, 3) := by decide +kernel
theorem d_Me_partedBySides_27 : decode b_Me_partedBySides 27 = .ok (.iload_n 3, 1) := by decide +kernel
theorem d_Me_partedBySides_28 : decode b_Me_partedBySides 28 = .ok (.iconst 1, 1) := by decide +kernel
theorem d_Me_partedBySides_29 : decode b_Me_partedBySides 29 = .ok (.iadd, 1) := by decide +kernel
theorem d_Me_partedBySides_30 : decode b_Me_partedBySides 30 = .ok (.goto 4, 3) := by decide +kernel
theorem d_Me_partedBySides_33 : decode b_Me_partedBySides 33 = .ok (.iconst 0, 1) := by decide +kernel
theorem d_Me_partedBySides_34 : decode b_Me_partedBySides 34 = .ok (.istore 4, 2) := by decide +kernel
theorem d_Me_partedBySides_36 : decode b_Me_partedBySides 36 = .ok (.aload_n 0, 1) := by decide +kernel
theorem d_Me_partedBySides_37 : decode b_Me_partedBySides 37 = .ok (.getfield 81, 3) := by decide +kernel
theorem d_Me_partedBySides_40 : decode b_Me_partedBySides 40 = .ok (.iload 4, 2) := by decide +kernel
theorem d_Me_partedBySides_42 : decode b_Me_partedBySides 42 = .ok (.laload, 1) := by decide +kernel
theorem d_Me_partedBySides_43 : decode b_Me_partedBySides 43 = .ok (.aload_n 0, 1) := by decide +kernel
theorem d_Me_partedBySides_44 : decode b_Me_partedBySides 44 = .ok (.getfield 81, 3) := by decide +kernel
theorem d_Me_partedBySides_47 : decode b_Me_partedBySides 47 = .ok (.iload_n 3, 1) := by decide +kernel
theorem d_Me_partedBySides_48 : decode b_Me_partedBySides 48 = .ok (.laload, 1) := by decide +kernel
theorem d_Me_partedBySides_49 : decode b_Me_partedBySides 49 = .ok (.lsub, 1) := by decide +kernel
theorem d_Me_partedBySides_50 : decode b_Me_partedBySides 50 = .ok (.lstore 5, 2) := by decide +kernel
theorem d_Me_partedBySides_52 : decode b_Me_partedBySides 52 = .ok (.aload_n 0, 1) := by decide +kernel
theorem d_Me_partedBySides_53 : decode b_Me_partedBySides 53 = .ok (.getfield 85, 3) := by decide +kernel
theorem d_Me_partedBySides_56 : decode b_Me_partedBySides 56 = .ok (.iload 4, 2) := by decide +kernel
theorem d_Me_partedBySides_58 : decode b_Me_partedBySides 58 = .ok (.laload, 1) := by decide +kernel
theorem d_Me_partedBySides_59 : decode b_Me_partedBySides 59 = .ok (.aload_n 0, 1) := by decide +kernel
theorem d_Me_partedBySides_60 : decode b_Me_partedBySides 60 = .ok (.getfield 85, 3) := by decide +kernel
theorem d_Me_partedBySides_63 : decode b_Me_partedBySides 63 = .ok (.iload_n 3, 1) := by decide +kernel
theorem d_Me_partedBySides_64 : decode b_Me_partedBySides 64 = .ok (.laload, 1) := by decide +kernel
theorem d_Me_partedBySides_65 : decode b_Me_partedBySides 65 = .ok (.lsub, 1) := by decide +kernel
theorem d_Me_partedBySides_66 : decode b_Me_partedBySides 66 = .ok (.lstore 7, 2) := by decide +kernel
theorem d_Me_partedBySides_68 : decode b_Me_partedBySides 68 = .ok (.iconst 1, 1) := by decide +kernel
theorem d_Me_partedBySides_69 : decode b_Me_partedBySides 69 = .ok (.istore 9, 2) := by decide +kernel
theorem d_Me_partedBySides_71 : decode b_Me_partedBySides 71 = .ok (.iconst 0, 1) := by decide +kernel
theorem d_Me_partedBySides_72 : decode b_Me_partedBySides 72 = .ok (.istore 10, 2) := by decide +kernel
theorem d_Me_partedBySides_74 : decode b_Me_partedBySides 74 = .ok (.iload 10, 2) := by decide +kernel
theorem d_Me_partedBySides_76 : decode b_Me_partedBySides 76 = .ok (.aload_n 1, 1) := by decide +kernel
theorem d_Me_partedBySides_77 : decode b_Me_partedBySides 77 = .ok (.getfield 78, 3) := by decide +kernel
theorem d_Me_partedBySides_80 : decode b_Me_partedBySides 80 = .ok (.if_icmp .ge 64, 3) := by decide +kernel
theorem d_Me_partedBySides_83 : decode b_Me_partedBySides 83 = .ok (.iload 9, 2) := by decide +kernel
theorem d_Me_partedBySides_85 : decode b_Me_partedBySides 85 = .ok (.iconst (-1), 1) := by decide +kernel
theorem d_Me_partedBySides_86 : decode b_Me_partedBySides 86 = .ok (.if_icmp .eq 58, 3) := by decide +kernel
theorem d_Me_partedBySides_89 : decode b_Me_partedBySides 89 = .ok (.lload 7, 2) := by decide +kernel
theorem d_Me_partedBySides_91 : decode b_Me_partedBySides 91 = .ok (.aload_n 1, 1) := by decide +kernel
theorem d_Me_partedBySides_92 : decode b_Me_partedBySides 92 = .ok (.getfield 81, 3) := by decide +kernel
theorem d_Me_partedBySides_95 : decode b_Me_partedBySides 95 = .ok (.iload 10, 2) := by decide +kernel
theorem d_Me_partedBySides_97 : decode b_Me_partedBySides 97 = .ok (.laload, 1) := by decide +kernel
theorem d_Me_partedBySides_98 : decode b_Me_partedBySides 98 = .ok (.aload_n 0, 1) := by decide +kernel
theorem d_Me_partedBySides_99 : decode b_Me_partedBySides 99 = .ok (.getfield 81, 3) := by decide +kernel
theorem d_Me_partedBySides_102 : decode b_Me_partedBySides 102 = .ok (.iload_n 3, 1) := by decide +kernel
theorem d_Me_partedBySides_103 : decode b_Me_partedBySides 103 = .ok (.laload, 1) := by decide +kernel
theorem d_Me_partedBySides_104 : decode b_Me_partedBySides 104 = .ok (.lsub, 1) := by decide +kernel
theorem d_Me_partedBySides_105 : decode b_Me_partedBySides 105 = .ok (.lmul, 1) := by decide +kernel
theorem d_Me_partedBySides_106 : decode b_Me_partedBySides 106 = .ok (.lload 5, 2) := by decide +kernel
theorem d_Me_partedBySides_108 : decode b_Me_partedBySides 108 = .ok (.aload_n 1, 1) := by decide +kernel
theorem d_Me_partedBySides_109 : decode b_Me_partedBySides 109 = .ok (.getfield 85, 3) := by decide +kernel
theorem d_Me_partedBySides_112 : decode b_Me_partedBySides 112 = .ok (.iload 10, 2) := by decide +kernel
theorem d_Me_partedBySides_114 : decode b_Me_partedBySides 114 = .ok (.laload, 1) := by decide +kernel
theorem d_Me_partedBySides_115 : decode b_Me_partedBySides 115 = .ok (.aload_n 0, 1) := by decide +kernel
theorem d_Me_partedBySides_116 : decode b_Me_partedBySides 116 = .ok (.getfield 85, 3) := by decide +kernel
theorem d_Me_partedBySides_119 : decode b_Me_partedBySides 119 = .ok (.iload_n 3, 1) := by decide +kernel
theorem d_Me_partedBySides_120 : decode b_Me_partedBySides 120 = .ok (.laload, 1) := by decide +kernel
theorem d_Me_partedBySides_121 : decode b_Me_partedBySides 121 = .ok (.lsub, 1) := by decide +kernel
theorem d_Me_partedBySides_122 : decode b_Me_partedBySides 122 = .ok (.lmul, 1) := by decide +kernel
theorem d_Me_partedBySides_123 : decode b_Me_partedBySides 123 = .ok (.lsub, 1) := by decide +kernel
theorem d_Me_partedBySides_124 : decode b_Me_partedBySides 124 = .ok (.lstore 11, 2) := by decide +kernel
theorem d_Me_partedBySides_126 : decode b_Me_partedBySides 126 = .ok (.iload 9, 2) := by decide +kernel
theorem d_Me_partedBySides_128 : decode b_Me_partedBySides 128 = .ok (.lload 11, 2) := by decide +kernel
theorem d_Me_partedBySides_130 : decode b_Me_partedBySides 130 = .ok (.invokestatic 50, 3) := by decide +kernel
theorem d_Me_partedBySides_133 : decode b_Me_partedBySides 133 = .ok (.invokestatic 88, 3) := by decide +kernel
theorem d_Me_partedBySides_136 : decode b_Me_partedBySides 136 = .ok (.istore 9, 2) := by decide +kernel
theorem d_Me_partedBySides_138 : decode b_Me_partedBySides 138 = .ok (.iinc 10 1, 3) := by decide +kernel
theorem d_Me_partedBySides_141 : decode b_Me_partedBySides 141 = .ok (.goto (-67), 3) := by decide +kernel
theorem d_Me_partedBySides_144 : decode b_Me_partedBySides 144 = .ok (.iload_n 2, 1) := by decide +kernel
theorem d_Me_partedBySides_145 : decode b_Me_partedBySides 145 = .ok (.iload 9, 2) := by decide +kernel
theorem d_Me_partedBySides_147 : decode b_Me_partedBySides 147 = .ok (.invokestatic 54, 3) := by decide +kernel
theorem d_Me_partedBySides_150 : decode b_Me_partedBySides 150 = .ok (.istore_n 2, 1) := by decide +kernel
theorem d_Me_partedBySides_151 : decode b_Me_partedBySides 151 = .ok (.iinc 3 1, 3) := by decide +kernel
theorem d_Me_partedBySides_154 : decode b_Me_partedBySides 154 = .ok (.goto (-150), 3) := by decide +kernel
theorem d_Me_partedBySides_157 : decode b_Me_partedBySides 157 = .ok (.iload_n 2, 1) := by decide +kernel
theorem d_Me_partedBySides_158 : decode b_Me_partedBySides 158 = .ok (.ireturn, 1) := by decide +kernel
abbrev rm_Me_partedBySides : Room := { frames := 1, cells := 0, slots := 0, locals := 21 }
theorem ce_Me_partedBySides : gCe y_Me_partedBySides (.code y_Me_partedBySides b_Me_partedBySides 13 (some .int)) 13 2 true := gCe.code wd_388 wd_69 wd_387 (by decide) (by decide +kernel)
def f_Me_partedBySides_L74 (g0 : gG) (c0 : Nat) (c1 : Nat) (c2 : Int32) (c3 : Int32) (c5 : Int64) (c7 : Int64) (K144 : Int32 → gW → gX Int32) : Nat → Int32 → Int32 → gW → gX Int32
  | 0, _, _, _ => none
  | n + 1, z9, z10, w => (gfI w c1 3 5).bind fun v29 => if v29 ≤ z10 then (K144 z9 w) else (if z9 = (-1) then (K144 z9 w) else ((gfA w c1 3 3).bind fun v33 => (gaJ w v33 z10).bind fun v35 => (gfA w c0 3 3).bind fun v37 => (gaJ w v37 c3).bind fun v39 => (gfA w c1 3 4).bind fun v41 => (gaJ w v41 z10).bind fun v43 => (gfA w c0 3 4).bind fun v45 => (gaJ w v45 c3).bind fun v47 => gbind (f_Me_sign g0 ((c7 * (v35 - v39)) - (c5 * (v43 - v47))) w) fun v51 w => gbind (f_Ma_min g0 z9 v51 w) fun v54 w => f_Me_partedBySides_L74 g0 c0 c1 c2 c3 c5 c7 K144 n v54 (z10 + 1) w))
def f_Me_partedBySides_L4 (g0 : gG) (c0 : Nat) (c1 : Nat) (K157 : Int32 → gW → gX Int32) : Nat → Int32 → Int32 → gW → gX Int32
  | 0, _, _, _ => none
  | n + 1, z2, z3, w => (gfI w c0 3 5).bind fun v2 => if v2 ≤ z3 then (K157 z2 w) else (if z2 = 1 then (K157 z2 w) else ((gfI w c0 3 5).bind fun v6 => gjoin (fun K34 => if v6 ≤ (z3 + 1) then (K34 0 w) else (K34 (z3 + 1) w)) (fun (y8 : Int32) (w : gW) => (gfA w c0 3 3).bind fun v9 => (gaJ w v9 y8).bind fun v11 => (gfA w c0 3 3).bind fun v13 => (gaJ w v13 z3).bind fun v15 => (gfA w c0 3 4).bind fun v17 => (gaJ w v17 y8).bind fun v19 => (gfA w c0 3 4).bind fun v21 => (gaJ w v21 z3).bind fun v23 => gjoin (fun K144 => f_Me_partedBySides_L74 g0 c0 c1 z2 z3 (v11 - v15) (v19 - v23) K144 64 1 0 w) (fun (x25 : Int32) (w : gW) => gbind (f_Ma_max g0 z2 x25 w) fun v28 w => f_Me_partedBySides_L4 g0 c0 c1 K157 n v28 (z3 + 1) w))))
def f_Me_partedBySides (g0 : gG) (a0 : Nat) (a1 : Nat) (w : gW) : gX Int32 := gjoin (fun K157 => f_Me_partedBySides_L4 g0 a0 a1 K157 64 (-1) 0 w) (fun (x1 : Int32) (w : gW) => some (.inr x1, w))
set_option maxHeartbeats 4000000 in
set_option maxRecDepth 100000 in
theorem m_Me_partedBySides (l : Launch) (hst : l.stackTraces = false) (D : gD) (g0 : gG) (a0 : Nat) (a1 : Nat) (w : gW) (r : (String ⊕ Int32) × gW) (h : f_Me_partedBySides g0 a0 a1 w = some r) : gMet l y_Me_partedBySides (.code y_Me_partedBySides b_Me_partedBySides 13 (some .int)) rm_Me_partedBySides D g0 [.ref a0, .ref a1] w (goI r) := by
  refine gw_ofI (by decide +kernel) (Nat.le_of_ble_eq_true rfl) ?_
  intro p e s m below meth c ls args A Q hx hb hml hown hlocks hin hnt hT hK hZ hA hret hexc hthr hI hl
  obtain ⟨H, hH⟩ : ∃ H, H = s.heap := ⟨_, rfl⟩
  rw [← hH] at hI ⊢
  obtain ⟨locs, hlocs⟩ : ∃ z : List Loc, z = [] := ⟨_, rfl⟩
  rw [← hlocs] at hI ⊢
  have hl : lv_has ls 13 [(0, .ref a0), (1, .ref a1)] := hl
  unfold f_Me_partedBySides at h
  refine lv_iconst (v := -1) hx hb d_Me_partedBySides_0 (by decide) ?_
  refine lv_istore_n (lv' := [(2, .int (-1)), (0, .ref a0), (1, .ref a1)]) hx hb d_Me_partedBySides_1 rfl hl (by decide) rfl (fun ls hl => ?_)
  refine lv_iconst (v := 0) hx hb d_Me_partedBySides_2 (by decide) ?_
  refine lv_istore_n (lv' := [(3, .int 0), (2, .int (-1)), (0, .ref a0), (1, .ref a1)]) hx hb d_Me_partedBySides_3 rfl hl (by decide) rfl (fun ls hl => ?_)
  obtain ⟨K157, eK157, h⟩ := gj h
  have hK157 : ∀ (x1 : Int32) (w : gW) (H : Heap) (locs : List Loc) (ls : Array Slot), K157 x1 w = some r → gI D s A w H locs → lv_has ls 13 [(2, .int x1)] → W p l e rm_Me_partedBySides s m args below meth c H locs 0 0 Q (F0 m 157 ls []) := by
    intro x1 w H locs ls h hI hl
    have h := gk2 eK157 h
    refine lv_iload_n hx hb d_Me_partedBySides_157 rfl (lv_at hl 0 rfl) ?_
    exact W.widen (show 0 ≤ 0 by omega) (show 0 ≤ 0 by omega) (hret _ _ (Option.some.inj h).symm _ _ _ _ d_Me_partedBySides_158 hI)
  have hL4 : ∀ (n : Nat), ∀ (z2 : Int32) (z3 : Int32) (w : gW) (H : Heap) (locs : List Loc) (ls : Array Slot), f_Me_partedBySides_L4 g0 a0 a1 K157 n z2 z3 w = some r → gI D s A w H locs → lv_has ls 13 [(0, .ref a0), (1, .ref a1), (2, .int z2), (3, .int z3)] → W p l e rm_Me_partedBySides s m args below meth c H locs 0 0 Q (F0 m 4 ls []) := by
    intro n
    induction n with
    | zero => intro z2 z3 w H locs ls h hI hl; exact absurd h (by simp [f_Me_partedBySides_L4])
    | succ n ih =>
      intro z2 z3 w H locs ls h hI hl
      rw [f_Me_partedBySides_L4] at h
      refine lv_iload_n hx hb d_Me_partedBySides_4 rfl (lv_at hl 3 rfl) ?_
      refine lv_aload_n hx hb d_Me_partedBySides_5 rfl (lv_at hl 0 rfl) ?_
      obtain ⟨v4, e5, h⟩ := gb h
      refine gw_getI hx hb hT hown hK hI (ci := 3) rfl i_3 5 (by decide) wd_140 (fun _ h9 => h9) e5 d_Me_partedBySides_6 ?_
      refine lv_icmp_ge (tgt := 157) hx hb d_Me_partedBySides_9 (by decide) (fun c6 => ?_) (fun c6 => ?_)
      · skip
        have h := git c6 h
        exact hK157 _ w H locs ls h hI (lv_sub hl [2] rfl)
      · skip
        have h := gie c6 h
        refine lv_iload_n hx hb d_Me_partedBySides_12 rfl (lv_at hl 2 rfl) ?_
        refine lv_iconst (v := 1) hx hb d_Me_partedBySides_13 (by decide) ?_
        refine lv_icmp_eq (tgt := 157) hx hb d_Me_partedBySides_14 (by decide) (fun c7 => ?_) (fun c7 => ?_)
        · skip
          have h := git c7 h
          exact hK157 _ w H locs ls h hI (lv_sub hl [2] rfl)
        · skip
          have h := gie c7 h
          refine lv_iload_n hx hb d_Me_partedBySides_17 rfl (lv_at hl 3 rfl) ?_
          refine lv_iconst (v := 1) hx hb d_Me_partedBySides_18 (by decide) ?_
          refine lv_iadd hx hb d_Me_partedBySides_19 ?_
          refine lv_aload_n hx hb d_Me_partedBySides_20 rfl (lv_at hl 0 rfl) ?_
          obtain ⟨v8, e9, h⟩ := gb h
          refine gw_getI hx hb hT hown hK hI (ci := 3) rfl i_3 5 (by decide) wd_140 (fun _ h9 => h9) e9 d_Me_partedBySides_21 ?_
          obtain ⟨K34, eK34, h⟩ := gj h
          have hK34 : ∀ (y10 : Int32) (w : gW) (H : Heap) (locs : List Loc) (ls : Array Slot), K34 y10 w = some r → gI D s A w H locs → lv_has ls 13 [(0, .ref a0), (1, .ref a1), (2, .int z2), (3, .int z3)] → W p l e rm_Me_partedBySides s m args below meth c H locs 0 0 Q (F0 m 34 ls [.int y10]) := by
            intro y10 w H locs ls h hI hl
            have h := gk2 eK34 h
            refine lv_istore (lv' := [(4, .int y10), (0, .ref a0), (1, .ref a1), (2, .int z2), (3, .int z3)]) hx hb d_Me_partedBySides_34 hl (by decide) rfl (fun ls hl => ?_)
            refine lv_aload_n hx hb d_Me_partedBySides_36 rfl (lv_at hl 1 rfl) ?_
            obtain ⟨v11, e12, h⟩ := gb h
            refine gw_getA hx hb hT hown hK hI (ci := 3) rfl i_3 3 (by decide) wd_136 (fun _ h9 => h9) e12 d_Me_partedBySides_37 ?_
            refine lv_iload hx hb d_Me_partedBySides_40 (lv_at hl 0 rfl) ?_
            obtain ⟨v13, e14, h⟩ := gb h
            refine gw_aldJ hx hb hK hI e14 d_Me_partedBySides_42 ?_
            refine lv_aload_n hx hb d_Me_partedBySides_43 rfl (lv_at hl 1 rfl) ?_
            obtain ⟨v15, e16, h⟩ := gb h
            refine gw_getA hx hb hT hown hK hI (ci := 3) rfl i_3 3 (by decide) wd_136 (fun _ h9 => h9) e16 d_Me_partedBySides_44 ?_
            refine lv_iload_n hx hb d_Me_partedBySides_47 rfl (lv_at hl 4 rfl) ?_
            obtain ⟨v17, e18, h⟩ := gb h
            refine gw_aldJ hx hb hK hI e18 d_Me_partedBySides_48 ?_
            refine lv_lsub hx hb d_Me_partedBySides_49 ?_
            refine lv_lstore (lv' := [(5, .long (v13 - v17)), (4, .int y10), (0, .ref a0), (1, .ref a1), (2, .int z2), (3, .int z3)]) hx hb d_Me_partedBySides_50 hl (by decide) rfl (fun ls hl => ?_)
            refine lv_aload_n hx hb d_Me_partedBySides_52 rfl (lv_at hl 2 rfl) ?_
            obtain ⟨v19, e20, h⟩ := gb h
            refine gw_getA hx hb hT hown hK hI (ci := 3) rfl i_3 4 (by decide) wd_138 (fun _ h9 => h9) e20 d_Me_partedBySides_53 ?_
            refine lv_iload hx hb d_Me_partedBySides_56 (lv_at hl 1 rfl) ?_
            obtain ⟨v21, e22, h⟩ := gb h
            refine gw_aldJ hx hb hK hI e22 d_Me_partedBySides_58 ?_
            refine lv_aload_n hx hb d_Me_partedBySides_59 rfl (lv_at hl 2 rfl) ?_
            obtain ⟨v23, e24, h⟩ := gb h
            refine gw_getA hx hb hT hown hK hI (ci := 3) rfl i_3 4 (by decide) wd_138 (fun _ h9 => h9) e24 d_Me_partedBySides_60 ?_
            refine lv_iload_n hx hb d_Me_partedBySides_63 rfl (lv_at hl 5 rfl) ?_
            obtain ⟨v25, e26, h⟩ := gb h
            refine gw_aldJ hx hb hK hI e26 d_Me_partedBySides_64 ?_
            refine lv_lsub hx hb d_Me_partedBySides_65 ?_
            refine lv_lstore (lv' := [(7, .long (v21 - v25)), (5, .long (v13 - v17)), (4, .int y10), (0, .ref a0), (1, .ref a1), (2, .int z2), (3, .int z3)]) hx hb d_Me_partedBySides_66 hl (by decide) rfl (fun ls hl => ?_)
            refine lv_iconst (v := 1) hx hb d_Me_partedBySides_68 (by decide) ?_
            refine lv_istore (lv' := [(9, .int 1), (7, .long (v21 - v25)), (5, .long (v13 - v17)), (4, .int y10), (0, .ref a0), (1, .ref a1), (2, .int z2), (3, .int z3)]) hx hb d_Me_partedBySides_69 hl (by decide) rfl (fun ls hl => ?_)
            refine lv_iconst (v := 0) hx hb d_Me_partedBySides_71 (by decide) ?_
            refine lv_istore (lv' := [(10, .int 0), (9, .int 1), (7, .long (v21 - v25)), (5, .long (v13 - v17)), (4, .int y10), (0, .ref a0), (1, .ref a1), (2, .int z2), (3, .int z3)]) hx hb d_Me_partedBySides_72 hl (by decide) rfl (fun ls hl => ?_)
            obtain ⟨K144, eK144, h⟩ := gj h
            have hK144 : ∀ (x27 : Int32) (w : gW) (H : Heap) (locs : List Loc) (ls : Array Slot), K144 x27 w = some r → gI D s A w H locs → lv_has ls 13 [(0, .ref a0), (1, .ref a1), (2, .int z2), (3, .int z3), (9, .int x27)] → W p l e rm_Me_partedBySides s m args below meth c H locs 0 0 Q (F0 m 144 ls []) := by
              intro x27 w H locs ls h hI hl
              have h := gk2 eK144 h
              refine lv_iload_n hx hb d_Me_partedBySides_144 rfl (lv_at hl 2 rfl) ?_
              refine lv_iload hx hb d_Me_partedBySides_145 (lv_at hl 4 rfl) ?_
              obtain ⟨u28, e29⟩ := gsome h
              refine gw_callI e29 h (gw_runS (As := [.int z2, .int x27]) (rest := []) hx hb hml hown hT hK hZ hA hI (m_Ma_max l hst D g0 z2 x27 w u28 e29) ce_Ma_max wd_390 ⟨by decide, by decide⟩ rfl rfl hl.1 rfl (lv_room (Nat.le_of_ble_eq_true rfl)) d_Me_partedBySides_147 ⟨(show 0 + 0 ≤ 0 by omega), (show 0 + 0 ≤ 0 by omega)⟩) hI hA hexc (show 0 + 0 ≤ 0 by omega) (show 0 + 0 ≤ 0 by omega) (fun v30 w H locs h hI => ?_)
              refine lv_istore_n (lv' := [(2, .int v30), (0, .ref a0), (1, .ref a1), (3, .int z3), (9, .int x27)]) hx hb d_Me_partedBySides_150 rfl hl (by decide) rfl (fun ls hl => ?_)
              refine lv_iinc (v := z3 + 1) (lv' := [(3, .int (z3 + 1)), (2, .int v30), (0, .ref a0), (1, .ref a1), (9, .int x27)]) hx hb d_Me_partedBySides_151 hl (k := 3) rfl rfl (by decide) rfl (fun ls hl => ?_)
              refine lv_goto (tgt := 4) hx hb d_Me_partedBySides_154 (by decide) ?_
              exact ih _ _ w H locs ls h hI (lv_sub hl [2, 3, 1, 0] rfl)
            have hL74 : ∀ (n : Nat), ∀ (z31 : Int32) (z32 : Int32) (w : gW) (H : Heap) (locs : List Loc) (ls : Array Slot), f_Me_partedBySides_L74 g0 a0 a1 z2 z3 (v13 - v17) (v21 - v25) K144 n z31 z32 w = some r → gI D s A w H locs → lv_has ls 13 [(0, .ref a0), (1, .ref a1), (2, .int z2), (3, .int z3), (5, .long (v13 - v17)), (7, .long (v21 - v25)), (9, .int z31), (10, .int z32)] → W p l e rm_Me_partedBySides s m args below meth c H locs 0 0 Q (F0 m 74 ls []) := by
              intro n
              induction n with
              | zero => intro z31 z32 w H locs ls h hI hl; exact absurd h (by simp [f_Me_partedBySides_L74])
              | succ n ih =>
                intro z31 z32 w H locs ls h hI hl
                rw [f_Me_partedBySides_L74] at h
                refine lv_iload hx hb d_Me_partedBySides_74 (lv_at hl 7 rfl) ?_
                refine lv_aload_n hx hb d_Me_partedBySides_76 rfl (lv_at hl 1 rfl) ?_
                obtain ⟨v33, e34, h⟩ := gb h
                refine gw_getI hx hb hT hown hK hI (ci := 3) rfl i_3 5 (by decide) wd_140 (fun _ h9 => h9) e34 d_Me_partedBySides_77 ?_
                refine lv_icmp_ge (tgt := 144) hx hb d_Me_partedBySides_80 (by decide) (fun c35 => ?_) (fun c35 => ?_)
                · skip
                  have h := git c35 h
                  exact hK144 _ w H locs ls h hI (lv_sub hl [0, 1, 2, 3, 6] rfl)
                · skip
                  have h := gie c35 h
                  refine lv_iload hx hb d_Me_partedBySides_83 (lv_at hl 6 rfl) ?_
                  refine lv_iconst (v := -1) hx hb d_Me_partedBySides_85 (by decide) ?_
                  refine lv_icmp_eq (tgt := 144) hx hb d_Me_partedBySides_86 (by decide) (fun c36 => ?_) (fun c36 => ?_)
                  · skip
                    have h := git c36 h
                    exact hK144 _ w H locs ls h hI (lv_sub hl [0, 1, 2, 3, 6] rfl)
                  · skip
                    have h := gie c36 h
                    refine lv_lload hx hb d_Me_partedBySides_89 (lv_at hl 5 rfl) ?_
                    refine lv_aload_n hx hb d_Me_partedBySides_91 rfl (lv_at hl 1 rfl) ?_
                    obtain ⟨v37, e38, h⟩ := gb h
                    refine gw_getA hx hb hT hown hK hI (ci := 3) rfl i_3 3 (by decide) wd_136 (fun _ h9 => h9) e38 d_Me_partedBySides_92 ?_
                    refine lv_iload hx hb d_Me_partedBySides_95 (lv_at hl 7 rfl) ?_
                    obtain ⟨v39, e40, h⟩ := gb h
                    refine gw_aldJ hx hb hK hI e40 d_Me_partedBySides_97 ?_
                    refine lv_aload_n hx hb d_Me_partedBySides_98 rfl (lv_at hl 0 rfl) ?_
                    obtain ⟨v41, e42, h⟩ := gb h
                    refine gw_getA hx hb hT hown hK hI (ci := 3) rfl i_3 3 (by decide) wd_136 (fun _ h9 => h9) e42 d_Me_partedBySides_99 ?_
                    refine lv_iload_n hx hb d_Me_partedBySides_102 rfl (lv_at hl 3 rfl) ?_
                    obtain ⟨v43, e44, h⟩ := gb h
                    refine gw_aldJ hx hb hK hI e44 d_Me_partedBySides_103 ?_
                    refine lv_lsub hx hb d_Me_partedBySides_104 ?_
                    refine lv_lmul hx hb d_Me_partedBySides_105 ?_
                    refine lv_lload hx hb d_Me_partedBySides_106 (lv_at hl 4 rfl) ?_
                    refine lv_aload_n hx hb d_Me_partedBySides_108 rfl (lv_at hl 1 rfl) ?_
                    obtain ⟨v45, e46, h⟩ := gb h
                    refine gw_getA hx hb hT hown hK hI (ci := 3) rfl i_3 4 (by decide) wd_138 (fun _ h9 => h9) e46 d_Me_partedBySides_109 ?_
                    refine lv_iload hx hb d_Me_partedBySides_112 (lv_at hl 7 rfl) ?_
                    obtain ⟨v47, e48, h⟩ := gb h
                    refine gw_aldJ hx hb hK hI e48 d_Me_partedBySides_114 ?_
                    refine lv_aload_n hx hb d_Me_partedBySides_115 rfl (lv_at hl 0 rfl) ?_
                    obtain ⟨v49, e50, h⟩ := gb h
                    refine gw_getA hx hb hT hown hK hI (ci := 3) rfl i_3 4 (by decide) wd_138 (fun _ h9 => h9) e50 d_Me_partedBySides_116 ?_
                    refine lv_iload_n hx hb d_Me_partedBySides_119 rfl (lv_at hl 3 rfl) ?_
                    obtain ⟨v51, e52, h⟩ := gb h
                    refine gw_aldJ hx hb hK hI e52 d_Me_partedBySides_120 ?_
                    refine lv_lsub hx hb d_Me_partedBySides_121 ?_
                    refine lv_lmul hx hb d_Me_partedBySides_122 ?_
                    refine lv_lsub hx hb d_Me_partedBySides_123 ?_
                    refine lv_lstore (lv' := [(11, .long (((v21 - v25) * (v39 - v43)) - ((v13 - v17) * (v47 - v51)))), (0, .ref a0), (1, .ref a1), (2, .int z2), (3, .int z3), (5, .long (v13 - v17)), (7, .long (v21 - v25)), (9, .int z31), (10, .int z32)]) hx hb d_Me_partedBySides_124 hl (by decide) rfl (fun ls hl => ?_)
                    refine lv_iload hx hb d_Me_partedBySides_126 (lv_at hl 7 rfl) ?_
                    refine lv_lload hx hb d_Me_partedBySides_128 (lv_at hl 0 rfl) ?_
                    obtain ⟨u53, e54⟩ := gsome h
                    refine gw_callI e54 h (gw_runS (As := [.long (((v21 - v25) * (v39 - v43)) - ((v13 - v17) * (v47 - v51)))]) (rest := [.int z31]) hx hb hml hown hT hK hZ hA hI (m_Me_sign l hst D g0 (((v21 - v25) * (v39 - v43)) - ((v13 - v17) * (v47 - v51))) w u53 e54) ce_Me_sign wd_383 ⟨by decide, by decide⟩ rfl rfl hl.1 rfl (lv_room (Nat.le_of_ble_eq_true rfl)) d_Me_partedBySides_130 ⟨(show 0 + 0 ≤ 0 by omega), (show 0 + 0 ≤ 0 by omega)⟩) hI hA hexc (show 0 + 0 ≤ 0 by omega) (show 0 + 0 ≤ 0 by omega) (fun v55 w H locs h hI => ?_)
                    obtain ⟨u56, e57⟩ := gsome h
                    refine gw_callI e57 h (gw_runS (As := [.int z31, .int v55]) (rest := []) hx hb hml hown hT hK hZ hA hI (m_Ma_min l hst D g0 z31 v55 w u56 e57) ce_Ma_min wd_389 ⟨by decide, by decide⟩ rfl rfl hl.1 rfl (lv_room (Nat.le_of_ble_eq_true rfl)) d_Me_partedBySides_133 ⟨(show 0 + 0 ≤ 0 by omega), (show 0 + 0 ≤ 0 by omega)⟩) hI hA hexc (show 0 + 0 ≤ 0 by omega) (show 0 + 0 ≤ 0 by omega) (fun v58 w H locs h hI => ?_)
                    refine lv_istore (lv' := [(9, .int v58), (11, .long (((v21 - v25) * (v39 - v43)) - ((v13 - v17) * (v47 - v51)))), (0, .ref a0), (1, .ref a1), (2, .int z2), (3, .int z3), (5, .long (v13 - v17)), (7, .long (v21 - v25)), (10, .int z32)]) hx hb d_Me_partedBySides_136 hl (by decide) rfl (fun ls hl => ?_)
                    refine lv_iinc (v := z32 + 1) (lv' := [(10, .int (z32 + 1)), (9, .int v58), (11, .long (((v21 - v25) * (v39 - v43)) - ((v13 - v17) * (v47 - v51)))), (0, .ref a0), (1, .ref a1), (2, .int z2), (3, .int z3), (5, .long (v13 - v17)), (7, .long (v21 - v25))]) hx hb d_Me_partedBySides_138 hl (k := 8) rfl rfl (by decide) rfl (fun ls hl => ?_)
                    refine lv_goto (tgt := 74) hx hb d_Me_partedBySides_141 (by decide) ?_
                    exact ih _ _ w H locs ls h hI (lv_sub hl [3, 4, 5, 6, 7, 8, 1, 0] rfl)
            exact hL74 64 _ _ w H locs ls h hI (lv_sub hl [5, 6, 7, 8, 3, 2, 1, 0] rfl)
          refine lv_icmp_ge (tgt := 33) hx hb d_Me_partedBySides_24 (by decide) (fun c59 => ?_) (fun c59 => ?_)
          · skip
            have h := git c59 h
            refine lv_iconst (v := 0) hx hb d_Me_partedBySides_33 (by decide) ?_
            exact hK34 _ w H locs ls h hI (lv_sub hl [0, 1, 2, 3] rfl)
          · skip
            have h := gie c59 h
            refine lv_iload_n hx hb d_Me_partedBySides_27 rfl (lv_at hl 3 rfl) ?_
            refine lv_iconst (v := 1) hx hb d_Me_partedBySides_28 (by decide) ?_
            refine lv_iadd hx hb d_Me_partedBySides_29 ?_
            refine lv_goto (tgt := 34) hx hb d_Me_partedBySides_30 (by decide) ?_
            exact hK34 _ w H locs ls h hI (lv_sub hl [0, 1, 2, 3] rfl)
  exact hL4 64 _ _ w H locs ls h hI (lv_sub hl [2, 3, 1, 0] rfl)
