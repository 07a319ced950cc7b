abbrev b_M_corner : ByteArray := prog_9_method_15_code
def y_M_corner : MethodName := ⟨"BodySolidsModel", "corner", "(JJ)Z"⟩
theorem d_M_corner_0 : decode b_M_corner 0 = .ok (.aload_n 0, 1) := by decide +kernel
theorem d_M_corner_1 : decode b_M_corner 1 = .ok (.lload_n 1, 1) := by decide +kernel
theorem d_M_corner_2 : decode b_M_corner 2 = .ok (.lload_n 3, 1) := by decide +kernel
theorem d_M_corner_3 : decode b_M_corner 3 = .ok (.invokestatic 102, 3) := by decide +kernel
theorem d_M_corner_6 : decode b_M_corner 6 = .ok (.ifCond .eq 7, 3) := by decide +kernel
theorem d_M_corner_9 : decode b_M_corner 9 = .ok (.iconst 0, 1) := by decide +kernel
theorem d_M_corner_10 : decode b_M_corner 10 = .ok (.goto 4, 3) := by decide +kernel
theorem d_M_corner_13 : decode b_M_corner 13 = .ok (.iconst 1, 1) := by decide +kernel
theorem d_M_corner_14 : decode b_M_corner 14 = .ok (.putfield 80, 3) := by decide +kernel
theorem d_M_corner_17 : decode b_M_corner 17 = .ok (.aload_n 0, 1) := by decide +kernel
theorem d_M_corner_18 : decode b_M_corner 18 = .ok (.getfield 80, 3) := by decide +kernel
theorem d_M_corner_21 : decode b_M_corner 21 = .ok (.ifCond .ne 12, 3) := by decide +kernel
theorem d_M_corner_24 : decode b_M_corner 24 = .ok (.aload_n 0, 1) := by decide +kernel
theorem d_M_corner_25 : decode b_M_corner 25 = .ok (.getfield 121, 3) := by decide +kernel
theorem d_M_corner_28 : decode b_M_corner 28 = .ok (.bipush 8, 2) := by decide +kernel
theorem d_M_corner_30 : decode b_M_corner 30 = .ok (.if_icmp .ne 5, 3) := by decide +kernel
theorem d_M_corner_33 : decode b_M_corner 33 = .ok (.iconst 0, 1) := by decide +kernel
theorem d_M_corner_34 : decode b_M_corner 34 = .ok (.ireturn, 1) := by decide +kernel
theorem d_M_corner_35 : decode b_M_corner 35 = .ok (.aload_n 0, 1) := by decide +kernel
theorem d_M_corner_36 : decode b_M_corner 36 = .ok (.getfield 29, 3) := by decide +kernel
theorem d_M_corner_39 : decode b_M_corner 39 = .ok (.aload_n 0, 1) := by decide +kernel
theorem d_M_corner_40 : decode b_M_corner 40 = .ok (.getfield 121, 3) := by decide +kernel
theorem d_M_corner_43 : decode b_M_corner 43 = .ok (.lload_n 1, 1) := by decide +kernel
theorem d_M_corner_44 : decode b_M_corner 44 = .ok (.lastore, 1) := by decide +kernel
theorem d_M_corner_45 : decode b_M_corner 45 = .ok (.aload_n 0, 1) := by decide +kernel
theorem d_M_corner_46 : decode b_M_corner 46 = .ok (.getfield 32, 3) := by decide +kernel
theorem d_M_corner_49 : decode b_M_corner 49 = .ok (.aload_n 0, 1) := by decide +kernel
theorem d_M_corner_50 : decode b_M_corner 50 = .ok (.getfield 121, 3) := by decide +kernel
theorem d_M_corner_53 : decode b_M_corner 53 = .ok (.lload_n 3, 1) := by decide +kernel
theorem d_M_corner_54 : decode b_M_corner 54 = .ok (.lastore, 1) := by decide +kernel
theorem d_M_corner_55 : decode b_M_corner 55 = .ok (.aload_n 0, 1) := by decide +kernel
theorem d_M_corner_56 : decode b_M_corner 56 = .ok (.dup, 1) := by decide +kernel
theorem d_M_corner_57 : decode b_M_corner 57 = .ok (.getfield 121, 3) := by decide +kernel
theorem d_M_corner_60 : decode b_M_corner 60 = .ok (.iconst 1, 1) := by decide +kernel
theorem d_M_corner_61 : decode b_M_corner 61 = .ok (.iadd, 1) := by decide +kernel
theorem d_M_corner_62 : decode b_M_corner 62 = .ok (.putfield 121, 3) := by decide +kernel
theorem d_M_corner_65 : decode b_M_corner 65 = .ok (.iconst 1, 1) := by decide +kernel
theorem d_M_corner_66 : decode b_M_corner 66 = .ok (.ireturn, 1) := by decide +kernel
abbrev rm_M_corner : Room := { frames := 2, cells := 0, slots := 0, locals := 48 }
theorem ce_M_corner : gCe y_M_corner (.code y_M_corner b_M_corner 5 (some .boolean)) 5 2 false := gCe.code wd_913 wd_57 wd_911 (by decide) (by decide +kernel)
def f_M_corner (g0 : gG) (a0 : Nat) (p1 : Int64) (p2 : Int64) (w : gW) : gX Int32 := gbind (f_M_isPlace g0 p1 p2 w) fun v3 w => gjoin (fun K14 => if v3 = 0 then (K14 1 w) else (K14 0 w)) (fun (y4 : Int32) (w : gW) => (gp w a0 7 0 (.int y4)).bind fun w => (gfI w a0 7 0).bind fun v6 => gjoin (fun K33 => if v6 = 0 then ((gfI w a0 7 9).bind fun v10 => if v10 = 8 then (K33 w) else ((gfA w a0 7 10).bind fun v13 => (gfI w a0 7 9).bind fun v15 => (gsJ w v13 v15 p1).bind fun w => (gfA w a0 7 11).bind fun v18 => (gfI w a0 7 9).bind fun v20 => (gsJ w v18 v20 p2).bind fun w => (gfI w a0 7 9).bind fun v23 => (gp w a0 7 9 (.int (v23 + 1))).bind fun w => gguard ((1 : Int32) = 0 ∨ (1 : Int32) = 1) (some (.inr 1, w)))) else (K33 w)) (fun (w : gW) => gguard ((0 : Int32) = 0 ∨ (0 : Int32) = 1) (some (.inr 0, w))))
set_option maxHeartbeats 4000000 in
set_option maxRecDepth 100000 in
theorem m_M_corner (l : Launch) (hst : l.stackTraces = false) (D : gD) (g0 : gG) (a0 : Nat) (p1 : Int64) (p2 : Int64) (w : gW) (r : (String ⊕ Int32) × gW) (h : f_M_corner g0 a0 p1 p2 w = some r) : gMet l y_M_corner (.code y_M_corner b_M_corner 5 (some .boolean)) rm_M_corner D g0 [.ref a0, .long p1, .long p2] w (goI r) := by
  refine gw_ofZ (by decide +kernel) (Nat.le_of_ble_eq_true rfl) ?_
  intro p e s m below meth c ls args A Q hx hb hml hown hlocks hin hnt hT hK hZ hA hret hexc hthr hI hl
  obtain ⟨H, hH⟩ : ∃ H, H = s.heap := ⟨_, rfl⟩
  rw [← hH] at hI ⊢
  obtain ⟨locs, hlocs⟩ : ∃ z : List Loc, z = [] := ⟨_, rfl⟩
  rw [← hlocs] at hI ⊢
  have hl : lv_has ls 5 [(0, .ref a0), (1, .long p1), (3, .long p2)] := hl
  unfold f_M_corner at h
  refine lv_aload_n hx hb d_M_corner_0 rfl (lv_at hl 0 rfl) ?_
  refine lv_lload_n hx hb d_M_corner_1 rfl (lv_at hl 1 rfl) ?_
  refine lv_lload_n hx hb d_M_corner_2 rfl (lv_at hl 2 rfl) ?_
  obtain ⟨u1, e2⟩ := gsome h
  refine gw_callI e2 h (gw_runS (As := [.long p1, .long p2]) (rest := [.ref a0]) hx hb hml hown hT hK hZ hA hI (m_M_isPlace l hst D g0 p1 p2 w u1 e2) ce_M_isPlace wd_880 ⟨by decide, by decide⟩ rfl rfl hl.1 rfl (lv_room (Nat.le_of_ble_eq_true rfl)) d_M_corner_3 ⟨(show 0 + 0 ≤ 0 by omega), (show 0 + 0 ≤ 0 by omega)⟩) hI hA hexc (show 0 + 0 ≤ 0 by omega) (show 0 + 0 ≤ 0 by omega) (fun v3 w H locs h hI => ?_)
  obtain ⟨K14, eK14, h⟩ := gj h
  have hK14 : ∀ (y4 : Int32) (w : gW) (H : Heap) (locs : List Loc) (ls : Array Slot), K14 y4 w = some r → gI D s A w H locs → lv_has ls 5 [(0, .ref a0), (1, .long p1), (3, .long p2)] → W p l e rm_M_corner s m args below meth c H locs 0 0 Q (F0 m 14 ls [.int y4, .ref a0]) := by
    intro y4 w H locs ls h hI hl
    have h := gk2 eK14 h
    obtain ⟨w, e5, h⟩ := gb h
    refine gw_put hx hb hT hown hK hI (ci := 7) rfl i_7 t_7 t_7_ok n_7 0 (by decide) wd_786 (fun _ h9 => h9) rfl (ty := .int) (by decide +kernel) rfl rfl e5 d_M_corner_14 (fun H locs hI => ?_)
    refine lv_aload_n hx hb d_M_corner_17 rfl (lv_at hl 0 rfl) ?_
    obtain ⟨v6, e7, h⟩ := gb h
    refine gw_getI hx hb hT hown hK hI (ci := 7) rfl i_7 0 (by decide) wd_786 (fun _ h9 => h9) e7 d_M_corner_18 ?_
    obtain ⟨K33, eK33, h⟩ := gj h
    have hK33 : ∀ (w : gW) (H : Heap) (locs : List Loc) (ls : Array Slot), K33 w = some r → gI D s A w H locs → lv_has ls 5 [] → W p l e rm_M_corner s m args below meth c H locs 0 0 Q (F0 m 33 ls []) := by
      intro w H locs ls h hI hl
      have h := gk1 eK33 h
      refine lv_iconst (v := 0) hx hb d_M_corner_33 (by decide) ?_
      obtain ⟨g8, h⟩ := gif h
      exact W.widen (show 0 ≤ 0 by omega) (show 0 ≤ 0 by omega) (hret g8 0 _ (Option.some.inj h).symm _ _ _ _ d_M_corner_34 hI)
    refine lv_if_ne (tgt := 33) hx hb d_M_corner_21 (by decide) (fun c9 => ?_) (fun c9 => ?_)
    · skip
      have h := gie c9 h
      exact hK33 w H locs ls h hI (lv_sub hl [] rfl)
    · skip
      have h := git c9 h
      refine lv_aload_n hx hb d_M_corner_24 rfl (lv_at hl 0 rfl) ?_
      obtain ⟨v10, e11, h⟩ := gb h
      refine gw_getI hx hb hT hown hK hI (ci := 7) rfl i_7 9 (by decide) wd_795 (fun _ h9 => h9) e11 d_M_corner_25 ?_
      refine lv_bipush (v := 8) hx hb d_M_corner_28 (by decide) ?_
      refine lv_icmp_ne (tgt := 35) hx hb d_M_corner_30 (by decide) (fun c12 => ?_) (fun c12 => ?_)
      · skip
        have h := gie c12 h
        refine lv_aload_n hx hb d_M_corner_35 rfl (lv_at hl 0 rfl) ?_
        obtain ⟨v13, e14, h⟩ := gb h
        refine gw_getA hx hb hT hown hK hI (ci := 7) rfl i_7 10 (by decide) wd_796 (fun _ h9 => h9) e14 d_M_corner_36 ?_
        refine lv_aload_n hx hb d_M_corner_39 rfl (lv_at hl 0 rfl) ?_
        obtain ⟨v15, e16, h⟩ := gb h
        refine gw_getI hx hb hT hown hK hI (ci := 7) rfl i_7 9 (by decide) wd_795 (fun _ h9 => h9) e16 d_M_corner_40 ?_
        refine lv_lload_n hx hb d_M_corner_43 rfl (lv_at hl 1 rfl) ?_
        obtain ⟨w, e17, h⟩ := gb h
        refine gw_astJ hx hb hK hI e17 d_M_corner_44 (fun H locs hI => ?_)
        refine lv_aload_n hx hb d_M_corner_45 rfl (lv_at hl 0 rfl) ?_
        obtain ⟨v18, e19, h⟩ := gb h
        refine gw_getA hx hb hT hown hK hI (ci := 7) rfl i_7 11 (by decide) wd_797 (fun _ h9 => h9) e19 d_M_corner_46 ?_
        refine lv_aload_n hx hb d_M_corner_49 rfl (lv_at hl 0 rfl) ?_
        obtain ⟨v20, e21, h⟩ := gb h
        refine gw_getI hx hb hT hown hK hI (ci := 7) rfl i_7 9 (by decide) wd_795 (fun _ h9 => h9) e21 d_M_corner_50 ?_
        refine lv_lload_n hx hb d_M_corner_53 rfl (lv_at hl 2 rfl) ?_
        obtain ⟨w, e22, h⟩ := gb h
        refine gw_astJ hx hb hK hI e22 d_M_corner_54 (fun H locs hI => ?_)
        refine lv_aload_n hx hb d_M_corner_55 rfl (lv_at hl 0 rfl) ?_
        refine lv_dup hx hb d_M_corner_56 rfl ?_
        obtain ⟨v23, e24, h⟩ := gb h
        refine gw_getI hx hb hT hown hK hI (ci := 7) rfl i_7 9 (by decide) wd_795 (fun _ h9 => h9) e24 d_M_corner_57 ?_
        refine lv_iconst (v := 1) hx hb d_M_corner_60 (by decide) ?_
        refine lv_iadd hx hb d_M_corner_61 ?_
        obtain ⟨w, e25, h⟩ := gb h
        refine gw_put hx hb hT hown hK hI (ci := 7) rfl i_7 t_7 t_7_ok n_7 9 (by decide) wd_795 (fun _ h9 => h9) rfl (ty := .int) (by decide +kernel) rfl rfl e25 d_M_corner_62 (fun H locs hI => ?_)
        refine lv_iconst (v := 1) hx hb d_M_corner_65 (by decide) ?_
        obtain ⟨g26, h⟩ := gif h
        exact W.widen (show 0 ≤ 0 by omega) (show 0 ≤ 0 by omega) (hret g26 0 _ (Option.some.inj h).symm _ _ _ _ d_M_corner_66 hI)
      · skip
        have h := git c12 h
        exact hK33 w H locs ls h hI (lv_sub hl [] rfl)
  refine lv_if_eq (tgt := 13) hx hb d_M_corner_6 (by decide) (fun c27 => ?_) (fun c27 => ?_)
  · skip
    have h := git c27 h
    refine lv_iconst (v := 1) hx hb d_M_corner_13 (by decide) ?_
    exact hK14 _ w H locs ls h hI (lv_sub hl [0, 1, 2] rfl)
  · skip
    have h := gie c27 h
    refine lv_iconst (v := 0) hx hb d_M_corner_9 (by decide) ?_
    refine lv_goto (tgt := 14) hx hb d_M_corner_10 (by decide) ?_
    exact hK14 _ w H locs ls h hI (lv_sub hl [0, 1, 2] rfl)

abbrev b_B_turnAt : ByteArray := prog_1_method_31_code
def y_B_turnAt : MethodName := ⟨"BodySolids", "turnAt", "(III)J"⟩
theorem d_B_turnAt_0 : decode b_B_turnAt 0 = .ok (.aload_n 0, 1) := by decide +kernel
theorem d_B_turnAt_1 : decode b_B_turnAt 1 = .ok (.getfield 37, 3) := by decide +kernel
theorem d_B_turnAt_4 : decode b_B_turnAt 4 = .ok (.iload_n 2, 1) := by decide +kernel
theorem d_B_turnAt_5 : decode b_B_turnAt 5 = .ok (.laload, 1) := by decide +kernel
theorem d_B_turnAt_6 : decode b_B_turnAt 6 = .ok (.aload_n 0, 1) := by decide +kernel
theorem d_B_turnAt_7 : decode b_B_turnAt 7 = .ok (.getfield 37, 3) := by decide +kernel
theorem d_B_turnAt_10 : decode b_B_turnAt 10 = .ok (.iload_n 1, 1) := by decide +kernel
theorem d_B_turnAt_11 : decode b_B_turnAt 11 = .ok (.laload, 1) := by decide +kernel
theorem d_B_turnAt_12 : decode b_B_turnAt 12 = .ok (.lsub, 1) := by decide +kernel
theorem d_B_turnAt_13 : decode b_B_turnAt 13 = .ok (.aload_n 0, 1) := by decide +kernel
theorem d_B_turnAt_14 : decode b_B_turnAt 14 = .ok (.getfield 41, 3) := by decide +kernel
theorem d_B_turnAt_17 : decode b_B_turnAt 17 = .ok (.iload_n 3, 1) := by decide +kernel
theorem d_B_turnAt_18 : decode b_B_turnAt 18 = .ok (.laload, 1) := by decide +kernel
theorem d_B_turnAt_19 : decode b_B_turnAt 19 = .ok (.aload_n 0, 1) := by decide +kernel
theorem d_B_turnAt_20 : decode b_B_turnAt 20 = .ok (.getfield 41, 3) := by decide +kernel
theorem d_B_turnAt_23 : decode b_B_turnAt 23 = .ok (.iload_n 1, 1) := by decide +kernel
theorem d_B_turnAt_24 : decode b_B_turnAt 24 = .ok (.laload, 1) := by decide +kernel
theorem d_B_turnAt_25 : decode b_B_turnAt 25 = .ok (.lsub, 1) := by decide +kernel
theorem d_B_turnAt_26 : decode b_B_turnAt 26 = .ok (.lmul, 1) := by decide +kernel
theorem d_B_turnAt_27 : decode b_B_turnAt 27 = .ok (.aload_n 0, 1) := by decide +kernel
theorem d_B_turnAt_28 : decode b_B_turnAt 28 = .ok (.getfield 41, 3) := by decide +kernel
theorem d_B_turnAt_31 : decode b_B_turnAt 31 = .ok (.iload_n 2, 1) := by decide +kernel
theorem d_B_turnAt_32 : decode b_B_turnAt 32 = .ok (.laload, 1) := by decide +kernel
theorem d_B_turnAt_33 : decode b_B_turnAt 33 = .ok (.aload_n 0, 1) := by decide +kernel
theorem d_B_turnAt_34 : decode b_B_turnAt 34 = .ok (.getfield 41, 3) := by decide +kernel
theorem d_B_turnAt_37 : decode b_B_turnAt 37 = .ok (.iload_n 1, 1) := by decide +kernel
theorem d_B_turnAt_38 : decode b_B_turnAt 38 = .ok (.laload, 1) := by decide +kernel
theorem d_B_turnAt_39 : decode b_B_turnAt 39 = .ok (.lsub, 1) := by decide +kernel
theorem d_B_turnAt_40 : decode b_B_turnAt 40 = .ok (.aload_n 0, 1) := by decide +kernel
theorem d_B_turnAt_41 : decode b_B_turnAt 41 = .ok (.getfield 37, 3) := by decide +kernel
theorem d_B_turnAt_44 : decode b_B_turnAt 44 = .ok (.iload_n 3, 1) := by decide +kernel
theorem d_B_turnAt_45 : decode b_B_turnAt 45 = .ok (.laload, 1) := by decide +kernel
theorem d_B_turnAt_46 : decode b_B_turnAt 46 = .ok (.aload_n 0, 1) := by decide +kernel
theorem d_B_turnAt_47 : decode b_B_turnAt 47 = .ok (.getfield 37, 3) := by decide +kernel
theorem d_B_turnAt_50 : decode b_B_turnAt 50 = .ok (.iload_n 1, 1) := by decide +kernel
theorem d_B_turnAt_51 : decode b_B_turnAt 51 = .ok (.laload, 1) := by decide +kernel
theorem d_B_turnAt_52 : decode b_B_turnAt 52 = .ok (.lsub, 1) := by decide +kernel
theorem d_B_turnAt_53 : decode b_B_turnAt 53 = .ok (.lmul, 1) := by decide +kernel
theorem d_B_turnAt_54 : decode b_B_turnAt 54 = .ok (.lsub, 1) := by decide +kernel
theorem d_B_turnAt_55 : decode b_B_turnAt 55 = .ok (.lreturn, 1) := by decide +kernel
abbrev rm_B_turnAt : Room := { frames := 0, cells := 0, slots := 0, locals := 0 }
theorem ce_B_turnAt : gCe y_B_turnAt (.code y_B_turnAt b_B_turnAt 4 (some .long)) 4 3 false := gCe.code wd_602 wd_49 wd_601 (by decide) (by decide +kernel)
def f_B_turnAt (g0 : gG) (a0 : Nat) (p1 : Int32) (p2 : Int32) (p3 : Int32) (w : gW) : gX Int64 := (gfA w a0 0 4).bind fun v1 => (gaJ w v1 p2).bind fun v3 => (gfA w a0 0 4).bind fun v5 => (gaJ w v5 p1).bind fun v7 => (gfA w a0 0 5).bind fun v9 => (gaJ w v9 p3).bind fun v11 => (gfA w a0 0 5).bind fun v13 => (gaJ w v13 p1).bind fun v15 => (gfA w a0 0 5).bind fun v17 => (gaJ w v17 p2).bind fun v19 => (gfA w a0 0 5).bind fun v21 => (gaJ w v21 p1).bind fun v23 => (gfA w a0 0 4).bind fun v25 => (gaJ w v25 p3).bind fun v27 => (gfA w a0 0 4).bind fun v29 => (gaJ w v29 p1).bind fun v31 => some (.inr (((v3 - v7) * (v11 - v15)) - ((v19 - v23) * (v27 - v31))), w)
set_option maxHeartbeats 4000000 in
set_option maxRecDepth 100000 in
theorem m_B_turnAt (l : Launch) (hst : l.stackTraces = false) (D : gD) (g0 : gG) (a0 : Nat) (p1 : Int32) (p2 : Int32) (p3 : Int32) (w : gW) (r : (String ⊕ Int64) × gW) (h : f_B_turnAt g0 a0 p1 p2 p3 w = some r) : gMet l y_B_turnAt (.code y_B_turnAt b_B_turnAt 4 (some .long)) rm_B_turnAt D g0 [.ref a0, .int p1, .int p2, .int p3] w (goJ r) := by
  refine gw_ofJ (by decide +kernel) (Nat.le_of_ble_eq_true rfl) ?_
  intro p e s m below meth c ls args A Q hx hb hml hown hlocks hin hnt hT hK hZ hA hret hexc hthr hI hl
  obtain ⟨H, hH⟩ : ∃ H, H = s.heap := ⟨_, rfl⟩
  rw [← hH] at hI ⊢
  obtain ⟨locs, hlocs⟩ : ∃ z : List Loc, z = [] := ⟨_, rfl⟩
  rw [← hlocs] at hI ⊢
  have hl : lv_has ls 4 [(0, .ref a0), (1, .int p1), (2, .int p2), (3, .int p3)] := hl
  unfold f_B_turnAt at h
  refine lv_aload_n hx hb d_B_turnAt_0 rfl (lv_at hl 0 rfl) ?_
  obtain ⟨v1, e2, h⟩ := gb h
  refine gw_getA hx hb hT hown hK hI (ci := 0) rfl i_0 4 (by decide) wd_193 (fun _ h9 => h9) e2 d_B_turnAt_1 ?_
  refine lv_iload_n hx hb d_B_turnAt_4 rfl (lv_at hl 2 rfl) ?_
  obtain ⟨v3, e4, h⟩ := gb h
  refine gw_aldJ hx hb hK hI e4 d_B_turnAt_5 ?_
  refine lv_aload_n hx hb d_B_turnAt_6 rfl (lv_at hl 0 rfl) ?_
  obtain ⟨v5, e6, h⟩ := gb h
  refine gw_getA hx hb hT hown hK hI (ci := 0) rfl i_0 4 (by decide) wd_193 (fun _ h9 => h9) e6 d_B_turnAt_7 ?_
  refine lv_iload_n hx hb d_B_turnAt_10 rfl (lv_at hl 1 rfl) ?_
  obtain ⟨v7, e8, h⟩ := gb h
  refine gw_aldJ hx hb hK hI e8 d_B_turnAt_11 ?_
  refine lv_lsub hx hb d_B_turnAt_12 ?_
  refine lv_aload_n hx hb d_B_turnAt_13 rfl (lv_at hl 0 rfl) ?_
  obtain ⟨v9, e10, h⟩ := gb h
  refine gw_getA hx hb hT hown hK hI (ci := 0) rfl i_0 5 (by decide) wd_194 (fun _ h9 => h9) e10 d_B_turnAt_14 ?_
  refine lv_iload_n hx hb d_B_turnAt_17 rfl (lv_at hl 3 rfl) ?_
  obtain ⟨v11, e12, h⟩ := gb h
  refine gw_aldJ hx hb hK hI e12 d_B_turnAt_18 ?_
  refine lv_aload_n hx hb d_B_turnAt_19 rfl (lv_at hl 0 rfl) ?_
  obtain ⟨v13, e14, h⟩ := gb h
  refine gw_getA hx hb hT hown hK hI (ci := 0) rfl i_0 5 (by decide) wd_194 (fun _ h9 => h9) e14 d_B_turnAt_20 ?_
  refine lv_iload_n hx hb d_B_turnAt_23 rfl (lv_at hl 1 rfl) ?_
  obtain ⟨v15, e16, h⟩ := gb h
  refine gw_aldJ hx hb hK hI e16 d_B_turnAt_24 ?_
  refine lv_lsub hx hb d_B_turnAt_25 ?_
  refine lv_lmul hx hb d_B_turnAt_26 ?_
  refine lv_aload_n hx hb d_B_turnAt_27 rfl (lv_at hl 0 rfl) ?_
  obtain ⟨v17, e18, h⟩ := gb h
  refine gw_getA hx hb hT hown hK hI (ci := 0) rfl i_0 5 (by decide) wd_194 (fun _ h9 => h9) e18 d_B_turnAt_28 ?_
  refine lv_iload_n hx hb d_B_turnAt_31 rfl (lv_at hl 2 rfl) ?_
  obtain ⟨v19, e20, h⟩ := gb h
  refine gw_aldJ hx hb hK hI e20 d_B_turnAt_32 ?_
  refine lv_aload_n hx hb d_B_turnAt_33 rfl (lv_at hl 0 rfl) ?_
  obtain ⟨v21, e22, h⟩ := gb h
  refine gw_getA hx hb hT hown hK hI (ci := 0) rfl i_0 5 (by decide) wd_194 (fun _ h9 => h9) e22 d_B_turnAt_34 ?_
  refine lv_iload_n hx hb d_B_turnAt_37 rfl (lv_at hl 1 rfl) ?_
  obtain ⟨v23, e24, h⟩ := gb h
  refine gw_aldJ hx hb hK hI e24 d_B_turnAt_38 ?_
  refine lv_lsub hx hb d_B_turnAt_39 ?_
  refine lv_aload_n hx hb d_B_turnAt_40 rfl (lv_at hl 0 rfl) ?_
  obtain ⟨v25, e26, h⟩ := gb h
  refine gw_getA hx hb hT hown hK hI (ci := 0) rfl i_0 4 (by decide) wd_193 (fun _ h9 => h9) e26 d_B_turnAt_41 ?_
  refine lv_iload_n hx hb d_B_turnAt_44 rfl (lv_at hl 3 rfl) ?_
  obtain ⟨v27, e28, h⟩ := gb h
  refine gw_aldJ hx hb hK hI e28 d_B_turnAt_45 ?_
  refine lv_aload_n hx hb d_B_turnAt_46 rfl (lv_at hl 0 rfl) ?_
  obtain ⟨v29, e30, h⟩ := gb h
  refine gw_getA hx hb hT hown hK hI (ci := 0) rfl i_0 4 (by decide) wd_193 (fun _ h9 => h9) e30 d_B_turnAt_47 ?_
  refine lv_iload_n hx hb d_B_turnAt_50 rfl (lv_at hl 1 rfl) ?_
  obtain ⟨v31, e32, h⟩ := gb h
  refine gw_aldJ hx hb hK hI e32 d_B_turnAt_51 ?_
  refine lv_lsub hx hb d_B_turnAt_52 ?_
  refine lv_lmul hx hb d_B_turnAt_53 ?_
  refine lv_lsub hx hb d_B_turnAt_54 ?_
  exact W.widen (show 0 ≤ 0 by omega) (show 0 ≤ 0 by omega) (hret _ _ (Option.some.inj h).symm _ _ _ _ d_B_turnAt_55 hI)

abbrev b_B_othersLieLeftOfSide : ByteArray := prog_1_method_29_code
def y_B_othersLieLeftOfSide : MethodName := ⟨"BodySolids", "othersLieLeftOfSide", "(II)Z"⟩
theorem d_B_othersLieLeftOfSide_0 : decode b_B_othersLieLeftOfSide 0 = .ok (.iconst 0, 1) := by decide +kernel
theorem d_B_othersLieLeftOfSide_1 : decode b_B_othersLieLeftOfSide 1 = .ok (.istore_n 3, 1) := by decide +kernel
theorem d_B_othersLieLeftOfSide_2 : decode b_B_othersLieLeftOfSide 2 = .ok (.iload_n 3, 1) := by decide +kernel
theorem d_B_othersLieLeftOfSide_3 : decode b_B_othersLieLeftOfSide 3 = .ok (.aload_n 0, 1) := by decide +kernel
theorem d_B_othersLieLeftOfSide_4 : decode b_B_othersLieLeftOfSide 4 = .ok (.getfield 44, 3) := by decide +kernel
theorem d_B_othersLieLeftOfSide_7 : decode b_B_othersLieLeftOfSide 7 = .ok (.if_icmp .ge 33, 3) := by decide +kernel
theorem d_B_othersLieLeftOfSide_10 : decode b_B_othersLieLeftOfSide 10 = .ok (.iload_n 3, 1) := by decide +kernel
theorem d_B_othersLieLeftOfSide_11 : decode b_B_othersLieLeftOfSide 11 = .ok (.iload_n 1, 1) := by decide +kernel
theorem d_B_othersLieLeftOfSide_12 : decode b_B_othersLieLeftOfSide 12 = .ok (.if_icmp .eq 22, 3) := by decide +kernel
theorem d_B_othersLieLeftOfSide_15 : decode b_B_othersLieLeftOfSide 15 = .ok (.iload_n 3, 1) := by decide +kernel
theorem d_B_othersLieLeftOfSide_16 : decode b_B_othersLieLeftOfSide 16 = .ok (.iload_n 2, 1) := by decide +kernel
theorem d_B_othersLieLeftOfSide_17 : decode b_B_othersLieLeftOfSide 17 = .ok (.if_icmp .eq 17, 3) := by decide +kernel
theorem d_B_othersLieLeftOfSide_20 : decode b_B_othersLieLeftOfSide 20 = .ok (.aload_n 0, 1) := by decide +kernel
theorem d_B_othersLieLeftOfSide_21 : decode b_B_othersLieLeftOfSide 21 = .ok (.iload_n 1, 1) := by decide +kernel
theorem d_B_othersLieLeftOfSide_22 : decode b_B_othersLieLeftOfSide 22 = .ok (.iload_n 2, 1) := by decide +kernel
theorem d_B_othersLieLeftOfSide_23 : decode b_B_othersLieLeftOfSide 23 = .ok (.iload_n 3, 1) := by decide +kernel
theorem d_B_othersLieLeftOfSide_24 : decode b_B_othersLieLeftOfSide 24 = .ok (.invokevirtual 265, 3) := by decide +kernel
theorem d_B_othersLieLeftOfSide_27 : decode b_B_othersLieLeftOfSide 27 = .ok (.lconst 0, 1) := by decide +kernel
theorem d_B_othersLieLeftOfSide_28 : decode b_B_othersLieLeftOfSide 28 = .ok (.lcmp, 1) := by decide +kernel
theorem d_B_othersLieLeftOfSide_29 : decode b_B_othersLieLeftOfSide 29 = .ok (.ifCond .gt 5, 3) := by decide +kernel
theorem d_B_othersLieLeftOfSide_32 : decode b_B_othersLieLeftOfSide 32 = .ok (.iconst 0, 1) := by decide +kernel
theorem d_B_othersLieLeftOfSide_33 : decode b_B_othersLieLeftOfSide 33 = .ok (.ireturn, 1) := by decide +kernel
theorem d_B_othersLieLeftOfSide_34 : decode b_B_othersLieLeftOfSide 34 = .ok (.iinc 3 1, 3) := by decide +kernel
theorem d_B_othersLieLeftOfSide_37 : decode b_B_othersLieLeftOfSide 37 = .ok (.goto (-35), 3) := by decide +kernel
theorem d_B_othersLieLeftOfSide_40 : decode b_B_othersLieLeftOfSide 40 = .ok (.iconst 1, 1) := by decide +kernel
theorem d_B_othersLieLeftOfSide_41 : decode b_B_othersLieLeftOfSide 41 = .ok (.ireturn, 1) := by decide +kernel
abbrev rm_B_othersLieLeftOfSide : Room := { frames := 1, cells := 0, slots := 0, locals := 23 }
theorem ce_B_othersLieLeftOfSide : gCe y_B_othersLieLeftOfSide (.code y_B_othersLieLeftOfSide b_B_othersLieLeftOfSide 4 (some .boolean)) 4 2 false := gCe.code wd_598 wd_49 wd_597 (by decide) (by decide +kernel)
def f_B_othersLieLeftOfSide_L2 (g0 : gG) (c0 : Nat) (c1 : Int32) (c2 : Int32) (K40 : gW → gX Int32) (K32 : gW → gX Int32) : Nat → Int32 → gW → gX Int32
  | 0, _, _ => none
  | n + 1, z3, w => (gfI w c0 0 6).bind fun v3 => if v3 ≤ z3 then (K40 w) else (gjoin (fun K34 => if z3 = c1 then (K34 w) else (if z3 = c2 then (K34 w) else ((gck w c0 0).bind fun _ => gbind (f_B_turnAt g0 c0 c1 c2 z3 w) fun v12 w => if 0 < v12 then (K34 w) else (K32 w)))) (fun (w : gW) => f_B_othersLieLeftOfSide_L2 g0 c0 c1 c2 K40 K32 n (z3 + 1) w))
def f_B_othersLieLeftOfSide (g0 : gG) (a0 : Nat) (p1 : Int32) (p2 : Int32) (w : gW) : gX Int32 := gjoin (fun K40 => gjoin (fun K32 => f_B_othersLieLeftOfSide_L2 g0 a0 p1 p2 K40 K32 64 0 w) (fun (w : gW) => gguard ((0 : Int32) = 0 ∨ (0 : Int32) = 1) (some (.inr 0, w)))) (fun (w : gW) => gguard ((1 : Int32) = 0 ∨ (1 : Int32) = 1) (some (.inr 1, w)))
set_option maxHeartbeats 4000000 in
set_option maxRecDepth 100000 in
theorem m_B_othersLieLeftOfSide (l : Launch) (hst : l.stackTraces = false) (D : gD) (g0 : gG) (a0 : Nat) (p1 : Int32) (p2 : Int32) (w : gW) (r : (String ⊕ Int32) × gW) (h : f_B_othersLieLeftOfSide g0 a0 p1 p2 w = some r) : gMet l y_B_othersLieLeftOfSide (.code y_B_othersLieLeftOfSide b_B_othersLieLeftOfSide 4 (some .boolean)) rm_B_othersLieLeftOfSide D g0 [.ref a0, .int p1, .int p2] w (goI r) := by
  refine gw_ofZ (by decide +kernel) (Nat.le_of_ble_eq_true rfl) ?_
  intro p e s m below meth c ls args A Q hx hb hml hown hlocks hin hnt hT hK hZ hA hret hexc hthr hI hl
  obtain ⟨H, hH⟩ : ∃ H, H = s.heap := ⟨_, rfl⟩
  rw [← hH] at hI ⊢
  obtain ⟨locs, hlocs⟩ : ∃ z : List Loc, z = [] := ⟨_, rfl⟩
  rw [← hlocs] at hI ⊢
  have hl : lv_has ls 4 [(0, .ref a0), (1, .int p1), (2, .int p2)] := hl
  unfold f_B_othersLieLeftOfSide at h
  refine lv_iconst (v := 0) hx hb d_B_othersLieLeftOfSide_0 (by decide) ?_
  refine lv_istore_n (lv' := [(3, .int 0), (0, .ref a0), (1, .int p1), (2, .int p2)]) hx hb d_B_othersLieLeftOfSide_1 rfl hl (by decide) rfl (fun ls hl => ?_)
  obtain ⟨K40, eK40, h⟩ := gj h
  have hK40 : ∀ (w : gW) (H : Heap) (locs : List Loc) (ls : Array Slot), K40 w = some r → gI D s A w H locs → lv_has ls 4 [] → W p l e rm_B_othersLieLeftOfSide s m args below meth c H locs 0 0 Q (F0 m 40 ls []) := by
    intro w H locs ls h hI hl
    have h := gk1 eK40 h
    refine lv_iconst (v := 1) hx hb d_B_othersLieLeftOfSide_40 (by decide) ?_
    obtain ⟨g1, h⟩ := gif h
    exact W.widen (show 0 ≤ 0 by omega) (show 0 ≤ 0 by omega) (hret g1 0 _ (Option.some.inj h).symm _ _ _ _ d_B_othersLieLeftOfSide_41 hI)
  obtain ⟨K32, eK32, h⟩ := gj h
  have hK32 : ∀ (w : gW) (H : Heap) (locs : List Loc) (ls : Array Slot), K32 w = some r → gI D s A w H locs → lv_has ls 4 [] → W p l e rm_B_othersLieLeftOfSide s m args below meth c H locs 0 0 Q (F0 m 32 ls []) := by
    intro w H locs ls h hI hl
    have h := gk1 eK32 h
    refine lv_iconst (v := 0) hx hb d_B_othersLieLeftOfSide_32 (by decide) ?_
    obtain ⟨g2, h⟩ := gif h
    exact W.widen (show 0 ≤ 0 by omega) (show 0 ≤ 0 by omega) (hret g2 0 _ (Option.some.inj h).symm _ _ _ _ d_B_othersLieLeftOfSide_33 hI)
  have hL2 : ∀ (n : Nat), ∀ (z3 : Int32) (w : gW) (H : Heap) (locs : List Loc) (ls : Array Slot), f_B_othersLieLeftOfSide_L2 g0 a0 p1 p2 K40 K32 n z3 w = some r → gI D s A w H locs → lv_has ls 4 [(0, .ref a0), (1, .int p1), (2, .int p2), (3, .int z3)] → W p l e rm_B_othersLieLeftOfSide s m args below meth c H locs 0 0 Q (F0 m 2 ls []) := by
    intro n
    induction n with
    | zero => intro z3 w H locs ls h hI hl; exact absurd h (by simp [f_B_othersLieLeftOfSide_L2])
    | succ n ih =>
      intro z3 w H locs ls h hI hl
      rw [f_B_othersLieLeftOfSide_L2] at h
      refine lv_iload_n hx hb d_B_othersLieLeftOfSide_2 rfl (lv_at hl 3 rfl) ?_
      refine lv_aload_n hx hb d_B_othersLieLeftOfSide_3 rfl (lv_at hl 0 rfl) ?_
      obtain ⟨v4, e5, h⟩ := gb h
      refine gw_getI hx hb hT hown hK hI (ci := 0) rfl i_0 6 (by decide) wd_195 (fun _ h9 => h9) e5 d_B_othersLieLeftOfSide_4 ?_
      refine lv_icmp_ge (tgt := 40) hx hb d_B_othersLieLeftOfSide_7 (by decide) (fun c6 => ?_) (fun c6 => ?_)
      · skip
        have h := git c6 h
        exact hK40 w H locs ls h hI (lv_sub hl [] rfl)
      · skip
        have h := gie c6 h
        refine lv_iload_n hx hb d_B_othersLieLeftOfSide_10 rfl (lv_at hl 3 rfl) ?_
        refine lv_iload_n hx hb d_B_othersLieLeftOfSide_11 rfl (lv_at hl 1 rfl) ?_
        obtain ⟨K34, eK34, h⟩ := gj h
        have hK34 : ∀ (w : gW) (H : Heap) (locs : List Loc) (ls : Array Slot), K34 w = some r → gI D s A w H locs → lv_has ls 4 [(0, .ref a0), (1, .int p1), (2, .int p2), (3, .int z3)] → W p l e rm_B_othersLieLeftOfSide s m args below meth c H locs 0 0 Q (F0 m 34 ls []) := by
          intro w H locs ls h hI hl
          have h := gk1 eK34 h
          refine lv_iinc (v := z3 + 1) (lv' := [(3, .int (z3 + 1)), (0, .ref a0), (1, .int p1), (2, .int p2)]) hx hb d_B_othersLieLeftOfSide_34 hl (k := 3) rfl rfl (by decide) rfl (fun ls hl => ?_)
          refine lv_goto (tgt := 2) hx hb d_B_othersLieLeftOfSide_37 (by decide) ?_
          exact ih _ w H locs ls h hI (lv_sub hl [1, 2, 3, 0] rfl)
        refine lv_icmp_eq (tgt := 34) hx hb d_B_othersLieLeftOfSide_12 (by decide) (fun c7 => ?_) (fun c7 => ?_)
        · skip
          have h := git c7 h
          exact hK34 w H locs ls h hI (lv_sub hl [0, 1, 2, 3] rfl)
        · skip
          have h := gie c7 h
          refine lv_iload_n hx hb d_B_othersLieLeftOfSide_15 rfl (lv_at hl 3 rfl) ?_
          refine lv_iload_n hx hb d_B_othersLieLeftOfSide_16 rfl (lv_at hl 2 rfl) ?_
          refine lv_icmp_eq (tgt := 34) hx hb d_B_othersLieLeftOfSide_17 (by decide) (fun c8 => ?_) (fun c8 => ?_)
          · skip
            have h := git c8 h
            exact hK34 w H locs ls h hI (lv_sub hl [0, 1, 2, 3] rfl)
          · skip
            have h := gie c8 h
            refine lv_aload_n hx hb d_B_othersLieLeftOfSide_20 rfl (lv_at hl 0 rfl) ?_
            refine lv_iload_n hx hb d_B_othersLieLeftOfSide_21 rfl (lv_at hl 1 rfl) ?_
            refine lv_iload_n hx hb d_B_othersLieLeftOfSide_22 rfl (lv_at hl 2 rfl) ?_
            refine lv_iload_n hx hb d_B_othersLieLeftOfSide_23 rfl (lv_at hl 3 rfl) ?_
            obtain ⟨q11, e12, h⟩ := gb h
            obtain ⟨u9, e10⟩ := gsome h
            refine gw_callJ e10 h (gw_runV (As := [.int p1, .int p2, .int z3]) (rest := []) hx hb hml hown hT hK hZ hA hI (ci := 0) rfl e12 (m_B_turnAt l hst D g0 a0 p1 p2 z3 w u9 e10) ce_B_turnAt wd_599 wd_13 ⟨by decide, by decide⟩ rfl rfl hl.1 rfl (lv_room (Nat.le_of_ble_eq_true rfl)) d_B_othersLieLeftOfSide_24 ⟨(show 0 + 0 ≤ 0 by omega), (show 0 + 0 ≤ 0 by omega)⟩) hI hA hexc (show 0 + 0 ≤ 0 by omega) (show 0 + 0 ≤ 0 by omega) (fun v13 w H locs h hI => ?_)
            refine lv_lconst (v := 0) hx hb d_B_othersLieLeftOfSide_27 (by decide) ?_
            refine W.lcmp hx hb d_B_othersLieLeftOfSide_28 ?_
            refine lv_if_gt (tgt := 34) hx hb d_B_othersLieLeftOfSide_29 (by decide) (fun c14 => ?_) (fun c14 => ?_)
            · have c14 := (lg_cmp_gt _ _).mp c14
              have h := git c14 h
              exact hK34 w H locs ls h hI (lv_sub hl [0, 1, 2, 3] rfl)
            · have c14 := mt (lg_cmp_gt _ _).mpr c14
              have h := gie c14 h
              exact hK32 w H locs ls h hI (lv_sub hl [] rfl)
  exact hL2 64 _ w H locs ls h hI (lv_sub hl [1, 2, 3, 0] rfl)

abbrev b_B_cornersMakePolygon : ByteArray := prog_1_method_28_code
def y_B_cornersMakePolygon : MethodName := ⟨"BodySolids", "cornersMakePolygon", "()Z"⟩
theorem d_B_cornersMakePolygon_0 : decode b_B_cornersMakePolygon 0 = .ok (.aload_n 0, 1) := by decide +kernel
theorem d_B_cornersMakePolygon_1 : decode b_B_cornersMakePolygon 1 = .ok (.getfield 44, 3) := by decide +kernel
theorem d_B_cornersMakePolygon_4 : decode b_B_cornersMakePolygon 4 = .ok (.iconst 3, 1) := by decide +kernel
theorem d_B_cornersMakePolygon_5 : decode b_B_cornersMakePolygon 5 = .ok (.if_icmp .ge 5, 3) := by decide +kernel
theorem d_B_cornersMakePolygon_8 : decode b_B_cornersMakePolygon 8 = .ok (.iconst 0, 1) := by decide +kernel
theorem d_B_cornersMakePolygon_9 : decode b_B_cornersMakePolygon 9 = .ok (.ireturn, 1) := by decide +kernel
theorem d_B_cornersMakePolygon_10 : decode b_B_cornersMakePolygon 10 = .ok (.iconst 0, 1) := by decide +kernel
theorem d_B_cornersMakePolygon_11 : decode b_B_cornersMakePolygon 11 = .ok (.istore_n 1, 1) := by decide +kernel
theorem d_B_cornersMakePolygon_12 : decode b_B_cornersMakePolygon 12 = .ok (.iload_n 1, 1) := by decide +kernel
theorem d_B_cornersMakePolygon_13 : decode b_B_cornersMakePolygon 13 = .ok (.aload_n 0, 1) := by decide +kernel
theorem d_B_cornersMakePolygon_14 : decode b_B_cornersMakePolygon 14 = .ok (.getfield 44, 3) := by decide +kernel
theorem d_B_cornersMakePolygon_17 : decode b_B_cornersMakePolygon 17 = .ok (.if_icmp .ge 36, 3) := by decide +kernel
theorem d_B_cornersMakePolygon_20 : decode b_B_cornersMakePolygon 20 = .ok (.aload_n 0, 1) := by decide +kernel
theorem d_B_cornersMakePolygon_21 : decode b_B_cornersMakePolygon 21 = .ok (.iload_n 1, 1) := by decide +kernel
theorem d_B_cornersMakePolygon_22 : decode b_B_cornersMakePolygon 22 = .ok (.iload_n 1, 1) := by decide +kernel
theorem d_B_cornersMakePolygon_23 : decode b_B_cornersMakePolygon 23 = .ok (.iconst 1, 1) := by decide +kernel
theorem d_B_cornersMakePolygon_24 : decode b_B_cornersMakePolygon 24 = .ok (.iadd, 1) := by decide +kernel
theorem d_B_cornersMakePolygon_25 : decode b_B_cornersMakePolygon 25 = .ok (.aload_n 0, 1) := by decide +kernel
theorem d_B_cornersMakePolygon_26 : decode b_B_cornersMakePolygon 26 = .ok (.getfield 44, 3) := by decide +kernel
theorem d_B_cornersMakePolygon_29 : decode b_B_cornersMakePolygon 29 = .ok (.if_icmp .ge 9, 3) := by decide +kernel
theorem d_B_cornersMakePolygon_32 : decode b_B_cornersMakePolygon 32 = .ok (.iload_n 1, 1) := by decide +kernel
theorem d_B_cornersMakePolygon_33 : decode b_B_cornersMakePolygon 33 = .ok (.iconst 1, 1) := by decide +kernel
theorem d_B_cornersMakePolygon_34 : decode b_B_cornersMakePolygon 34 = .ok (.iadd, 1) := by decide +kernel
theorem d_B_cornersMakePolygon_35 : decode b_B_cornersMakePolygon 35 = .ok (.goto 4, 3) := by decide +kernel
theorem d_B_cornersMakePolygon_38 : decode b_B_cornersMakePolygon 38 = .ok (.iconst 0, 1) := by decide +kernel
theorem d_B_cornersMakePolygon_39 : decode b_B_cornersMakePolygon 39 = .ok (.invokevirtual 261, 3) := by decide +kernel
theorem d_B_cornersMakePolygon_42 : decode b_B_cornersMakePolygon 42 = .ok (.ifCond .ne 5, 3) := by decide +kernel
theorem d_B_cornersMakePolygon_45 : decode b_B_cornersMakePolygon 45 = .ok (.iconst 0, 1) := by decide +kernel
theorem d_B_cornersMakePolygon_46 : decode b_B_cornersMakePolygon 46 = .ok (.ireturn, 1) := by decide +kernel
theorem d_B_cornersMakePolygon_47 : decode b_B_cornersMakePolygon 47 = .ok (.iinc 1 1, 3) := by decide +kernel
theorem d_B_cornersMakePolygon_50 : decode b_B_cornersMakePolygon 50 = .ok (.goto (-38), 3) := by decide +kernel
theorem d_B_cornersMakePolygon_53 : decode b_B_cornersMakePolygon 53 = .ok (.iconst 1, 1) := by decide +kernel
theorem d_B_cornersMakePolygon_54 : decode b_B_cornersMakePolygon 54 = .ok (.ireturn, 1) := by decide +kernel
abbrev rm_B_cornersMakePolygon : Room := { frames := 2, cells := 0, slots := 0, locals := 46 }
theorem ce_B_cornersMakePolygon : gCe y_B_cornersMakePolygon (.code y_B_cornersMakePolygon b_B_cornersMakePolygon 2 (some .boolean)) 2 0 false := gCe.code wd_594 wd_49 wd_593 (by decide) (by decide +kernel)
def f_B_cornersMakePolygon_L12 (g0 : gG) (c0 : Nat) (K53 : gW → gX Int32) (K45 : gW → gX Int32) : Nat → Int32 → gW → gX Int32
  | 0, _, _ => none
  | n + 1, z1, w => (gfI w c0 0 6).bind fun v6 => if v6 ≤ z1 then (K53 w) else ((gfI w c0 0 6).bind fun v9 => gjoin (fun K39 => if v9 ≤ (z1 + 1) then (K39 0 w) else (K39 (z1 + 1) w)) (fun (y11 : Int32) (w : gW) => (gck w c0 0).bind fun _ => gbind (f_B_othersLieLeftOfSide g0 c0 z1 y11 w) fun v16 w => if v16 = 0 then (K45 w) else (f_B_cornersMakePolygon_L12 g0 c0 K53 K45 n (z1 + 1) w)))
def f_B_cornersMakePolygon (g0 : gG) (a0 : Nat) (w : gW) : gX Int32 := (gfI w a0 0 6).bind fun v1 => if 3 ≤ v1 then (gjoin (fun K53 => gjoin (fun K45 => f_B_cornersMakePolygon_L12 g0 a0 K53 K45 64 0 w) (fun (w : gW) => gguard ((0 : Int32) = 0 ∨ (0 : Int32) = 1) (some (.inr 0, w)))) (fun (w : gW) => gguard ((1 : Int32) = 0 ∨ (1 : Int32) = 1) (some (.inr 1, w)))) else (gguard ((0 : Int32) = 0 ∨ (0 : Int32) = 1) (some (.inr 0, w)))
set_option maxHeartbeats 4000000 in
set_option maxRecDepth 100000 in
theorem m_B_cornersMakePolygon (l : Launch) (hst : l.stackTraces = false) (D : gD) (g0 : gG) (a0 : Nat) (w : gW) (r : (String ⊕ Int32) × gW) (h : f_B_cornersMakePolygon g0 a0 w = some r) : gMet l y_B_cornersMakePolygon (.code y_B_cornersMakePolygon b_B_cornersMakePolygon 2 (some .boolean)) rm_B_cornersMakePolygon D g0 [.ref a0] w (goI r) := by
  refine gw_ofZ (by decide +kernel) (Nat.le_of_ble_eq_true rfl) ?_
  intro p e s m below meth c ls args A Q hx hb hml hown hlocks hin hnt hT hK hZ hA hret hexc hthr hI hl
  obtain ⟨H, hH⟩ : ∃ H, H = s.heap := ⟨_, rfl⟩
  rw [← hH] at hI ⊢
  obtain ⟨locs, hlocs⟩ : ∃ z : List Loc, z = [] := ⟨_, rfl⟩
  rw [← hlocs] at hI ⊢
  have hl : lv_has ls 2 [(0, .ref a0)] := hl
  unfold f_B_cornersMakePolygon at h
  refine lv_aload_n hx hb d_B_cornersMakePolygon_0 rfl (lv_at hl 0 rfl) ?_
  obtain ⟨v1, e2, h⟩ := gb h
  refine gw_getI hx hb hT hown hK hI (ci := 0) rfl i_0 6 (by decide) wd_195 (fun _ h9 => h9) e2 d_B_cornersMakePolygon_1 ?_
  refine lv_iconst (v := 3) hx hb d_B_cornersMakePolygon_4 (by decide) ?_
  refine lv_icmp_ge (tgt := 10) hx hb d_B_cornersMakePolygon_5 (by decide) (fun c3 => ?_) (fun c3 => ?_)
  · skip
    have h := git c3 h
    refine lv_iconst (v := 0) hx hb d_B_cornersMakePolygon_10 (by decide) ?_
    refine lv_istore_n (lv' := [(1, .int 0), (0, .ref a0)]) hx hb d_B_cornersMakePolygon_11 rfl hl (by decide) rfl (fun ls hl => ?_)
    obtain ⟨K53, eK53, h⟩ := gj h
    have hK53 : ∀ (w : gW) (H : Heap) (locs : List Loc) (ls : Array Slot), K53 w = some r → gI D s A w H locs → lv_has ls 2 [] → W p l e rm_B_cornersMakePolygon s m args below meth c H locs 0 0 Q (F0 m 53 ls []) := by
      intro w H locs ls h hI hl
      have h := gk1 eK53 h
      refine lv_iconst (v := 1) hx hb d_B_cornersMakePolygon_53 (by decide) ?_
      obtain ⟨g4, h⟩ := gif h
      exact W.widen (show 0 ≤ 0 by omega) (show 0 ≤ 0 by omega) (hret g4 0 _ (Option.some.inj h).symm _ _ _ _ d_B_cornersMakePolygon_54 hI)
    obtain ⟨K45, eK45, h⟩ := gj h
    have hK45 : ∀ (w : gW) (H : Heap) (locs : List Loc) (ls : Array Slot), K45 w = some r → gI D s A w H locs → lv_has ls 2 [] → W p l e rm_B_cornersMakePolygon s m args below meth c H locs 0 0 Q (F0 m 45 ls []) := by
      intro w H locs ls h hI hl
      have h := gk1 eK45 h
      refine lv_iconst (v := 0) hx hb d_B_cornersMakePolygon_45 (by decide) ?_
      obtain ⟨g5, h⟩ := gif h
      exact W.widen (show 0 ≤ 0 by omega) (show 0 ≤ 0 by omega) (hret g5 0 _ (Option.some.inj h).symm _ _ _ _ d_B_cornersMakePolygon_46 hI)
    have hL12 : ∀ (n : Nat), ∀ (z6 : Int32) (w : gW) (H : Heap) (locs : List Loc) (ls : Array Slot), f_B_cornersMakePolygon_L12 g0 a0 K53 K45 n z6 w = some r → gI D s A w H locs → lv_has ls 2 [(0, .ref a0), (1, .int z6)] → W p l e rm_B_cornersMakePolygon s m args below meth c H locs 0 0 Q (F0 m 12 ls []) := by
      intro n
      induction n with
      | zero => intro z6 w H locs ls h hI hl; exact absurd h (by simp [f_B_cornersMakePolygon_L12])
      | succ n ih =>
        intro z6 w H locs ls h hI hl
        rw [f_B_cornersMakePolygon_L12] at h
        refine lv_iload_n hx hb d_B_cornersMakePolygon_12 rfl (lv_at hl 1 rfl) ?_
        refine lv_aload_n hx hb d_B_cornersMakePolygon_13 rfl (lv_at hl 0 rfl) ?_
        obtain ⟨v7, e8, h⟩ := gb h
        refine gw_getI hx hb hT hown hK hI (ci := 0) rfl i_0 6 (by decide) wd_195 (fun _ h9 => h9) e8 d_B_cornersMakePolygon_14 ?_
        refine lv_icmp_ge (tgt := 53) hx hb d_B_cornersMakePolygon_17 (by decide) (fun c9 => ?_) (fun c9 => ?_)
        · skip
          have h := git c9 h
          exact hK53 w H locs ls h hI (lv_sub hl [] rfl)
        · skip
          have h := gie c9 h
          refine lv_aload_n hx hb d_B_cornersMakePolygon_20 rfl (lv_at hl 0 rfl) ?_
          refine lv_iload_n hx hb d_B_cornersMakePolygon_21 rfl (lv_at hl 1 rfl) ?_
          refine lv_iload_n hx hb d_B_cornersMakePolygon_22 rfl (lv_at hl 1 rfl) ?_
          refine lv_iconst (v := 1) hx hb d_B_cornersMakePolygon_23 (by decide) ?_
          refine lv_iadd hx hb d_B_cornersMakePolygon_24 ?_
          refine lv_aload_n hx hb d_B_cornersMakePolygon_25 rfl (lv_at hl 0 rfl) ?_
          obtain ⟨v10, e11, h⟩ := gb h
          refine gw_getI hx hb hT hown hK hI (ci := 0) rfl i_0 6 (by decide) wd_195 (fun _ h9 => h9) e11 d_B_cornersMakePolygon_26 ?_
          obtain ⟨K39, eK39, h⟩ := gj h
          have hK39 : ∀ (y12 : Int32) (w : gW) (H : Heap) (locs : List Loc) (ls : Array Slot), K39 y12 w = some r → gI D s A w H locs → lv_has ls 2 [(0, .ref a0), (1, .int z6)] → W p l e rm_B_cornersMakePolygon s m args below meth c H locs 0 0 Q (F0 m 39 ls [.int y12, .int z6, .ref a0]) := by
            intro y12 w H locs ls h hI hl
            have h := gk2 eK39 h
            obtain ⟨q15, e16, h⟩ := gb h
            obtain ⟨u13, e14⟩ := gsome h
            refine gw_callI e14 h (gw_runV (As := [.int z6, .int y12]) (rest := []) hx hb hml hown hT hK hZ hA hI (ci := 0) rfl e16 (m_B_othersLieLeftOfSide l hst D g0 a0 z6 y12 w u13 e14) ce_B_othersLieLeftOfSide wd_595 wd_12 ⟨by decide, by decide⟩ rfl rfl hl.1 rfl (lv_room (Nat.le_of_ble_eq_true rfl)) d_B_cornersMakePolygon_39 ⟨(show 0 + 0 ≤ 0 by omega), (show 0 + 0 ≤ 0 by omega)⟩) hI hA hexc (show 0 + 0 ≤ 0 by omega) (show 0 + 0 ≤ 0 by omega) (fun v17 w H locs h hI => ?_)
            refine lv_if_ne (tgt := 47) hx hb d_B_cornersMakePolygon_42 (by decide) (fun c18 => ?_) (fun c18 => ?_)
            · skip
              have h := gie c18 h
              refine lv_iinc (v := z6 + 1) (lv' := [(1, .int (z6 + 1)), (0, .ref a0)]) hx hb d_B_cornersMakePolygon_47 hl (k := 1) rfl rfl (by decide) rfl (fun ls hl => ?_)
              refine lv_goto (tgt := 12) hx hb d_B_cornersMakePolygon_50 (by decide) ?_
              exact ih _ w H locs ls h hI (lv_sub hl [1, 0] rfl)
            · skip
              have h := git c18 h
              exact hK45 w H locs ls h hI (lv_sub hl [] rfl)
          refine lv_icmp_ge (tgt := 38) hx hb d_B_cornersMakePolygon_29 (by decide) (fun c19 => ?_) (fun c19 => ?_)
          · skip
            have h := git c19 h
            refine lv_iconst (v := 0) hx hb d_B_cornersMakePolygon_38 (by decide) ?_
            exact hK39 _ w H locs ls h hI (lv_sub hl [0, 1] rfl)
          · skip
            have h := gie c19 h
            refine lv_iload_n hx hb d_B_cornersMakePolygon_32 rfl (lv_at hl 1 rfl) ?_
            refine lv_iconst (v := 1) hx hb d_B_cornersMakePolygon_33 (by decide) ?_
            refine lv_iadd hx hb d_B_cornersMakePolygon_34 ?_
            refine lv_goto (tgt := 39) hx hb d_B_cornersMakePolygon_35 (by decide) ?_
            exact hK39 _ w H locs ls h hI (lv_sub hl [0, 1] rfl)
    exact hL12 64 _ w H locs ls h hI (lv_sub hl [1, 0] rfl)
  · skip
    have h := gie c3 h
    refine lv_iconst (v := 0) hx hb d_B_cornersMakePolygon_8 (by decide) ?_
    obtain ⟨g20, h⟩ := gif h
    exact W.widen (show 0 ≤ 0 by omega) (show 0 ≤ 0 by omega) (hret g20 0 _ (Option.some.inj h).symm _ _ _ _ d_B_cornersMakePolygon_9 hI)

abbrev b_B_twiceAreaOfCorners : ByteArray := prog_1_method_30_code
def y_B_twiceAreaOfCorners : MethodName := ⟨"BodySolids", "twiceAreaOfCorners", "()J"⟩
theorem d_B_twiceAreaOfCorners_0 : decode b_B_twiceAreaOfCorners 0 = .ok (.lconst 0, 1) := by decide +kernel
theorem d_B_twiceAreaOfCorners_1 : decode b_B_twiceAreaOfCorners 1 = .ok (.lstore_n 1, 1) := by decide +kernel
theorem d_B_twiceAreaOfCorners_2 : decode b_B_twiceAreaOfCorners 2 = .ok (.iconst 2, 1) := by decide +kernel
theorem d_B_twiceAreaOfCorners_3 : decode b_B_twiceAreaOfCorners 3 = .ok (.istore_n 3, 1) := by decide +kernel
theorem d_B_twiceAreaOfCorners_4 : decode b_B_twiceAreaOfCorners 4 = .ok (.iload_n 3, 1) := by decide +kernel
theorem d_B_twiceAreaOfCorners_5 : decode b_B_twiceAreaOfCorners 5 = .ok (.aload_n 0, 1) := by decide +kernel
theorem d_B_twiceAreaOfCorners_6 : decode b_B_twiceAreaOfCorners 6 = .ok (.getfield 44, 3) := by decide +kernel
theorem d_B_twiceAreaOfCorners_9 : decode b_B_twiceAreaOfCorners 9 = .ok (.if_icmp .ge 21, 3) := by decide +kernel
theorem d_B_twiceAreaOfCorners_12 : decode b_B_twiceAreaOfCorners 12 = .ok (.lload_n 1, 1) := by decide +kernel
theorem d_B_twiceAreaOfCorners_13 : decode b_B_twiceAreaOfCorners 13 = .ok (.aload_n 0, 1) := by decide +kernel
theorem d_B_twiceAreaOfCorners_14 : decode b_B_twiceAreaOfCorners 14 = .ok (.iconst 0, 1) := by decide +kernel
theorem d_B_twiceAreaOfCorners_15 : decode b_B_twiceAreaOfCorners 15 = .ok (.iload_n 3, 1) := by decide +kernel
theorem d_B_twiceAreaOfCorners_16 : decode b_B_twiceAreaOfCorners 16 = .ok (.iconst 1, 1) := by decide +kernel
theorem d_B_twiceAreaOfCorners_17 : decode b_B_twiceAreaOfCorners 17 = .ok (.isub, 1) := by decide +kernel
theorem d_B_twiceAreaOfCorners_18 : decode b_B_twiceAreaOfCorners 18 = .ok (.iload_n 3, 1) := by decide +kernel
theorem d_B_twiceAreaOfCorners_19 : decode b_B_twiceAreaOfCorners 19 = .ok (.invokevirtual 265, 3) := by decide +kernel
theorem d_B_twiceAreaOfCorners_22 : decode b_B_twiceAreaOfCorners 22 = .ok (.ladd, 1) := by decide +kernel
theorem d_B_twiceAreaOfCorners_23 : decode b_B_twiceAreaOfCorners 23 = .ok (.lstore_n 1, 1) := by decide +kernel
theorem d_B_twiceAreaOfCorners_24 : decode b_B_twiceAreaOfCorners 24 = .ok (.iinc 3 1, 3) := by decide +kernel
theorem d_B_twiceAreaOfCorners_27 : decode b_B_twiceAreaOfCorners 27 = .ok (.goto (-23), 3) := by decide +kernel
theorem d_B_twiceAreaOfCorners_30 : decode b_B_twiceAreaOfCorners 30 = .ok (.lload_n 1, 1) := by decide +kernel
theorem d_B_twiceAreaOfCorners_31 : decode b_B_twiceAreaOfCorners 31 = .ok (.lreturn, 1) := by decide +kernel
abbrev rm_B_twiceAreaOfCorners : Room := { frames := 1, cells := 0, slots := 0, locals := 23 }
theorem ce_B_twiceAreaOfCorners : gCe y_B_twiceAreaOfCorners (.code y_B_twiceAreaOfCorners b_B_twiceAreaOfCorners 4 (some .long)) 4 0 false := gCe.code wd_607 wd_49 wd_606 (by decide) (by decide +kernel)
def f_B_twiceAreaOfCorners_L4 (g0 : gG) (c0 : Nat) (K30 : Int64 → gW → gX Int64) : Nat → Int64 → Int32 → gW → gX Int64
  | 0, _, _, _ => none
  | n + 1, z1, z3, w => (gfI w c0 0 6).bind fun v2 => if v2 ≤ z3 then (K30 z1 w) else ((gck w c0 0).bind fun _ => gbind (f_B_turnAt g0 c0 0 (z3 - 1) z3 w) fun v9 w => f_B_twiceAreaOfCorners_L4 g0 c0 K30 n (z1 + v9) (z3 + 1) w)
def f_B_twiceAreaOfCorners (g0 : gG) (a0 : Nat) (w : gW) : gX Int64 := gjoin (fun K30 => f_B_twiceAreaOfCorners_L4 g0 a0 K30 64 0 2 w) (fun (x1 : Int64) (w : gW) => some (.inr x1, w))
set_option maxHeartbeats 4000000 in
set_option maxRecDepth 100000 in
theorem m_B_twiceAreaOfCorners (l : Launch) (hst : l.stackTraces = false) (D : gD) (g0 : gG) (a0 : Nat) (w : gW) (r : (String ⊕ Int64) × gW) (h : f_B_twiceAreaOfCorners g0 a0 w = some r) : gMet l y_B_twiceAreaOfCorners (.code y_B_twiceAreaOfCorners b_B_twiceAreaOfCorners 4 (some .long)) rm_B_twiceAreaOfCorners D g0 [.ref a0] w (goJ r) := by
  refine gw_ofJ (by decide +kernel) (Nat.le_of_ble_eq_true rfl) ?_
  intro p e s m below meth c ls args A Q hx hb hml hown hlocks hin hnt hT hK hZ hA hret hexc hthr hI hl
  obtain ⟨H, hH⟩ : ∃ H, H = s.heap := ⟨_, rfl⟩
  rw [← hH] at hI ⊢
  obtain ⟨locs, hlocs⟩ : ∃ z : List Loc, z = [] := ⟨_, rfl⟩
  rw [← hlocs] at hI ⊢
  have hl : lv_has ls 4 [(0, .ref a0)] := hl
  unfold f_B_twiceAreaOfCorners at h
  refine lv_lconst (v := 0) hx hb d_B_twiceAreaOfCorners_0 (by decide) ?_
  refine lv_lstore_n (lv' := [(1, .long 0), (0, .ref a0)]) hx hb d_B_twiceAreaOfCorners_1 rfl hl (by decide) rfl (fun ls hl => ?_)
  refine lv_iconst (v := 2) hx hb d_B_twiceAreaOfCorners_2 (by decide) ?_
  refine lv_istore_n (lv' := [(3, .int 2), (1, .long 0), (0, .ref a0)]) hx hb d_B_twiceAreaOfCorners_3 rfl hl (by decide) rfl (fun ls hl => ?_)
  obtain ⟨K30, eK30, h⟩ := gj h
  have hK30 : ∀ (x1 : Int64) (w : gW) (H : Heap) (locs : List Loc) (ls : Array Slot), K30 x1 w = some r → gI D s A w H locs → lv_has ls 4 [(1, .long x1)] → W p l e rm_B_twiceAreaOfCorners s m args below meth c H locs 0 0 Q (F0 m 30 ls []) := by
    intro x1 w H locs ls h hI hl
    have h := gk2 eK30 h
    refine lv_lload_n hx hb d_B_twiceAreaOfCorners_30 rfl (lv_at hl 0 rfl) ?_
    exact W.widen (show 0 ≤ 0 by omega) (show 0 ≤ 0 by omega) (hret _ _ (Option.some.inj h).symm _ _ _ _ d_B_twiceAreaOfCorners_31 hI)
  have hL4 : ∀ (n : Nat), ∀ (z2 : Int64) (z3 : Int32) (w : gW) (H : Heap) (locs : List Loc) (ls : Array Slot), f_B_twiceAreaOfCorners_L4 g0 a0 K30 n z2 z3 w = some r → gI D s A w H locs → lv_has ls 4 [(0, .ref a0), (1, .long z2), (3, .int z3)] → W p l e rm_B_twiceAreaOfCorners s m args below meth c H locs 0 0 Q (F0 m 4 ls []) := by
    intro n
    induction n with
    | zero => intro z2 z3 w H locs ls h hI hl; exact absurd h (by simp [f_B_twiceAreaOfCorners_L4])
    | succ n ih =>
      intro z2 z3 w H locs ls h hI hl
      rw [f_B_twiceAreaOfCorners_L4] at h
      refine lv_iload_n hx hb d_B_twiceAreaOfCorners_4 rfl (lv_at hl 2 rfl) ?_
      refine lv_aload_n hx hb d_B_twiceAreaOfCorners_5 rfl (lv_at hl 0 rfl) ?_
      obtain ⟨v4, e5, h⟩ := gb h
      refine gw_getI hx hb hT hown hK hI (ci := 0) rfl i_0 6 (by decide) wd_195 (fun _ h9 => h9) e5 d_B_twiceAreaOfCorners_6 ?_
      refine lv_icmp_ge (tgt := 30) hx hb d_B_twiceAreaOfCorners_9 (by decide) (fun c6 => ?_) (fun c6 => ?_)
      · skip
        have h := git c6 h
        exact hK30 _ w H locs ls h hI (lv_sub hl [1] rfl)
      · skip
        have h := gie c6 h
        refine lv_lload_n hx hb d_B_twiceAreaOfCorners_12 rfl (lv_at hl 1 rfl) ?_
        refine lv_aload_n hx hb d_B_twiceAreaOfCorners_13 rfl (lv_at hl 0 rfl) ?_
        refine lv_iconst (v := 0) hx hb d_B_twiceAreaOfCorners_14 (by decide) ?_
        refine lv_iload_n hx hb d_B_twiceAreaOfCorners_15 rfl (lv_at hl 2 rfl) ?_
        refine lv_iconst (v := 1) hx hb d_B_twiceAreaOfCorners_16 (by decide) ?_
        refine lv_isub hx hb d_B_twiceAreaOfCorners_17 ?_
        refine lv_iload_n hx hb d_B_twiceAreaOfCorners_18 rfl (lv_at hl 2 rfl) ?_
        obtain ⟨q9, e10, h⟩ := gb h
        obtain ⟨u7, e8⟩ := gsome h
        refine gw_callJ e8 h (gw_runV (As := [.int 0, .int (z3 - 1), .int z3]) (rest := [.long z2]) hx hb hml hown hT hK hZ hA hI (ci := 0) rfl e10 (m_B_turnAt l hst D g0 a0 0 (z3 - 1) z3 w u7 e8) ce_B_turnAt wd_599 wd_13 ⟨by decide, by decide⟩ rfl rfl hl.1 rfl (lv_room (Nat.le_of_ble_eq_true rfl)) d_B_twiceAreaOfCorners_19 ⟨(show 0 + 0 ≤ 0 by omega), (show 0 + 0 ≤ 0 by omega)⟩) hI hA hexc (show 0 + 0 ≤ 0 by omega) (show 0 + 0 ≤ 0 by omega) (fun v11 w H locs h hI => ?_)
        refine lv_ladd hx hb d_B_twiceAreaOfCorners_22 ?_
        refine lv_lstore_n (lv' := [(1, .long (z2 + v11)), (0, .ref a0), (3, .int z3)]) hx hb d_B_twiceAreaOfCorners_23 rfl hl (by decide) rfl (fun ls hl => ?_)
        refine lv_iinc (v := z3 + 1) (lv' := [(3, .int (z3 + 1)), (1, .long (z2 + v11)), (0, .ref a0)]) hx hb d_B_twiceAreaOfCorners_24 hl (k := 2) rfl rfl (by decide) rfl (fun ls hl => ?_)
        refine lv_goto (tgt := 4) hx hb d_B_twiceAreaOfCorners_27 (by decide) ?_
        exact ih _ _ w H locs ls h hI (lv_sub hl [2, 1, 0] rfl)
  exact hL4 64 _ _ w H locs ls h hI (lv_sub hl [2, 1, 0] rfl)

abbrev b_B_prism : ByteArray := prog_1_method_6_code
def y_B_prism : MethodName := ⟨"BodySolids", "prism", "(IJJ)Z"⟩
theorem d_B_prism_0 : decode b_B_prism 0 = .ok (.aload_n 0, 1) := by decide +kernel
theorem d_B_prism_1 : decode b_B_prism 1 = .ok (.iload_n 1, 1) := by decide +kernel
theorem d_B_prism_2 : decode b_B_prism 2 = .ok (.invokevirtual 79, 3) := by decide +kernel
theorem d_B_prism_5 : decode b_B_prism 5 = .ok (.astore 6, 2) := by decide +kernel
theorem d_B_prism_7 : decode b_B_prism 7 = .ok (.lload_n 2, 1) := by decide +kernel
theorem d_B_prism_8 : decode b_B_prism 8 = .ok (.lload 4, 2) := by decide +kernel
theorem d_B_prism_10 : decode b_B_prism 10 = .ok (.invokestatic 91, 3) := by decide +kernel
theorem d_B_prism_13 : decode b_B_prism 13 = .ok (.aload_n 0, 1) := by decide +kernel
theorem d_B_prism_14 : decode b_B_prism 14 = .ok (.invokevirtual 127, 3) := by decide +kernel
theorem d_B_prism_17 : decode b_B_prism 17 = .ok (.ifCond .ne 10, 3) := by decide +kernel
theorem d_B_prism_20 : decode b_B_prism 20 = .ok (.aload_n 0, 1) := by decide +kernel
theorem d_B_prism_21 : decode b_B_prism 21 = .ok (.iconst 0, 1) := by decide +kernel
theorem d_B_prism_22 : decode b_B_prism 22 = .ok (.putfield 44, 3) := by decide +kernel
theorem d_B_prism_25 : decode b_B_prism 25 = .ok (.iconst 0, 1) := by decide +kernel
theorem d_B_prism_26 : decode b_B_prism 26 = .ok (.ireturn, 1) := by decide +kernel
theorem d_B_prism_27 : decode b_B_prism 27 = .ok (.aload 6, 2) := by decide +kernel
theorem d_B_prism_29 : decode b_B_prism 29 = .ok (.invokevirtual 94, 3) := by decide +kernel
theorem d_B_prism_32 : decode b_B_prism 32 = .ok (.ifCond .eq 5, 3) := by decide +kernel
theorem d_B_prism_35 : decode b_B_prism 35 = .ok (.iconst 0, 1) := by decide +kernel
theorem d_B_prism_36 : decode b_B_prism 36 = .ok (.ireturn, 1) := by decide +kernel
theorem d_B_prism_37 : decode b_B_prism 37 = .ok (.new 98, 3) := by decide +kernel
theorem d_B_prism_40 : decode b_B_prism 40 = .ok (.dup, 1) := by decide +kernel
theorem d_B_prism_41 : decode b_B_prism 41 = .ok (.invokespecial 100, 3) := by decide +kernel
theorem d_B_prism_44 : decode b_B_prism 44 = .ok (.astore 7, 2) := by decide +kernel
theorem d_B_prism_46 : decode b_B_prism 46 = .ok (.aload 7, 2) := by decide +kernel
theorem d_B_prism_48 : decode b_B_prism 48 = .ok (.iconst 2, 1) := by decide +kernel
theorem d_B_prism_49 : decode b_B_prism 49 = .ok (.lconst 0, 1) := by decide +kernel
theorem d_B_prism_50 : decode b_B_prism 50 = .ok (.lconst 0, 1) := by decide +kernel
theorem d_B_prism_51 : decode b_B_prism 51 = .ok (.invokevirtual 101, 3) := by decide +kernel
theorem d_B_prism_54 : decode b_B_prism 54 = .ok (.iconst 0, 1) := by decide +kernel
theorem d_B_prism_55 : decode b_B_prism 55 = .ok (.istore 8, 2) := by decide +kernel
theorem d_B_prism_57 : decode b_B_prism 57 = .ok (.iload 8, 2) := by decide +kernel
theorem d_B_prism_59 : decode b_B_prism 59 = .ok (.aload_n 0, 1) := by decide +kernel
theorem d_B_prism_60 : decode b_B_prism 60 = .ok (.getfield 44, 3) := by decide +kernel
theorem d_B_prism_63 : decode b_B_prism 63 = .ok (.if_icmp .ge 35, 3) := by decide +kernel
theorem d_B_prism_66 : decode b_B_prism 66 = .ok (.iload 8, 2) := by decide +kernel
theorem d_B_prism_68 : decode b_B_prism 68 = .ok (.bipush 8, 2) := by decide +kernel
theorem d_B_prism_70 : decode b_B_prism 70 = .ok (.if_icmp .ge 28, 3) := by decide +kernel
theorem d_B_prism_73 : decode b_B_prism 73 = .ok (.aload 7, 2) := by decide +kernel
theorem d_B_prism_75 : decode b_B_prism 75 = .ok (.aload_n 0, 1) := by decide +kernel
theorem d_B_prism_76 : decode b_B_prism 76 = .ok (.getfield 37, 3) := by decide +kernel
theorem d_B_prism_79 : decode b_B_prism 79 = .ok (.iload 8, 2) := by decide +kernel
theorem d_B_prism_81 : decode b_B_prism 81 = .ok (.laload, 1) := by decide +kernel
theorem d_B_prism_82 : decode b_B_prism 82 = .ok (.aload_n 0, 1) := by decide +kernel
theorem d_B_prism_83 : decode b_B_prism 83 = .ok (.getfield 41, 3) := by decide +kernel
theorem d_B_prism_86 : decode b_B_prism 86 = .ok (.iload 8, 2) := by decide +kernel
theorem d_B_prism_88 : decode b_B_prism 88 = .ok (.laload, 1) := by decide +kernel
theorem d_B_prism_89 : decode b_B_prism 89 = .ok (.invokevirtual 122, 3) := by decide +kernel
theorem d_B_prism_92 : decode b_B_prism 92 = .ok (.iinc 8 1, 3) := by decide +kernel
theorem d_B_prism_95 : decode b_B_prism 95 = .ok (.goto (-38), 3) := by decide +kernel
theorem d_B_prism_98 : decode b_B_prism 98 = .ok (.aload 7, 2) := by decide +kernel
theorem d_B_prism_100 : decode b_B_prism 100 = .ok (.lload_n 2, 1) := by decide +kernel
theorem d_B_prism_101 : decode b_B_prism 101 = .ok (.lload_n 2, 1) := by decide +kernel
theorem d_B_prism_102 : decode b_B_prism 102 = .ok (.lload 4, 2) := by decide +kernel
theorem d_B_prism_104 : decode b_B_prism 104 = .ok (.ladd, 1) := by decide +kernel
theorem d_B_prism_105 : decode b_B_prism 105 = .ok (.invokevirtual 109, 3) := by decide +kernel
theorem d_B_prism_108 : decode b_B_prism 108 = .ok (.aload 6, 2) := by decide +kernel
theorem d_B_prism_110 : decode b_B_prism 110 = .ok (.aload 7, 2) := by decide +kernel
theorem d_B_prism_112 : decode b_B_prism 112 = .ok (.ldc2_w 130, 3) := by decide +kernel
theorem d_B_prism_115 : decode b_B_prism 115 = .ok (.aload_n 0, 1) := by decide +kernel
theorem d_B_prism_116 : decode b_B_prism 116 = .ok (.invokevirtual 132, 3) := by decide +kernel
theorem d_B_prism_119 : decode b_B_prism 119 = .ok (.lmul, 1) := by decide +kernel
theorem d_B_prism_120 : decode b_B_prism 120 = .ok (.lload 4, 2) := by decide +kernel
theorem d_B_prism_122 : decode b_B_prism 122 = .ok (.lmul, 1) := by decide +kernel
theorem d_B_prism_123 : decode b_B_prism 123 = .ok (.invokevirtual 114, 3) := by decide +kernel
theorem d_B_prism_126 : decode b_B_prism 126 = .ok (.aload_n 0, 1) := by decide +kernel
theorem d_B_prism_127 : decode b_B_prism 127 = .ok (.aload 6, 2) := by decide +kernel
theorem d_B_prism_129 : decode b_B_prism 129 = .ok (.invokevirtual 118, 3) := by decide +kernel
theorem d_B_prism_132 : decode b_B_prism 132 = .ok (.aload_n 0, 1) := by decide +kernel
theorem d_B_prism_133 : decode b_B_prism 133 = .ok (.iconst 0, 1) := by decide +kernel
theorem d_B_prism_134 : decode b_B_prism 134 = .ok (.putfield 44, 3) := by decide +kernel
theorem d_B_prism_137 : decode b_B_prism 137 = .ok (.iconst 1, 1) := by decide +kernel
theorem d_B_prism_138 : decode b_B_prism 138 = .ok (.ireturn, 1) := by decide +kernel
abbrev rm_B_prism : Room := { frames := 10, cells := 8, slots := 116, locals := 202 }
theorem ce_B_prism : gCe y_B_prism (.code y_B_prism b_B_prism 9 (some .boolean)) 9 3 false := gCe.code wd_590 wd_49 wd_588 (by decide) (by decide +kernel)
def f_B_prism_L57 (g0 : gG) (c0 : Nat) (c2 : Int64) (c4 : Int64) (c6 : Nat) (c7 : Nat) (K98 : gW → gX Int32) : Nat → Int32 → gW → gX Int32
  | 0, _, _ => none
  | n + 1, z8, w => (gfI w c0 0 6).bind fun v53 => if v53 ≤ z8 then (K98 w) else (if 8 ≤ z8 then (K98 w) else ((gfA w c0 0 4).bind fun v57 => (gaJ w v57 z8).bind fun v59 => (gfA w c0 0 5).bind fun v61 => (gaJ w v61 z8).bind fun v63 => (gck w c7 3).bind fun _ => gbind (f_So_addCorner g0 c7 v59 v63 w) fun v69 w => f_B_prism_L57 g0 c0 c2 c4 c6 c7 K98 n (z8 + 1) w))
def f_B_prism (g0 : gG) (a0 : Nat) (p1 : Int32) (p2 : Int64) (p3 : Int64) (w : gW) : gX Int32 := (gck w a0 0).bind fun _ => gbind (f_B_bodyAt g0 a0 p1 w) fun v5 w => gbind (f_B_needUpright g0 p2 p3 w) fun v8 w => (gck w a0 0).bind fun _ => gbind (f_B_cornersMakePolygon g0 a0 w) fun v13 w => if v13 = 0 then ((gp w a0 0 6 (.int 0)).bind fun w => gguard ((0 : Int32) = 0 ∨ (0 : Int32) = 1) (some (.inr 0, w))) else ((gck w v5 4).bind fun _ => gbind (f_By_isFull g0 v5 w) fun v19 w => if v19 = 0 then (gb2f (gnw w 3 [.int 0, .long 0, .long 0, .null, .null, .int 0, .long 0, .long 0, .long 0, .long 0, .long 0, .long 0]) fun o21 w => gbind (f_So_init g0 o21 w) fun v25 w => (gck w o21 3).bind fun _ => gbind (f_So_begin g0 o21 2 0 0 w) fun v30 w => gjoin (fun K98 => f_B_prism_L57 g0 a0 p2 p3 v5 o21 K98 64 0 w) (fun (w : gW) => (gck w o21 3).bind fun _ => gbind (f_So_setHeights g0 o21 p2 (p2 + p3) w) fun v35 w => (gck w a0 0).bind fun _ => gbind (f_B_twiceAreaOfCorners g0 a0 w) fun v40 w => (gck w v5 4).bind fun _ => gbind (f_By_add g0 v5 o21 ((113 * v40) * p3) w) fun v45 w => (gck w a0 0).bind fun _ => gbind (f_B_forgetRelationsOf g0 a0 v5 w) fun v50 w => (gp w a0 0 6 (.int 0)).bind fun w => gguard ((1 : Int32) = 0 ∨ (1 : Int32) = 1) (some (.inr 1, w)))) else (gguard ((0 : Int32) = 0 ∨ (0 : Int32) = 1) (some (.inr 0, w))))
set_option maxHeartbeats 4000000 in
set_option maxRecDepth 100000 in
theorem m_B_prism (l : Launch) (hst : l.stackTraces = false) (D : gD) (g0 : gG) (a0 : Nat) (p1 : Int32) (p2 : Int64) (p3 : Int64) (w : gW) (r : (String ⊕ Int32) × gW) (h : f_B_prism g0 a0 p1 p2 p3 w = some r) : gMet l y_B_prism (.code y_B_prism b_B_prism 9 (some .boolean)) rm_B_prism D g0 [.ref a0, .int p1, .long p2, .long p3] w (goI r) := by
  refine gw_ofZ (by decide +kernel) (Nat.le_of_ble_eq_true rfl) ?_
  intro p e s m below meth c ls args A Q hx hb hml hown hlocks hin hnt hT hK hZ hA hret hexc hthr hI hl
  obtain ⟨H, hH⟩ : ∃ H, H = s.heap := ⟨_, rfl⟩
  rw [← hH] at hI ⊢
  obtain ⟨locs, hlocs⟩ : ∃ z : List Loc, z = [] := ⟨_, rfl⟩
  rw [← hlocs] at hI ⊢
  have hl : lv_has ls 9 [(0, .ref a0), (1, .int p1), (2, .long p2), (4, .long p3)] := hl
  unfold f_B_prism at h
  refine lv_aload_n hx hb d_B_prism_0 rfl (lv_at hl 0 rfl) ?_
  refine lv_iload_n hx hb d_B_prism_1 rfl (lv_at hl 1 rfl) ?_
  obtain ⟨q3, e4, h⟩ := gb h
  obtain ⟨u1, e2⟩ := gsome h
  refine gw_callA e2 h (gw_runV (As := [.int p1]) (rest := []) hx hb hml hown hT hK hZ hA hI (ci := 0) rfl e4 (m_B_bodyAt l hst D g0 a0 p1 w u1 e2) ce_B_bodyAt wd_436 wd_7 ⟨by decide, by decide⟩ rfl rfl hl.1 rfl (lv_room (Nat.le_of_ble_eq_true rfl)) d_B_prism_2 ⟨(show 0 + 1 ≤ 8 by omega), (show 0 + 6 ≤ 116 by omega)⟩) hI hA hexc (show 0 + 1 ≤ 8 by omega) (show 0 + 6 ≤ 116 by omega) (fun v5 w H locs h hI => ?_)
  refine W.widen (k := 1) (n := 6) (show 0 + 1 ≤ 1 by omega) (show 0 + 6 ≤ 6 by omega) ?_
  refine lv_astore (lv' := [(6, .ref v5), (0, .ref a0), (1, .int p1), (2, .long p2), (4, .long p3)]) hx hb d_B_prism_5 hl (by decide) rfl (fun ls hl => ?_)
  refine lv_lload_n hx hb d_B_prism_7 rfl (lv_at hl 3 rfl) ?_
  refine lv_lload hx hb d_B_prism_8 (lv_at hl 4 rfl) ?_
  obtain ⟨u6, e7⟩ := gsome h
  refine gw_callV e7 h (gw_runS (As := [.long p2, .long p3]) (rest := []) hx hb hml hown hT hK hZ hA hI (m_B_needUpright l hst D g0 p2 p3 w u6 e7) ce_B_needUpright wd_538 ⟨by decide, by decide⟩ rfl rfl hl.1 rfl (lv_room (Nat.le_of_ble_eq_true rfl)) d_B_prism_10 ⟨(show 1 + 3 ≤ 8 by omega), (show 6 + 18 ≤ 116 by omega)⟩) hI hA hexc (show 1 + 3 ≤ 8 by omega) (show 6 + 18 ≤ 116 by omega) (fun v8 w H locs h hI => ?_)
  refine W.widen (k := 4) (n := 24) (show 1 + 3 ≤ 4 by omega) (show 6 + 18 ≤ 24 by omega) ?_
  refine lv_aload_n hx hb d_B_prism_13 rfl (lv_at hl 1 rfl) ?_
  obtain ⟨q11, e12, h⟩ := gb h
  obtain ⟨u9, e10⟩ := gsome h
  refine gw_callI e10 h (gw_runV (As := []) (rest := []) hx hb hml hown hT hK hZ hA hI (ci := 0) rfl e12 (m_B_cornersMakePolygon l hst D g0 a0 w u9 e10) ce_B_cornersMakePolygon wd_591 wd_11 ⟨by decide, by decide⟩ rfl rfl hl.1 rfl (lv_room (Nat.le_of_ble_eq_true rfl)) d_B_prism_14 ⟨(show 4 + 0 ≤ 8 by omega), (show 24 + 0 ≤ 116 by omega)⟩) hI hA hexc (show 4 + 0 ≤ 8 by omega) (show 24 + 0 ≤ 116 by omega) (fun v13 w H locs h hI => ?_)
  refine lv_if_ne (tgt := 27) hx hb d_B_prism_17 (by decide) (fun c14 => ?_) (fun c14 => ?_)
  · skip
    have h := gie c14 h
    refine lv_aload hx hb d_B_prism_27 (lv_at hl 0 rfl) ?_
    obtain ⟨q17, e18, h⟩ := gb h
    obtain ⟨u15, e16⟩ := gsome h
    refine gw_callI e16 h (gw_runV (As := []) (rest := []) hx hb hml hown hT hK hZ hA hI (ci := 4) rfl e18 (m_By_isFull l hst D g0 v5 w u15 e16) ce_By_isFull wd_541 wd_543 ⟨by decide, by decide⟩ rfl rfl hl.1 rfl (lv_room (Nat.le_of_ble_eq_true rfl)) d_B_prism_29 ⟨(show 4 + 0 ≤ 8 by omega), (show 24 + 0 ≤ 116 by omega)⟩) hI hA hexc (show 4 + 0 ≤ 8 by omega) (show 24 + 0 ≤ 116 by omega) (fun v19 w H locs h hI => ?_)
    refine lv_if_eq (tgt := 37) hx hb d_B_prism_32 (by decide) (fun c20 => ?_) (fun c20 => ?_)
    · skip
      have h := git c20 h
      obtain ⟨o21, w, e22, h⟩ := gb2 h
      refine gw_new hx hb hT hown hK hI hA (ci := 3) rfl i_3 t_3 t_3_ok wd_546 wd_124 wd_56 (fs := [.int 0, .long 0, .long 0, .null, .null, .int 0, .long 0, .long 0, .long 0, .long 0, .long 0, .long 0]) df_3 e22 (show 4 + 1 ≤ 8 by omega) (show 24 + 12 ≤ 116 by omega) d_B_prism_37 (fun H hI => ?_)
      refine W.widen (k := 5) (n := 36) (show 4 + 1 ≤ 5 by omega) (show 24 + 12 ≤ 36 by omega) ?_
      refine lv_dup hx hb d_B_prism_40 rfl ?_
      obtain ⟨u23, e24⟩ := gsome h
      refine gw_callV e24 h (gw_runIN (As := []) (rest := [.ref o21]) hx hb hml hown hT hK hZ hA hI (m_So_init l hst D g0 o21 w u23 e24) ce_So_init wd_547 rfl ⟨by decide, by decide⟩ rfl rfl hl.1 rfl (lv_room (Nat.le_of_ble_eq_true rfl)) d_B_prism_41 ⟨(show 5 + 2 ≤ 8 by omega), (show 36 + 16 ≤ 116 by omega)⟩) hI hA hexc (show 5 + 2 ≤ 8 by omega) (show 36 + 16 ≤ 116 by omega) (fun v25 w H locs h hI => ?_)
      refine W.widen (k := 7) (n := 52) (show 5 + 2 ≤ 7 by omega) (show 36 + 16 ≤ 52 by omega) ?_
      refine lv_astore (lv' := [(7, .ref o21), (6, .ref v5), (0, .ref a0), (1, .int p1), (2, .long p2), (4, .long p3)]) hx hb d_B_prism_44 hl (by decide) rfl (fun ls hl => ?_)
      refine lv_aload hx hb d_B_prism_46 (lv_at hl 0 rfl) ?_
      refine lv_iconst (v := 2) hx hb d_B_prism_48 (by decide) ?_
      refine lv_lconst (v := 0) hx hb d_B_prism_49 (by decide) ?_
      refine lv_lconst (v := 0) hx hb d_B_prism_50 (by decide) ?_
      obtain ⟨q28, e29, h⟩ := gb h
      obtain ⟨u26, e27⟩ := gsome h
      refine gw_callV e27 h (gw_runV (As := [.int 2, .long 0, .long 0]) (rest := []) hx hb hml hown hT hK hZ hA hI (ci := 3) rfl e29 (m_So_begin l hst D g0 o21 2 0 0 w u26 e27) ce_So_begin wd_548 wd_349 ⟨by decide, by decide⟩ rfl rfl hl.1 rfl (lv_room (Nat.le_of_ble_eq_true rfl)) d_B_prism_51 ⟨(show 7 + 0 ≤ 8 by omega), (show 52 + 0 ≤ 116 by omega)⟩) hI hA hexc (show 7 + 0 ≤ 8 by omega) (show 52 + 0 ≤ 116 by omega) (fun v30 w H locs h hI => ?_)
      refine lv_iconst (v := 0) hx hb d_B_prism_54 (by decide) ?_
      refine lv_istore (lv' := [(8, .int 0), (7, .ref o21), (6, .ref v5), (0, .ref a0), (1, .int p1), (2, .long p2), (4, .long p3)]) hx hb d_B_prism_55 hl (by decide) rfl (fun ls hl => ?_)
      obtain ⟨K98, eK98, h⟩ := gj h
      have hK98 : ∀ (w : gW) (H : Heap) (locs : List Loc) (ls : Array Slot), K98 w = some r → gI D s A w H locs → lv_has ls 9 [(0, .ref a0), (2, .long p2), (4, .long p3), (6, .ref v5), (7, .ref o21)] → W p l e rm_B_prism s m args below meth c H locs 7 52 Q (F0 m 98 ls []) := by
        intro w H locs ls h hI hl
        have h := gk1 eK98 h
        refine lv_aload hx hb d_B_prism_98 (lv_at hl 4 rfl) ?_
        refine lv_lload_n hx hb d_B_prism_100 rfl (lv_at hl 1 rfl) ?_
        refine lv_lload_n hx hb d_B_prism_101 rfl (lv_at hl 1 rfl) ?_
        refine lv_lload hx hb d_B_prism_102 (lv_at hl 2 rfl) ?_
        refine lv_ladd hx hb d_B_prism_104 ?_
        obtain ⟨q33, e34, h⟩ := gb h
        obtain ⟨u31, e32⟩ := gsome h
        refine gw_callV e32 h (gw_runV (As := [.long p2, .long (p2 + p3)]) (rest := []) hx hb hml hown hT hK hZ hA hI (ci := 3) rfl e34 (m_So_setHeights l hst D g0 o21 p2 (p2 + p3) w u31 e32) ce_So_setHeights wd_553 wd_367 ⟨by decide, by decide⟩ rfl rfl hl.1 rfl (lv_room (Nat.le_of_ble_eq_true rfl)) d_B_prism_105 ⟨(show 7 + 0 ≤ 8 by omega), (show 52 + 0 ≤ 116 by omega)⟩) hI hA hexc (show 7 + 0 ≤ 8 by omega) (show 52 + 0 ≤ 116 by omega) (fun v35 w H locs h hI => ?_)
        refine lv_aload hx hb d_B_prism_108 (lv_at hl 3 rfl) ?_
        refine lv_aload hx hb d_B_prism_110 (lv_at hl 4 rfl) ?_
        refine lv_ldc2 (v := 113) hx hb hown (hT _ wd_603 args) d_B_prism_112 ?_
        refine lv_aload_n hx hb d_B_prism_115 rfl (lv_at hl 0 rfl) ?_
        obtain ⟨q38, e39, h⟩ := gb h
        obtain ⟨u36, e37⟩ := gsome h
        refine gw_callJ e37 h (gw_runV (As := []) (rest := [.long 113, .ref o21, .ref v5]) hx hb hml hown hT hK hZ hA hI (ci := 0) rfl e39 (m_B_twiceAreaOfCorners l hst D g0 a0 w u36 e37) ce_B_twiceAreaOfCorners wd_604 wd_14 ⟨by decide, by decide⟩ rfl rfl hl.1 rfl (lv_room (Nat.le_of_ble_eq_true rfl)) d_B_prism_116 ⟨(show 7 + 0 ≤ 8 by omega), (show 52 + 0 ≤ 116 by omega)⟩) hI hA hexc (show 7 + 0 ≤ 8 by omega) (show 52 + 0 ≤ 116 by omega) (fun v40 w H locs h hI => ?_)
        refine lv_lmul hx hb d_B_prism_119 ?_
        refine lv_lload hx hb d_B_prism_120 (lv_at hl 2 rfl) ?_
        refine lv_lmul hx hb d_B_prism_122 ?_
        obtain ⟨q43, e44, h⟩ := gb h
        obtain ⟨u41, e42⟩ := gsome h
        refine gw_callV e42 h (gw_runV (As := [.ref o21, .long ((113 * v40) * p3)]) (rest := []) hx hb hml hown hT hK hZ hA hI (ci := 4) rfl e44 (m_By_add l hst D g0 v5 o21 ((113 * v40) * p3) w u41 e42) ce_By_add wd_555 wd_557 ⟨by decide, by decide⟩ rfl rfl hl.1 rfl (lv_room (Nat.le_of_ble_eq_true rfl)) d_B_prism_123 ⟨(show 7 + 1 ≤ 8 by omega), (show 52 + 64 ≤ 116 by omega)⟩) hI hA hexc (show 7 + 1 ≤ 8 by omega) (show 52 + 64 ≤ 116 by omega) (fun v45 w H locs h hI => ?_)
        refine W.widen (k := 8) (n := 116) (show 7 + 1 ≤ 8 by omega) (show 52 + 64 ≤ 116 by omega) ?_
        refine lv_aload_n hx hb d_B_prism_126 rfl (lv_at hl 0 rfl) ?_
        refine lv_aload hx hb d_B_prism_127 (lv_at hl 3 rfl) ?_
        obtain ⟨q48, e49, h⟩ := gb h
        obtain ⟨u46, e47⟩ := gsome h
        refine gw_callV e47 h (gw_runV (As := [.ref v5]) (rest := []) hx hb hml hown hT hK hZ hA hI (ci := 0) rfl e49 (m_B_forgetRelationsOf l hst D g0 a0 v5 w u46 e47) ce_B_forgetRelationsOf wd_560 wd_9 ⟨by decide, by decide⟩ rfl rfl hl.1 rfl (lv_room (Nat.le_of_ble_eq_true rfl)) d_B_prism_129 ⟨(show 8 + 0 ≤ 8 by omega), (show 116 + 0 ≤ 116 by omega)⟩) hI hA hexc (show 8 + 0 ≤ 8 by omega) (show 116 + 0 ≤ 116 by omega) (fun v50 w H locs h hI => ?_)
        refine lv_aload_n hx hb d_B_prism_132 rfl (lv_at hl 0 rfl) ?_
        refine lv_iconst (v := 0) hx hb d_B_prism_133 (by decide) ?_
        obtain ⟨w, e51, h⟩ := gb h
        refine gw_put hx hb hT hown hK hI (ci := 0) rfl i_0 t_0 t_0_ok n_0 6 (by decide) wd_195 (fun _ h9 => h9) rfl (ty := .int) (by decide +kernel) rfl rfl e51 d_B_prism_134 (fun H locs hI => ?_)
        refine lv_iconst (v := 1) hx hb d_B_prism_137 (by decide) ?_
        obtain ⟨g52, h⟩ := gif h
        exact W.widen (show 8 ≤ 8 by omega) (show 116 ≤ 116 by omega) (hret g52 0 _ (Option.some.inj h).symm _ _ _ _ d_B_prism_138 hI)
      have hL57 : ∀ (n : Nat), ∀ (z53 : Int32) (w : gW) (H : Heap) (locs : List Loc) (ls : Array Slot), f_B_prism_L57 g0 a0 p2 p3 v5 o21 K98 n z53 w = some r → gI D s A w H locs → lv_has ls 9 [(0, .ref a0), (2, .long p2), (4, .long p3), (6, .ref v5), (7, .ref o21), (8, .int z53)] → W p l e rm_B_prism s m args below meth c H locs 7 52 Q (F0 m 57 ls []) := by
        intro n
        induction n with
        | zero => intro z53 w H locs ls h hI hl; exact absurd h (by simp [f_B_prism_L57])
        | succ n ih =>
          intro z53 w H locs ls h hI hl
          rw [f_B_prism_L57] at h
          refine lv_iload hx hb d_B_prism_57 (lv_at hl 5 rfl) ?_
          refine lv_aload_n hx hb d_B_prism_59 rfl (lv_at hl 0 rfl) ?_
          obtain ⟨v54, e55, h⟩ := gb h
          refine gw_getI hx hb hT hown hK hI (ci := 0) rfl i_0 6 (by decide) wd_195 (fun _ h9 => h9) e55 d_B_prism_60 ?_
          refine lv_icmp_ge (tgt := 98) hx hb d_B_prism_63 (by decide) (fun c56 => ?_) (fun c56 => ?_)
          · skip
            have h := git c56 h
            exact hK98 w H locs ls h hI (lv_sub hl [0, 1, 2, 3, 4] rfl)
          · skip
            have h := gie c56 h
            refine lv_iload hx hb d_B_prism_66 (lv_at hl 5 rfl) ?_
            refine lv_bipush (v := 8) hx hb d_B_prism_68 (by decide) ?_
            refine lv_icmp_ge (tgt := 98) hx hb d_B_prism_70 (by decide) (fun c57 => ?_) (fun c57 => ?_)
            · skip
              have h := git c57 h
              exact hK98 w H locs ls h hI (lv_sub hl [0, 1, 2, 3, 4] rfl)
            · skip
              have h := gie c57 h
              refine lv_aload hx hb d_B_prism_73 (lv_at hl 4 rfl) ?_
              refine lv_aload_n hx hb d_B_prism_75 rfl (lv_at hl 0 rfl) ?_
              obtain ⟨v58, e59, h⟩ := gb h
              refine gw_getA hx hb hT hown hK hI (ci := 0) rfl i_0 4 (by decide) wd_193 (fun _ h9 => h9) e59 d_B_prism_76 ?_
              refine lv_iload hx hb d_B_prism_79 (lv_at hl 5 rfl) ?_
              obtain ⟨v60, e61, h⟩ := gb h
              refine gw_aldJ hx hb hK hI e61 d_B_prism_81 ?_
              refine lv_aload_n hx hb d_B_prism_82 rfl (lv_at hl 0 rfl) ?_
              obtain ⟨v62, e63, h⟩ := gb h
              refine gw_getA hx hb hT hown hK hI (ci := 0) rfl i_0 5 (by decide) wd_194 (fun _ h9 => h9) e63 d_B_prism_83 ?_
              refine lv_iload hx hb d_B_prism_86 (lv_at hl 5 rfl) ?_
              obtain ⟨v64, e65, h⟩ := gb h
              refine gw_aldJ hx hb hK hI e65 d_B_prism_88 ?_
              obtain ⟨q68, e69, h⟩ := gb h
              obtain ⟨u66, e67⟩ := gsome h
              refine gw_callV e67 h (gw_runV (As := [.long v60, .long v64]) (rest := []) hx hb hml hown hT hK hZ hA hI (ci := 3) rfl e69 (m_So_addCorner l hst D g0 o21 v60 v64 w u66 e67) ce_So_addCorner wd_575 wd_361 ⟨by decide, by decide⟩ rfl rfl hl.1 rfl (lv_room (Nat.le_of_ble_eq_true rfl)) d_B_prism_89 ⟨(show 7 + 0 ≤ 8 by omega), (show 52 + 0 ≤ 116 by omega)⟩) hI hA hexc (show 7 + 0 ≤ 8 by omega) (show 52 + 0 ≤ 116 by omega) (fun v70 w H locs h hI => ?_)
              refine lv_iinc (v := z53 + 1) (lv' := [(8, .int (z53 + 1)), (0, .ref a0), (2, .long p2), (4, .long p3), (6, .ref v5), (7, .ref o21)]) hx hb d_B_prism_92 hl (k := 5) rfl rfl (by decide) rfl (fun ls hl => ?_)
              refine lv_goto (tgt := 57) hx hb d_B_prism_95 (by decide) ?_
              exact ih _ w H locs ls h hI (lv_sub hl [1, 2, 3, 4, 5, 0] rfl)
      exact hL57 64 _ w H locs ls h hI (lv_sub hl [3, 5, 6, 2, 1, 0] rfl)
    · skip
      have h := gie c20 h
      refine lv_iconst (v := 0) hx hb d_B_prism_35 (by decide) ?_
      obtain ⟨g71, h⟩ := gif h
      exact W.widen (show 4 ≤ 8 by omega) (show 24 ≤ 116 by omega) (hret g71 0 _ (Option.some.inj h).symm _ _ _ _ d_B_prism_36 hI)
  · skip
    have h := git c14 h
    refine lv_aload_n hx hb d_B_prism_20 rfl (lv_at hl 1 rfl) ?_
    refine lv_iconst (v := 0) hx hb d_B_prism_21 (by decide) ?_
    obtain ⟨w, e72, h⟩ := gb h
    refine gw_put hx hb hT hown hK hI (ci := 0) rfl i_0 t_0 t_0_ok n_0 6 (by decide) wd_195 (fun _ h9 => h9) rfl (ty := .int) (by decide +kernel) rfl rfl e72 d_B_prism_22 (fun H locs hI => ?_)
    refine lv_iconst (v := 0) hx hb d_B_prism_25 (by decide) ?_
    obtain ⟨g73, h⟩ := gif h
    exact W.widen (show 4 ≤ 8 by omega) (show 24 ≤ 116 by omega) (hret g73 0 _ (Option.some.inj h).symm _ _ _ _ d_B_prism_26 hI)
