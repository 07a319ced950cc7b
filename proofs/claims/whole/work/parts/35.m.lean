abbrev b_M_place : ByteArray := prog_9_method_24_code
def y_M_place : MethodName := ⟨"BodySolidsModel", "place", "(IJJII)I"⟩
theorem d_M_place_0 : decode b_M_place 0 = .ok (.aload_n 0, 1) := by decide +kernel
theorem d_M_place_1 : decode b_M_place 1 = .ok (.aload_n 0, 1) := by decide +kernel
theorem d_M_place_2 : decode b_M_place 2 = .ok (.iload_n 1, 1) := by decide +kernel
theorem d_M_place_3 : decode b_M_place 3 = .ok (.invokevirtual 109, 3) := by decide +kernel
theorem d_M_place_6 : decode b_M_place 6 = .ok (.ifCond .ne 7, 3) := by decide +kernel
theorem d_M_place_9 : decode b_M_place 9 = .ok (.iconst 1, 1) := by decide +kernel
theorem d_M_place_10 : decode b_M_place 10 = .ok (.goto 21, 3) := by decide +kernel
theorem d_M_place_13 : decode b_M_place 13 = .ok (.lload_n 2, 1) := by decide +kernel
theorem d_M_place_14 : decode b_M_place 14 = .ok (.lload 4, 2) := by decide +kernel
theorem d_M_place_16 : decode b_M_place 16 = .ok (.iload 6, 2) := by decide +kernel
theorem d_M_place_18 : decode b_M_place 18 = .ok (.iload 7, 2) := by decide +kernel
theorem d_M_place_20 : decode b_M_place 20 = .ok (.invokestatic 142, 3) := by decide +kernel
theorem d_M_place_23 : decode b_M_place 23 = .ok (.ifCond .eq 7, 3) := by decide +kernel
theorem d_M_place_26 : decode b_M_place 26 = .ok (.iconst 0, 1) := by decide +kernel
theorem d_M_place_27 : decode b_M_place 27 = .ok (.goto 4, 3) := by decide +kernel
theorem d_M_place_30 : decode b_M_place 30 = .ok (.iconst 2, 1) := by decide +kernel
theorem d_M_place_31 : decode b_M_place 31 = .ok (.putfield 80, 3) := by decide +kernel
theorem d_M_place_34 : decode b_M_place 34 = .ok (.aload_n 0, 1) := by decide +kernel
theorem d_M_place_35 : decode b_M_place 35 = .ok (.getfield 80, 3) := by decide +kernel
theorem d_M_place_38 : decode b_M_place 38 = .ok (.ifCond .eq 5, 3) := by decide +kernel
theorem d_M_place_41 : decode b_M_place 41 = .ok (.iconst 0, 1) := by decide +kernel
theorem d_M_place_42 : decode b_M_place 42 = .ok (.ireturn, 1) := by decide +kernel
theorem d_M_place_43 : decode b_M_place 43 = .ok (.aload_n 0, 1) := by decide +kernel
theorem d_M_place_44 : decode b_M_place 44 = .ok (.getfield 95, 3) := by decide +kernel
theorem d_M_place_47 : decode b_M_place 47 = .ok (.bipush 30, 2) := by decide +kernel
theorem d_M_place_49 : decode b_M_place 49 = .ok (.if_icmp .ne 5, 3) := by decide +kernel
theorem d_M_place_52 : decode b_M_place 52 = .ok (.iconst (-1), 1) := by decide +kernel
theorem d_M_place_53 : decode b_M_place 53 = .ok (.ireturn, 1) := by decide +kernel
theorem d_M_place_54 : decode b_M_place 54 = .ok (.aload_n 0, 1) := by decide +kernel
theorem d_M_place_55 : decode b_M_place 55 = .ok (.getfield 35, 3) := by decide +kernel
theorem d_M_place_58 : decode b_M_place 58 = .ok (.aload_n 0, 1) := by decide +kernel
theorem d_M_place_59 : decode b_M_place 59 = .ok (.getfield 95, 3) := by decide +kernel
theorem d_M_place_62 : decode b_M_place 62 = .ok (.iload_n 1, 1) := by decide +kernel
theorem d_M_place_63 : decode b_M_place 63 = .ok (.iastore, 1) := by decide +kernel
theorem d_M_place_64 : decode b_M_place 64 = .ok (.aload_n 0, 1) := by decide +kernel
theorem d_M_place_65 : decode b_M_place 65 = .ok (.aload_n 0, 1) := by decide +kernel
theorem d_M_place_66 : decode b_M_place 66 = .ok (.getfield 95, 3) := by decide +kernel
theorem d_M_place_69 : decode b_M_place 69 = .ok (.lload_n 2, 1) := by decide +kernel
theorem d_M_place_70 : decode b_M_place 70 = .ok (.lload 4, 2) := by decide +kernel
theorem d_M_place_72 : decode b_M_place 72 = .ok (.iload 6, 2) := by decide +kernel
theorem d_M_place_74 : decode b_M_place 74 = .ok (.iload 7, 2) := by decide +kernel
theorem d_M_place_76 : decode b_M_place 76 = .ok (.invokevirtual 146, 3) := by decide +kernel
theorem d_M_place_79 : decode b_M_place 79 = .ok (.aload_n 0, 1) := by decide +kernel
theorem d_M_place_80 : decode b_M_place 80 = .ok (.dup, 1) := by decide +kernel
theorem d_M_place_81 : decode b_M_place 81 = .ok (.getfield 95, 3) := by decide +kernel
theorem d_M_place_84 : decode b_M_place 84 = .ok (.iconst 1, 1) := by decide +kernel
theorem d_M_place_85 : decode b_M_place 85 = .ok (.iadd, 1) := by decide +kernel
theorem d_M_place_86 : decode b_M_place 86 = .ok (.putfield 95, 3) := by decide +kernel
theorem d_M_place_89 : decode b_M_place 89 = .ok (.aload_n 0, 1) := by decide +kernel
theorem d_M_place_90 : decode b_M_place 90 = .ok (.getfield 95, 3) := by decide +kernel
theorem d_M_place_93 : decode b_M_place 93 = .ok (.iconst 1, 1) := by decide +kernel
theorem d_M_place_94 : decode b_M_place 94 = .ok (.isub, 1) := by decide +kernel
theorem d_M_place_95 : decode b_M_place 95 = .ok (.ireturn, 1) := by decide +kernel
abbrev rm_M_place : Room := { frames := 2, cells := 0, slots := 0, locals := 50 }
theorem ce_M_place : gCe y_M_place (.code y_M_place b_M_place 8 (some .int)) 8 5 false := gCe.code wd_943 wd_57 wd_941 (by decide) (by decide +kernel)
def f_M_place (g0 : gG) (a0 : Nat) (p1 : Int32) (p2 : Int64) (p3 : Int64) (p4 : Int32) (p5 : Int32) (w : gW) : gX Int32 := (gck w a0 7).bind fun _ => gbind (f_M_isBody g0 a0 p1 w) fun v5 w => gjoin (fun K31 => if v5 = 0 then (K31 1 w) else (gbind (f_M_isSpot g0 p2 p3 p4 p5 w) fun v34 w => if v34 = 0 then (K31 2 w) else (K31 0 w))) (fun (y6 : Int32) (w : gW) => (gp w a0 7 0 (.int y6)).bind fun w => (gfI w a0 7 0).bind fun v8 => if v8 = 0 then ((gfI w a0 7 12).bind fun v11 => if v11 = 30 then (some (.inr (-1), w)) else ((gfA w a0 7 13).bind fun v14 => (gfI w a0 7 12).bind fun v16 => (gsI w v14 v16 p1).bind fun w => (gfI w a0 7 12).bind fun v19 => (gck w a0 7).bind fun _ => gbind (f_M_set g0 a0 v19 p2 p3 p4 p5 w) fun v25 w => (gfI w a0 7 12).bind fun v26 => (gp w a0 7 12 (.int (v26 + 1))).bind fun w => (gfI w a0 7 12).bind fun v29 => some (.inr (v29 - 1), w))) else (some (.inr 0, w)))
set_option maxHeartbeats 4000000 in
set_option maxRecDepth 100000 in
theorem m_M_place (l : Launch) (hst : l.stackTraces = false) (D : gD) (g0 : gG) (a0 : Nat) (p1 : Int32) (p2 : Int64) (p3 : Int64) (p4 : Int32) (p5 : Int32) (w : gW) (r : (String ⊕ Int32) × gW) (h : f_M_place g0 a0 p1 p2 p3 p4 p5 w = some r) : gMet l y_M_place (.code y_M_place b_M_place 8 (some .int)) rm_M_place D g0 [.ref a0, .int p1, .long p2, .long p3, .int p4, .int p5] w (goI r) := by
  refine gw_ofI (by decide +kernel) (Nat.le_of_ble_eq_true rfl) ?_
  intro p e s m below meth c ls args A Q hx hb hml hown hlocks hin hnt hT hK hZ hA hret hexc hthr hI hl
  obtain ⟨H, hH⟩ : ∃ H, H = s.heap := ⟨_, rfl⟩
  rw [← hH] at hI ⊢
  obtain ⟨locs, hlocs⟩ : ∃ z : List Loc, z = [] := ⟨_, rfl⟩
  rw [← hlocs] at hI ⊢
  have hl : lv_has ls 8 [(0, .ref a0), (1, .int p1), (2, .long p2), (4, .long p3), (6, .int p4), (7, .int p5)] := hl
  unfold f_M_place at h
  refine lv_aload_n hx hb d_M_place_0 rfl (lv_at hl 0 rfl) ?_
  refine lv_aload_n hx hb d_M_place_1 rfl (lv_at hl 0 rfl) ?_
  refine lv_iload_n hx hb d_M_place_2 rfl (lv_at hl 1 rfl) ?_
  obtain ⟨q3, e4, h⟩ := gb h
  obtain ⟨u1, e2⟩ := gsome h
  refine gw_callI e2 h (gw_runV (As := [.int p1]) (rest := [.ref a0]) hx hb hml hown hT hK hZ hA hI (ci := 7) rfl e4 (m_M_isBody l hst D g0 a0 p1 w u1 e2) ce_M_isBody wd_894 wd_17 ⟨by decide, by decide⟩ rfl rfl hl.1 rfl (lv_room (Nat.le_of_ble_eq_true rfl)) d_M_place_3 ⟨(show 0 + 0 ≤ 0 by omega), (show 0 + 0 ≤ 0 by omega)⟩) hI hA hexc (show 0 + 0 ≤ 0 by omega) (show 0 + 0 ≤ 0 by omega) (fun v5 w H locs h hI => ?_)
  obtain ⟨K31, eK31, h⟩ := gj h
  have hK31 : ∀ (y6 : Int32) (w : gW) (H : Heap) (locs : List Loc) (ls : Array Slot), K31 y6 w = some r → gI D s A w H locs → lv_has ls 8 [(0, .ref a0), (1, .int p1), (2, .long p2), (4, .long p3), (6, .int p4), (7, .int p5)] → W p l e rm_M_place s m args below meth c H locs 0 0 Q (F0 m 31 ls [.int y6, .ref a0]) := by
    intro y6 w H locs ls h hI hl
    have h := gk2 eK31 h
    obtain ⟨w, e7, h⟩ := gb h
    refine gw_put hx hb hT hown hK hI (ci := 7) rfl i_7 t_7 t_7_ok n_7 0 (by decide) wd_786 (fun _ h9 => h9) rfl (ty := .int) (by decide +kernel) rfl rfl e7 d_M_place_31 (fun H locs hI => ?_)
    refine lv_aload_n hx hb d_M_place_34 rfl (lv_at hl 0 rfl) ?_
    obtain ⟨v8, e9, h⟩ := gb h
    refine gw_getI hx hb hT hown hK hI (ci := 7) rfl i_7 0 (by decide) wd_786 (fun _ h9 => h9) e9 d_M_place_35 ?_
    refine lv_if_eq (tgt := 43) hx hb d_M_place_38 (by decide) (fun c10 => ?_) (fun c10 => ?_)
    · skip
      have h := git c10 h
      refine lv_aload_n hx hb d_M_place_43 rfl (lv_at hl 0 rfl) ?_
      obtain ⟨v11, e12, h⟩ := gb h
      refine gw_getI hx hb hT hown hK hI (ci := 7) rfl i_7 12 (by decide) wd_798 (fun _ h9 => h9) e12 d_M_place_44 ?_
      refine lv_bipush (v := 30) hx hb d_M_place_47 (by decide) ?_
      refine lv_icmp_ne (tgt := 54) hx hb d_M_place_49 (by decide) (fun c13 => ?_) (fun c13 => ?_)
      · skip
        have h := gie c13 h
        refine lv_aload_n hx hb d_M_place_54 rfl (lv_at hl 0 rfl) ?_
        obtain ⟨v14, e15, h⟩ := gb h
        refine gw_getA hx hb hT hown hK hI (ci := 7) rfl i_7 13 (by decide) wd_799 (fun _ h9 => h9) e15 d_M_place_55 ?_
        refine lv_aload_n hx hb d_M_place_58 rfl (lv_at hl 0 rfl) ?_
        obtain ⟨v16, e17, h⟩ := gb h
        refine gw_getI hx hb hT hown hK hI (ci := 7) rfl i_7 12 (by decide) wd_798 (fun _ h9 => h9) e17 d_M_place_59 ?_
        refine lv_iload_n hx hb d_M_place_62 rfl (lv_at hl 1 rfl) ?_
        obtain ⟨w, e18, h⟩ := gb h
        refine gw_astI hx hb hK hI e18 d_M_place_63 (fun H locs hI => ?_)
        refine lv_aload_n hx hb d_M_place_64 rfl (lv_at hl 0 rfl) ?_
        refine lv_aload_n hx hb d_M_place_65 rfl (lv_at hl 0 rfl) ?_
        obtain ⟨v19, e20, h⟩ := gb h
        refine gw_getI hx hb hT hown hK hI (ci := 7) rfl i_7 12 (by decide) wd_798 (fun _ h9 => h9) e20 d_M_place_66 ?_
        refine lv_lload_n hx hb d_M_place_69 rfl (lv_at hl 2 rfl) ?_
        refine lv_lload hx hb d_M_place_70 (lv_at hl 3 rfl) ?_
        refine lv_iload hx hb d_M_place_72 (lv_at hl 4 rfl) ?_
        refine lv_iload hx hb d_M_place_74 (lv_at hl 5 rfl) ?_
        obtain ⟨q23, e24, h⟩ := gb h
        obtain ⟨u21, e22⟩ := gsome h
        refine gw_callV e22 h (gw_runV (As := [.int v19, .long p2, .long p3, .int p4, .int p5]) (rest := []) hx hb hml hown hT hK hZ hA hI (ci := 7) rfl e24 (m_M_set l hst D g0 a0 v19 p2 p3 p4 p5 w u21 e22) ce_M_set wd_947 wd_22 ⟨by decide, by decide⟩ rfl rfl hl.1 rfl (lv_room (Nat.le_of_ble_eq_true rfl)) d_M_place_76 ⟨(show 0 + 0 ≤ 0 by omega), (show 0 + 0 ≤ 0 by omega)⟩) hI hA hexc (show 0 + 0 ≤ 0 by omega) (show 0 + 0 ≤ 0 by omega) (fun v25 w H locs h hI => ?_)
        refine lv_aload_n hx hb d_M_place_79 rfl (lv_at hl 0 rfl) ?_
        refine lv_dup hx hb d_M_place_80 rfl ?_
        obtain ⟨v26, e27, h⟩ := gb h
        refine gw_getI hx hb hT hown hK hI (ci := 7) rfl i_7 12 (by decide) wd_798 (fun _ h9 => h9) e27 d_M_place_81 ?_
        refine lv_iconst (v := 1) hx hb d_M_place_84 (by decide) ?_
        refine lv_iadd hx hb d_M_place_85 ?_
        obtain ⟨w, e28, h⟩ := gb h
        refine gw_put hx hb hT hown hK hI (ci := 7) rfl i_7 t_7 t_7_ok n_7 12 (by decide) wd_798 (fun _ h9 => h9) rfl (ty := .int) (by decide +kernel) rfl rfl e28 d_M_place_86 (fun H locs hI => ?_)
        refine lv_aload_n hx hb d_M_place_89 rfl (lv_at hl 0 rfl) ?_
        obtain ⟨v29, e30, h⟩ := gb h
        refine gw_getI hx hb hT hown hK hI (ci := 7) rfl i_7 12 (by decide) wd_798 (fun _ h9 => h9) e30 d_M_place_90 ?_
        refine lv_iconst (v := 1) hx hb d_M_place_93 (by decide) ?_
        refine lv_isub hx hb d_M_place_94 ?_
        exact W.widen (show 0 ≤ 0 by omega) (show 0 ≤ 0 by omega) (hret _ _ (Option.some.inj h).symm _ _ _ _ d_M_place_95 hI)
      · skip
        have h := git c13 h
        refine lv_iconst (v := -1) hx hb d_M_place_52 (by decide) ?_
        exact W.widen (show 0 ≤ 0 by omega) (show 0 ≤ 0 by omega) (hret _ _ (Option.some.inj h).symm _ _ _ _ d_M_place_53 hI)
    · skip
      have h := gie c10 h
      refine lv_iconst (v := 0) hx hb d_M_place_41 (by decide) ?_
      exact W.widen (show 0 ≤ 0 by omega) (show 0 ≤ 0 by omega) (hret _ _ (Option.some.inj h).symm _ _ _ _ d_M_place_42 hI)
  refine lv_if_ne (tgt := 13) hx hb d_M_place_6 (by decide) (fun c31 => ?_) (fun c31 => ?_)
  · skip
    have h := gie c31 h
    refine lv_lload_n hx hb d_M_place_13 rfl (lv_at hl 2 rfl) ?_
    refine lv_lload hx hb d_M_place_14 (lv_at hl 3 rfl) ?_
    refine lv_iload hx hb d_M_place_16 (lv_at hl 4 rfl) ?_
    refine lv_iload hx hb d_M_place_18 (lv_at hl 5 rfl) ?_
    obtain ⟨u32, e33⟩ := gsome h
    refine gw_callI e33 h (gw_runS (As := [.long p2, .long p3, .int p4, .int p5]) (rest := [.ref a0]) hx hb hml hown hT hK hZ hA hI (m_M_isSpot l hst D g0 p2 p3 p4 p5 w u32 e33) ce_M_isSpot wd_944 ⟨by decide, by decide⟩ rfl rfl hl.1 rfl (lv_room (Nat.le_of_ble_eq_true rfl)) d_M_place_20 ⟨(show 0 + 0 ≤ 0 by omega), (show 0 + 0 ≤ 0 by omega)⟩) hI hA hexc (show 0 + 0 ≤ 0 by omega) (show 0 + 0 ≤ 0 by omega) (fun v34 w H locs h hI => ?_)
    refine lv_if_eq (tgt := 30) hx hb d_M_place_23 (by decide) (fun c35 => ?_) (fun c35 => ?_)
    · skip
      have h := git c35 h
      refine lv_iconst (v := 2) hx hb d_M_place_30 (by decide) ?_
      exact hK31 _ w H locs ls h hI (lv_sub hl [0, 1, 2, 3, 4, 5] rfl)
    · skip
      have h := gie c35 h
      refine lv_iconst (v := 0) hx hb d_M_place_26 (by decide) ?_
      refine lv_goto (tgt := 31) hx hb d_M_place_27 (by decide) ?_
      exact hK31 _ w H locs ls h hI (lv_sub hl [0, 1, 2, 3, 4, 5] rfl)
  · skip
    have h := git c31 h
    refine lv_iconst (v := 1) hx hb d_M_place_9 (by decide) ?_
    refine lv_goto (tgt := 31) hx hb d_M_place_10 (by decide) ?_
    exact hK31 _ w H locs ls h hI (lv_sub hl [0, 1, 2, 3, 4, 5] rfl)

abbrev b_M_prism : ByteArray := prog_9_method_18_code
def y_M_prism : MethodName := ⟨"BodySolidsModel", "prism", "(IJJ)Z"⟩
theorem d_M_prism_0 : decode b_M_prism 0 = .ok (.aload_n 0, 1) := by decide +kernel
theorem d_M_prism_1 : decode b_M_prism 1 = .ok (.aload_n 0, 1) := by decide +kernel
theorem d_M_prism_2 : decode b_M_prism 2 = .ok (.iload_n 1, 1) := by decide +kernel
theorem d_M_prism_3 : decode b_M_prism 3 = .ok (.invokevirtual 109, 3) := by decide +kernel
theorem d_M_prism_6 : decode b_M_prism 6 = .ok (.ifCond .ne 7, 3) := by decide +kernel
theorem d_M_prism_9 : decode b_M_prism 9 = .ok (.iconst 1, 1) := by decide +kernel
theorem d_M_prism_10 : decode b_M_prism 10 = .ok (.goto 17, 3) := by decide +kernel
theorem d_M_prism_13 : decode b_M_prism 13 = .ok (.lload_n 2, 1) := by decide +kernel
theorem d_M_prism_14 : decode b_M_prism 14 = .ok (.lload 4, 2) := by decide +kernel
theorem d_M_prism_16 : decode b_M_prism 16 = .ok (.invokestatic 106, 3) := by decide +kernel
theorem d_M_prism_19 : decode b_M_prism 19 = .ok (.ifCond .eq 7, 3) := by decide +kernel
theorem d_M_prism_22 : decode b_M_prism 22 = .ok (.iconst 0, 1) := by decide +kernel
theorem d_M_prism_23 : decode b_M_prism 23 = .ok (.goto 4, 3) := by decide +kernel
theorem d_M_prism_26 : decode b_M_prism 26 = .ok (.iconst 2, 1) := by decide +kernel
theorem d_M_prism_27 : decode b_M_prism 27 = .ok (.putfield 80, 3) := by decide +kernel
theorem d_M_prism_30 : decode b_M_prism 30 = .ok (.aload_n 0, 1) := by decide +kernel
theorem d_M_prism_31 : decode b_M_prism 31 = .ok (.getfield 80, 3) := by decide +kernel
theorem d_M_prism_34 : decode b_M_prism 34 = .ok (.ifCond .ne 14, 3) := by decide +kernel
theorem d_M_prism_37 : decode b_M_prism 37 = .ok (.aload_n 0, 1) := by decide +kernel
theorem d_M_prism_38 : decode b_M_prism 38 = .ok (.getfield 7, 3) := by decide +kernel
theorem d_M_prism_41 : decode b_M_prism 41 = .ok (.iload_n 1, 1) := by decide +kernel
theorem d_M_prism_42 : decode b_M_prism 42 = .ok (.iaload, 1) := by decide +kernel
theorem d_M_prism_43 : decode b_M_prism 43 = .ok (.bipush 12, 2) := by decide +kernel
theorem d_M_prism_45 : decode b_M_prism 45 = .ok (.if_icmp .ne 5, 3) := by decide +kernel
theorem d_M_prism_48 : decode b_M_prism 48 = .ok (.iconst 0, 1) := by decide +kernel
theorem d_M_prism_49 : decode b_M_prism 49 = .ok (.ireturn, 1) := by decide +kernel
theorem d_M_prism_50 : decode b_M_prism 50 = .ok (.aload_n 0, 1) := by decide +kernel
theorem d_M_prism_51 : decode b_M_prism 51 = .ok (.invokevirtual 128, 3) := by decide +kernel
theorem d_M_prism_54 : decode b_M_prism 54 = .ok (.istore 6, 2) := by decide +kernel
theorem d_M_prism_56 : decode b_M_prism 56 = .ok (.aload_n 0, 1) := by decide +kernel
theorem d_M_prism_57 : decode b_M_prism 57 = .ok (.getfield 121, 3) := by decide +kernel
theorem d_M_prism_60 : decode b_M_prism 60 = .ok (.istore 7, 2) := by decide +kernel
theorem d_M_prism_62 : decode b_M_prism 62 = .ok (.aload_n 0, 1) := by decide +kernel
theorem d_M_prism_63 : decode b_M_prism 63 = .ok (.iconst 0, 1) := by decide +kernel
theorem d_M_prism_64 : decode b_M_prism 64 = .ok (.putfield 121, 3) := by decide +kernel
theorem d_M_prism_67 : decode b_M_prism 67 = .ok (.iload 6, 2) := by decide +kernel
theorem d_M_prism_69 : decode b_M_prism 69 = .ok (.ifCond .ne 5, 3) := by decide +kernel
theorem d_M_prism_72 : decode b_M_prism 72 = .ok (.iconst 0, 1) := by decide +kernel
theorem d_M_prism_73 : decode b_M_prism 73 = .ok (.ireturn, 1) := by decide +kernel
theorem d_M_prism_74 : decode b_M_prism 74 = .ok (.aload_n 0, 1) := by decide +kernel
theorem d_M_prism_75 : decode b_M_prism 75 = .ok (.iload_n 1, 1) := by decide +kernel
theorem d_M_prism_76 : decode b_M_prism 76 = .ok (.iconst 2, 1) := by decide +kernel
theorem d_M_prism_77 : decode b_M_prism 77 = .ok (.invokevirtual 113, 3) := by decide +kernel
theorem d_M_prism_80 : decode b_M_prism 80 = .ok (.istore 8, 2) := by decide +kernel
theorem d_M_prism_82 : decode b_M_prism 82 = .ok (.aload_n 0, 1) := by decide +kernel
theorem d_M_prism_83 : decode b_M_prism 83 = .ok (.iload 8, 2) := by decide +kernel
theorem d_M_prism_85 : decode b_M_prism 85 = .ok (.iconst 2, 1) := by decide +kernel
theorem d_M_prism_86 : decode b_M_prism 86 = .ok (.lload_n 2, 1) := by decide +kernel
theorem d_M_prism_87 : decode b_M_prism 87 = .ok (.invokevirtual 117, 3) := by decide +kernel
theorem d_M_prism_90 : decode b_M_prism 90 = .ok (.aload_n 0, 1) := by decide +kernel
theorem d_M_prism_91 : decode b_M_prism 91 = .ok (.iload 8, 2) := by decide +kernel
theorem d_M_prism_93 : decode b_M_prism 93 = .ok (.iconst 5, 1) := by decide +kernel
theorem d_M_prism_94 : decode b_M_prism 94 = .ok (.lload 4, 2) := by decide +kernel
theorem d_M_prism_96 : decode b_M_prism 96 = .ok (.invokevirtual 117, 3) := by decide +kernel
theorem d_M_prism_99 : decode b_M_prism 99 = .ok (.aload_n 0, 1) := by decide +kernel
theorem d_M_prism_100 : decode b_M_prism 100 = .ok (.getfield 20, 3) := by decide +kernel
theorem d_M_prism_103 : decode b_M_prism 103 = .ok (.iload 8, 2) := by decide +kernel
theorem d_M_prism_105 : decode b_M_prism 105 = .ok (.iload 7, 2) := by decide +kernel
theorem d_M_prism_107 : decode b_M_prism 107 = .ok (.iastore, 1) := by decide +kernel
theorem d_M_prism_108 : decode b_M_prism 108 = .ok (.iconst 0, 1) := by decide +kernel
theorem d_M_prism_109 : decode b_M_prism 109 = .ok (.istore 9, 2) := by decide +kernel
theorem d_M_prism_111 : decode b_M_prism 111 = .ok (.iload 9, 2) := by decide +kernel
theorem d_M_prism_113 : decode b_M_prism 113 = .ok (.iload 7, 2) := by decide +kernel
theorem d_M_prism_115 : decode b_M_prism 115 = .ok (.if_icmp .ge 49, 3) := by decide +kernel
theorem d_M_prism_118 : decode b_M_prism 118 = .ok (.aload_n 0, 1) := by decide +kernel
theorem d_M_prism_119 : decode b_M_prism 119 = .ok (.getfield 23, 3) := by decide +kernel
theorem d_M_prism_122 : decode b_M_prism 122 = .ok (.bipush 8, 2) := by decide +kernel
theorem d_M_prism_124 : decode b_M_prism 124 = .ok (.iload 8, 2) := by decide +kernel
theorem d_M_prism_126 : decode b_M_prism 126 = .ok (.imul, 1) := by decide +kernel
theorem d_M_prism_127 : decode b_M_prism 127 = .ok (.iload 9, 2) := by decide +kernel
theorem d_M_prism_129 : decode b_M_prism 129 = .ok (.iadd, 1) := by decide +kernel
theorem d_M_prism_130 : decode b_M_prism 130 = .ok (.aload_n 0, 1) := by decide +kernel
theorem d_M_prism_131 : decode b_M_prism 131 = .ok (.getfield 29, 3) := by decide +kernel
theorem d_M_prism_134 : decode b_M_prism 134 = .ok (.iload 9, 2) := by decide +kernel
theorem d_M_prism_136 : decode b_M_prism 136 = .ok (.laload, 1) := by decide +kernel
theorem d_M_prism_137 : decode b_M_prism 137 = .ok (.lastore, 1) := by decide +kernel
theorem d_M_prism_138 : decode b_M_prism 138 = .ok (.aload_n 0, 1) := by decide +kernel
theorem d_M_prism_139 : decode b_M_prism 139 = .ok (.getfield 26, 3) := by decide +kernel
theorem d_M_prism_142 : decode b_M_prism 142 = .ok (.bipush 8, 2) := by decide +kernel
theorem d_M_prism_144 : decode b_M_prism 144 = .ok (.iload 8, 2) := by decide +kernel
theorem d_M_prism_146 : decode b_M_prism 146 = .ok (.imul, 1) := by decide +kernel
theorem d_M_prism_147 : decode b_M_prism 147 = .ok (.iload 9, 2) := by decide +kernel
theorem d_M_prism_149 : decode b_M_prism 149 = .ok (.iadd, 1) := by decide +kernel
theorem d_M_prism_150 : decode b_M_prism 150 = .ok (.aload_n 0, 1) := by decide +kernel
theorem d_M_prism_151 : decode b_M_prism 151 = .ok (.getfield 32, 3) := by decide +kernel
theorem d_M_prism_154 : decode b_M_prism 154 = .ok (.iload 9, 2) := by decide +kernel
theorem d_M_prism_156 : decode b_M_prism 156 = .ok (.laload, 1) := by decide +kernel
theorem d_M_prism_157 : decode b_M_prism 157 = .ok (.lastore, 1) := by decide +kernel
theorem d_M_prism_158 : decode b_M_prism 158 = .ok (.iinc 9 1, 3) := by decide +kernel
theorem d_M_prism_161 : decode b_M_prism 161 = .ok (.goto (-50), 3) := by decide +kernel
theorem d_M_prism_164 : decode b_M_prism 164 = .ok (.iconst 1, 1) := by decide +kernel
theorem d_M_prism_165 : decode b_M_prism 165 = .ok (.ireturn, 1) := by decide +kernel
abbrev rm_M_prism : Room := { frames := 3, cells := 0, slots := 0, locals := 69 }
theorem ce_M_prism : gCe y_M_prism (.code y_M_prism b_M_prism 10 (some .boolean)) 10 3 false := gCe.code wd_917 wd_57 wd_915 (by decide) (by decide +kernel)
def f_M_prism_L111 (g0 : gG) (c0 : Nat) (c7 : Int32) (c8 : Int32) (K164 : gW → gX Int32) : Nat → Int32 → gW → gX Int32
  | 0, _, _ => none
  | n + 1, z9, w => if c7 ≤ z9 then (K164 w) else ((gfA w c0 7 7).bind fun v46 => (gfA w c0 7 10).bind fun v48 => (gaJ w v48 z9).bind fun v50 => (gsJ w v46 ((8 * c8) + z9) v50).bind fun w => (gfA w c0 7 8).bind fun v53 => (gfA w c0 7 11).bind fun v55 => (gaJ w v55 z9).bind fun v57 => (gsJ w v53 ((8 * c8) + z9) v57).bind fun w => f_M_prism_L111 g0 c0 c7 c8 K164 n (z9 + 1) w)
def f_M_prism (g0 : gG) (a0 : Nat) (p1 : Int32) (p2 : Int64) (p3 : Int64) (w : gW) : gX Int32 := (gck w a0 7).bind fun _ => gbind (f_M_isBody g0 a0 p1 w) fun v5 w => gjoin (fun K27 => if v5 = 0 then (K27 1 w) else (gbind (f_M_isUpright g0 p2 p3 w) fun v65 w => if v65 = 0 then (K27 2 w) else (K27 0 w))) (fun (y6 : Int32) (w : gW) => (gp w a0 7 0 (.int y6)).bind fun w => (gfI w a0 7 0).bind fun v8 => gjoin (fun K48 => if v8 = 0 then ((gfA w a0 7 3).bind fun v12 => (gaI w v12 p1).bind fun v14 => if v14 = 12 then (K48 w) else ((gck w a0 7).bind fun _ => gbind (f_M_isRound g0 a0 w) fun v21 w => (gfI w a0 7 9).bind fun v22 => (gp w a0 7 9 (.int 0)).bind fun w => if v21 = 0 then (gguard ((0 : Int32) = 0 ∨ (0 : Int32) = 1) (some (.inr 0, w))) else ((gck w a0 7).bind fun _ => gbind (f_M_fresh g0 a0 p1 2 w) fun v30 w => (gck w a0 7).bind fun _ => gbind (f_M_tell g0 a0 v30 2 p2 w) fun v35 w => (gck w a0 7).bind fun _ => gbind (f_M_tell g0 a0 v30 5 p3 w) fun v40 w => (gfA w a0 7 6).bind fun v41 => (gsI w v41 v30 v22).bind fun w => gjoin (fun K164 => f_M_prism_L111 g0 a0 v22 v30 K164 64 0 w) (fun (w : gW) => gguard ((1 : Int32) = 0 ∨ (1 : Int32) = 1) (some (.inr 1, w)))))) else (K48 w)) (fun (w : gW) => gguard ((0 : Int32) = 0 ∨ (0 : Int32) = 1) (some (.inr 0, w))))
set_option maxHeartbeats 4000000 in
set_option maxRecDepth 100000 in
theorem m_M_prism (l : Launch) (hst : l.stackTraces = false) (D : gD) (g0 : gG) (a0 : Nat) (p1 : Int32) (p2 : Int64) (p3 : Int64) (w : gW) (r : (String ⊕ Int32) × gW) (h : f_M_prism g0 a0 p1 p2 p3 w = some r) : gMet l y_M_prism (.code y_M_prism b_M_prism 10 (some .boolean)) rm_M_prism D g0 [.ref a0, .int p1, .long p2, .long p3] w (goI r) := by
  refine gw_ofZ (by decide +kernel) (Nat.le_of_ble_eq_true rfl) ?_
  intro p e s m below meth c ls args A Q hx hb hml hown hlocks hin hnt hT hK hZ hA hret hexc hthr hI hl
  obtain ⟨H, hH⟩ : ∃ H, H = s.heap := ⟨_, rfl⟩
  rw [← hH] at hI ⊢
  obtain ⟨locs, hlocs⟩ : ∃ z : List Loc, z = [] := ⟨_, rfl⟩
  rw [← hlocs] at hI ⊢
  have hl : lv_has ls 10 [(0, .ref a0), (1, .int p1), (2, .long p2), (4, .long p3)] := hl
  unfold f_M_prism at h
  refine lv_aload_n hx hb d_M_prism_0 rfl (lv_at hl 0 rfl) ?_
  refine lv_aload_n hx hb d_M_prism_1 rfl (lv_at hl 0 rfl) ?_
  refine lv_iload_n hx hb d_M_prism_2 rfl (lv_at hl 1 rfl) ?_
  obtain ⟨q3, e4, h⟩ := gb h
  obtain ⟨u1, e2⟩ := gsome h
  refine gw_callI e2 h (gw_runV (As := [.int p1]) (rest := [.ref a0]) hx hb hml hown hT hK hZ hA hI (ci := 7) rfl e4 (m_M_isBody l hst D g0 a0 p1 w u1 e2) ce_M_isBody wd_894 wd_17 ⟨by decide, by decide⟩ rfl rfl hl.1 rfl (lv_room (Nat.le_of_ble_eq_true rfl)) d_M_prism_3 ⟨(show 0 + 0 ≤ 0 by omega), (show 0 + 0 ≤ 0 by omega)⟩) hI hA hexc (show 0 + 0 ≤ 0 by omega) (show 0 + 0 ≤ 0 by omega) (fun v5 w H locs h hI => ?_)
  obtain ⟨K27, eK27, h⟩ := gj h
  have hK27 : ∀ (y6 : Int32) (w : gW) (H : Heap) (locs : List Loc) (ls : Array Slot), K27 y6 w = some r → gI D s A w H locs → lv_has ls 10 [(0, .ref a0), (1, .int p1), (2, .long p2), (4, .long p3)] → W p l e rm_M_prism s m args below meth c H locs 0 0 Q (F0 m 27 ls [.int y6, .ref a0]) := by
    intro y6 w H locs ls h hI hl
    have h := gk2 eK27 h
    obtain ⟨w, e7, h⟩ := gb h
    refine gw_put hx hb hT hown hK hI (ci := 7) rfl i_7 t_7 t_7_ok n_7 0 (by decide) wd_786 (fun _ h9 => h9) rfl (ty := .int) (by decide +kernel) rfl rfl e7 d_M_prism_27 (fun H locs hI => ?_)
    refine lv_aload_n hx hb d_M_prism_30 rfl (lv_at hl 0 rfl) ?_
    obtain ⟨v8, e9, h⟩ := gb h
    refine gw_getI hx hb hT hown hK hI (ci := 7) rfl i_7 0 (by decide) wd_786 (fun _ h9 => h9) e9 d_M_prism_31 ?_
    obtain ⟨K48, eK48, h⟩ := gj h
    have hK48 : ∀ (w : gW) (H : Heap) (locs : List Loc) (ls : Array Slot), K48 w = some r → gI D s A w H locs → lv_has ls 10 [] → W p l e rm_M_prism s m args below meth c H locs 0 0 Q (F0 m 48 ls []) := by
      intro w H locs ls h hI hl
      have h := gk1 eK48 h
      refine lv_iconst (v := 0) hx hb d_M_prism_48 (by decide) ?_
      obtain ⟨g10, h⟩ := gif h
      exact W.widen (show 0 ≤ 0 by omega) (show 0 ≤ 0 by omega) (hret g10 0 _ (Option.some.inj h).symm _ _ _ _ d_M_prism_49 hI)
    refine lv_if_ne (tgt := 48) hx hb d_M_prism_34 (by decide) (fun c11 => ?_) (fun c11 => ?_)
    · skip
      have h := gie c11 h
      exact hK48 w H locs ls h hI (lv_sub hl [] rfl)
    · skip
      have h := git c11 h
      refine lv_aload_n hx hb d_M_prism_37 rfl (lv_at hl 0 rfl) ?_
      obtain ⟨v12, e13, h⟩ := gb h
      refine gw_getA hx hb hT hown hK hI (ci := 7) rfl i_7 3 (by decide) wd_789 (fun _ h9 => h9) e13 d_M_prism_38 ?_
      refine lv_iload_n hx hb d_M_prism_41 rfl (lv_at hl 1 rfl) ?_
      obtain ⟨v14, e15, h⟩ := gb h
      refine gw_aldI hx hb hK hI e15 d_M_prism_42 ?_
      refine lv_bipush (v := 12) hx hb d_M_prism_43 (by decide) ?_
      refine lv_icmp_ne (tgt := 50) hx hb d_M_prism_45 (by decide) (fun c16 => ?_) (fun c16 => ?_)
      · skip
        have h := gie c16 h
        refine lv_aload_n hx hb d_M_prism_50 rfl (lv_at hl 0 rfl) ?_
        obtain ⟨q19, e20, h⟩ := gb h
        obtain ⟨u17, e18⟩ := gsome h
        refine gw_callI e18 h (gw_runV (As := []) (rest := []) hx hb hml hown hT hK hZ hA hI (ci := 7) rfl e20 (m_M_isRound l hst D g0 a0 w u17 e18) ce_M_isRound wd_918 wd_20 ⟨by decide, by decide⟩ rfl rfl hl.1 rfl (lv_room (Nat.le_of_ble_eq_true rfl)) d_M_prism_51 ⟨(show 0 + 0 ≤ 0 by omega), (show 0 + 0 ≤ 0 by omega)⟩) hI hA hexc (show 0 + 0 ≤ 0 by omega) (show 0 + 0 ≤ 0 by omega) (fun v21 w H locs h hI => ?_)
        refine lv_istore (lv' := [(6, .int v21), (0, .ref a0), (1, .int p1), (2, .long p2), (4, .long p3)]) hx hb d_M_prism_54 hl (by decide) rfl (fun ls hl => ?_)
        refine lv_aload_n hx hb d_M_prism_56 rfl (lv_at hl 1 rfl) ?_
        obtain ⟨v22, e23, h⟩ := gb h
        refine gw_getI hx hb hT hown hK hI (ci := 7) rfl i_7 9 (by decide) wd_795 (fun _ h9 => h9) e23 d_M_prism_57 ?_
        refine lv_istore (lv' := [(7, .int v22), (6, .int v21), (0, .ref a0), (1, .int p1), (2, .long p2), (4, .long p3)]) hx hb d_M_prism_60 hl (by decide) rfl (fun ls hl => ?_)
        refine lv_aload_n hx hb d_M_prism_62 rfl (lv_at hl 2 rfl) ?_
        refine lv_iconst (v := 0) hx hb d_M_prism_63 (by decide) ?_
        obtain ⟨w, e24, h⟩ := gb h
        refine gw_put hx hb hT hown hK hI (ci := 7) rfl i_7 t_7 t_7_ok n_7 9 (by decide) wd_795 (fun _ h9 => h9) rfl (ty := .int) (by decide +kernel) rfl rfl e24 d_M_prism_64 (fun H locs hI => ?_)
        refine lv_iload hx hb d_M_prism_67 (lv_at hl 1 rfl) ?_
        refine lv_if_ne (tgt := 74) hx hb d_M_prism_69 (by decide) (fun c25 => ?_) (fun c25 => ?_)
        · skip
          have h := gie c25 h
          refine lv_aload_n hx hb d_M_prism_74 rfl (lv_at hl 2 rfl) ?_
          refine lv_iload_n hx hb d_M_prism_75 rfl (lv_at hl 3 rfl) ?_
          refine lv_iconst (v := 2) hx hb d_M_prism_76 (by decide) ?_
          obtain ⟨q28, e29, h⟩ := gb h
          obtain ⟨u26, e27⟩ := gsome h
          refine gw_callI e27 h (gw_runV (As := [.int p1, .int 2]) (rest := []) hx hb hml hown hT hK hZ hA hI (ci := 7) rfl e29 (m_M_fresh l hst D g0 a0 p1 2 w u26 e27) ce_M_fresh wd_898 wd_18 ⟨by decide, by decide⟩ rfl rfl hl.1 rfl (lv_room (Nat.le_of_ble_eq_true rfl)) d_M_prism_77 ⟨(show 0 + 0 ≤ 0 by omega), (show 0 + 0 ≤ 0 by omega)⟩) hI hA hexc (show 0 + 0 ≤ 0 by omega) (show 0 + 0 ≤ 0 by omega) (fun v30 w H locs h hI => ?_)
          refine lv_istore (lv' := [(8, .int v30), (7, .int v22), (6, .int v21), (0, .ref a0), (1, .int p1), (2, .long p2), (4, .long p3)]) hx hb d_M_prism_80 hl (by decide) rfl (fun ls hl => ?_)
          refine lv_aload_n hx hb d_M_prism_82 rfl (lv_at hl 3 rfl) ?_
          refine lv_iload hx hb d_M_prism_83 (lv_at hl 0 rfl) ?_
          refine lv_iconst (v := 2) hx hb d_M_prism_85 (by decide) ?_
          refine lv_lload_n hx hb d_M_prism_86 rfl (lv_at hl 5 rfl) ?_
          obtain ⟨q33, e34, h⟩ := gb h
          obtain ⟨u31, e32⟩ := gsome h
          refine gw_callV e32 h (gw_runV (As := [.int v30, .int 2, .long p2]) (rest := []) hx hb hml hown hT hK hZ hA hI (ci := 7) rfl e34 (m_M_tell l hst D g0 a0 v30 2 p2 w u31 e32) ce_M_tell wd_902 wd_19 ⟨by decide, by decide⟩ rfl rfl hl.1 rfl (lv_room (Nat.le_of_ble_eq_true rfl)) d_M_prism_87 ⟨(show 0 + 0 ≤ 0 by omega), (show 0 + 0 ≤ 0 by omega)⟩) hI hA hexc (show 0 + 0 ≤ 0 by omega) (show 0 + 0 ≤ 0 by omega) (fun v35 w H locs h hI => ?_)
          refine lv_aload_n hx hb d_M_prism_90 rfl (lv_at hl 3 rfl) ?_
          refine lv_iload hx hb d_M_prism_91 (lv_at hl 0 rfl) ?_
          refine lv_iconst (v := 5) hx hb d_M_prism_93 (by decide) ?_
          refine lv_lload hx hb d_M_prism_94 (lv_at hl 6 rfl) ?_
          obtain ⟨q38, e39, h⟩ := gb h
          obtain ⟨u36, e37⟩ := gsome h
          refine gw_callV e37 h (gw_runV (As := [.int v30, .int 5, .long p3]) (rest := []) hx hb hml hown hT hK hZ hA hI (ci := 7) rfl e39 (m_M_tell l hst D g0 a0 v30 5 p3 w u36 e37) ce_M_tell wd_902 wd_19 ⟨by decide, by decide⟩ rfl rfl hl.1 rfl (lv_room (Nat.le_of_ble_eq_true rfl)) d_M_prism_96 ⟨(show 0 + 0 ≤ 0 by omega), (show 0 + 0 ≤ 0 by omega)⟩) hI hA hexc (show 0 + 0 ≤ 0 by omega) (show 0 + 0 ≤ 0 by omega) (fun v40 w H locs h hI => ?_)
          refine lv_aload_n hx hb d_M_prism_99 rfl (lv_at hl 3 rfl) ?_
          obtain ⟨v41, e42, h⟩ := gb h
          refine gw_getA hx hb hT hown hK hI (ci := 7) rfl i_7 6 (by decide) wd_792 (fun _ h9 => h9) e42 d_M_prism_100 ?_
          refine lv_iload hx hb d_M_prism_103 (lv_at hl 0 rfl) ?_
          refine lv_iload hx hb d_M_prism_105 (lv_at hl 1 rfl) ?_
          obtain ⟨w, e43, h⟩ := gb h
          refine gw_astI hx hb hK hI e43 d_M_prism_107 (fun H locs hI => ?_)
          refine lv_iconst (v := 0) hx hb d_M_prism_108 (by decide) ?_
          refine lv_istore (lv' := [(9, .int 0), (8, .int v30), (7, .int v22), (6, .int v21), (0, .ref a0), (1, .int p1), (2, .long p2), (4, .long p3)]) hx hb d_M_prism_109 hl (by decide) rfl (fun ls hl => ?_)
          obtain ⟨K164, eK164, h⟩ := gj h
          have hK164 : ∀ (w : gW) (H : Heap) (locs : List Loc) (ls : Array Slot), K164 w = some r → gI D s A w H locs → lv_has ls 10 [] → W p l e rm_M_prism s m args below meth c H locs 0 0 Q (F0 m 164 ls []) := by
            intro w H locs ls h hI hl
            have h := gk1 eK164 h
            refine lv_iconst (v := 1) hx hb d_M_prism_164 (by decide) ?_
            obtain ⟨g44, h⟩ := gif h
            exact W.widen (show 0 ≤ 0 by omega) (show 0 ≤ 0 by omega) (hret g44 0 _ (Option.some.inj h).symm _ _ _ _ d_M_prism_165 hI)
          have hL111 : ∀ (n : Nat), ∀ (z45 : Int32) (w : gW) (H : Heap) (locs : List Loc) (ls : Array Slot), f_M_prism_L111 g0 a0 v22 v30 K164 n z45 w = some r → gI D s A w H locs → lv_has ls 10 [(0, .ref a0), (7, .int v22), (8, .int v30), (9, .int z45)] → W p l e rm_M_prism s m args below meth c H locs 0 0 Q (F0 m 111 ls []) := by
            intro n
            induction n with
            | zero => intro z45 w H locs ls h hI hl; exact absurd h (by simp [f_M_prism_L111])
            | succ n ih =>
              intro z45 w H locs ls h hI hl
              rw [f_M_prism_L111] at h
              refine lv_iload hx hb d_M_prism_111 (lv_at hl 3 rfl) ?_
              refine lv_iload hx hb d_M_prism_113 (lv_at hl 1 rfl) ?_
              refine lv_icmp_ge (tgt := 164) hx hb d_M_prism_115 (by decide) (fun c46 => ?_) (fun c46 => ?_)
              · skip
                have h := git c46 h
                exact hK164 w H locs ls h hI (lv_sub hl [] rfl)
              · skip
                have h := gie c46 h
                refine lv_aload_n hx hb d_M_prism_118 rfl (lv_at hl 0 rfl) ?_
                obtain ⟨v47, e48, h⟩ := gb h
                refine gw_getA hx hb hT hown hK hI (ci := 7) rfl i_7 7 (by decide) wd_793 (fun _ h9 => h9) e48 d_M_prism_119 ?_
                refine lv_bipush (v := 8) hx hb d_M_prism_122 (by decide) ?_
                refine lv_iload hx hb d_M_prism_124 (lv_at hl 2 rfl) ?_
                refine lv_imul hx hb d_M_prism_126 ?_
                refine lv_iload hx hb d_M_prism_127 (lv_at hl 3 rfl) ?_
                refine lv_iadd hx hb d_M_prism_129 ?_
                refine lv_aload_n hx hb d_M_prism_130 rfl (lv_at hl 0 rfl) ?_
                obtain ⟨v49, e50, h⟩ := gb h
                refine gw_getA hx hb hT hown hK hI (ci := 7) rfl i_7 10 (by decide) wd_796 (fun _ h9 => h9) e50 d_M_prism_131 ?_
                refine lv_iload hx hb d_M_prism_134 (lv_at hl 3 rfl) ?_
                obtain ⟨v51, e52, h⟩ := gb h
                refine gw_aldJ hx hb hK hI e52 d_M_prism_136 ?_
                obtain ⟨w, e53, h⟩ := gb h
                refine gw_astJ hx hb hK hI e53 d_M_prism_137 (fun H locs hI => ?_)
                refine lv_aload_n hx hb d_M_prism_138 rfl (lv_at hl 0 rfl) ?_
                obtain ⟨v54, e55, h⟩ := gb h
                refine gw_getA hx hb hT hown hK hI (ci := 7) rfl i_7 8 (by decide) wd_794 (fun _ h9 => h9) e55 d_M_prism_139 ?_
                refine lv_bipush (v := 8) hx hb d_M_prism_142 (by decide) ?_
                refine lv_iload hx hb d_M_prism_144 (lv_at hl 2 rfl) ?_
                refine lv_imul hx hb d_M_prism_146 ?_
                refine lv_iload hx hb d_M_prism_147 (lv_at hl 3 rfl) ?_
                refine lv_iadd hx hb d_M_prism_149 ?_
                refine lv_aload_n hx hb d_M_prism_150 rfl (lv_at hl 0 rfl) ?_
                obtain ⟨v56, e57, h⟩ := gb h
                refine gw_getA hx hb hT hown hK hI (ci := 7) rfl i_7 11 (by decide) wd_797 (fun _ h9 => h9) e57 d_M_prism_151 ?_
                refine lv_iload hx hb d_M_prism_154 (lv_at hl 3 rfl) ?_
                obtain ⟨v58, e59, h⟩ := gb h
                refine gw_aldJ hx hb hK hI e59 d_M_prism_156 ?_
                obtain ⟨w, e60, h⟩ := gb h
                refine gw_astJ hx hb hK hI e60 d_M_prism_157 (fun H locs hI => ?_)
                refine lv_iinc (v := z45 + 1) (lv' := [(9, .int (z45 + 1)), (0, .ref a0), (7, .int v22), (8, .int v30)]) hx hb d_M_prism_158 hl (k := 3) rfl rfl (by decide) rfl (fun ls hl => ?_)
                refine lv_goto (tgt := 111) hx hb d_M_prism_161 (by decide) ?_
                exact ih _ w H locs ls h hI (lv_sub hl [1, 2, 3, 0] rfl)
          exact hL111 64 _ w H locs ls h hI (lv_sub hl [4, 2, 1, 0] rfl)
        · skip
          have h := git c25 h
          refine lv_iconst (v := 0) hx hb d_M_prism_72 (by decide) ?_
          obtain ⟨g61, h⟩ := gif h
          exact W.widen (show 0 ≤ 0 by omega) (show 0 ≤ 0 by omega) (hret g61 0 _ (Option.some.inj h).symm _ _ _ _ d_M_prism_73 hI)
      · skip
        have h := git c16 h
        exact hK48 w H locs ls h hI (lv_sub hl [] rfl)
  refine lv_if_ne (tgt := 13) hx hb d_M_prism_6 (by decide) (fun c62 => ?_) (fun c62 => ?_)
  · skip
    have h := gie c62 h
    refine lv_lload_n hx hb d_M_prism_13 rfl (lv_at hl 2 rfl) ?_
    refine lv_lload hx hb d_M_prism_14 (lv_at hl 3 rfl) ?_
    obtain ⟨u63, e64⟩ := gsome h
    refine gw_callI e64 h (gw_runS (As := [.long p2, .long p3]) (rest := [.ref a0]) hx hb hml hown hT hK hZ hA hI (m_M_isUpright l hst D g0 p2 p3 w u63 e64) ce_M_isUpright wd_891 ⟨by decide, by decide⟩ rfl rfl hl.1 rfl (lv_room (Nat.le_of_ble_eq_true rfl)) d_M_prism_16 ⟨(show 0 + 0 ≤ 0 by omega), (show 0 + 0 ≤ 0 by omega)⟩) hI hA hexc (show 0 + 0 ≤ 0 by omega) (show 0 + 0 ≤ 0 by omega) (fun v65 w H locs h hI => ?_)
    refine lv_if_eq (tgt := 26) hx hb d_M_prism_19 (by decide) (fun c66 => ?_) (fun c66 => ?_)
    · skip
      have h := git c66 h
      refine lv_iconst (v := 2) hx hb d_M_prism_26 (by decide) ?_
      exact hK27 _ w H locs ls h hI (lv_sub hl [0, 1, 2, 3] rfl)
    · skip
      have h := gie c66 h
      refine lv_iconst (v := 0) hx hb d_M_prism_22 (by decide) ?_
      refine lv_goto (tgt := 27) hx hb d_M_prism_23 (by decide) ?_
      exact hK27 _ w H locs ls h hI (lv_sub hl [0, 1, 2, 3] rfl)
  · skip
    have h := git c62 h
    refine lv_iconst (v := 1) hx hb d_M_prism_9 (by decide) ?_
    refine lv_goto (tgt := 27) hx hb d_M_prism_10 (by decide) ?_
    exact hK27 _ w H locs ls h hI (lv_sub hl [0, 1, 2, 3] rfl)

abbrev b_M_section : ByteArray := prog_9_method_62_code
def y_M_section : MethodName := ⟨"BodySolidsModel", "section", "(JII)J"⟩
theorem d_M_section_0 : decode b_M_section 0 = .ok (.aload_n 0, 1) := by decide +kernel
theorem d_M_section_1 : decode b_M_section 1 = .ok (.iload 4, 2) := by decide +kernel
theorem d_M_section_3 : decode b_M_section 3 = .ok (.ifCond .lt 9, 3) := by decide +kernel
theorem d_M_section_6 : decode b_M_section 6 = .ok (.iload 4, 2) := by decide +kernel
theorem d_M_section_8 : decode b_M_section 8 = .ok (.iconst 5, 1) := by decide +kernel
theorem d_M_section_9 : decode b_M_section 9 = .ok (.if_icmp .le 7, 3) := by decide +kernel
theorem d_M_section_12 : decode b_M_section 12 = .ok (.iconst 1, 1) := by decide +kernel
theorem d_M_section_13 : decode b_M_section 13 = .ok (.goto 4, 3) := by decide +kernel
theorem d_M_section_16 : decode b_M_section 16 = .ok (.iconst 0, 1) := by decide +kernel
theorem d_M_section_17 : decode b_M_section 17 = .ok (.putfield 80, 3) := by decide +kernel
theorem d_M_section_20 : decode b_M_section 20 = .ok (.aload_n 0, 1) := by decide +kernel
theorem d_M_section_21 : decode b_M_section 21 = .ok (.getfield 80, 3) := by decide +kernel
theorem d_M_section_24 : decode b_M_section 24 = .ok (.ifCond .eq 5, 3) := by decide +kernel
theorem d_M_section_27 : decode b_M_section 27 = .ok (.lconst 0, 1) := by decide +kernel
theorem d_M_section_28 : decode b_M_section 28 = .ok (.lreturn, 1) := by decide +kernel
theorem d_M_section_29 : decode b_M_section 29 = .ok (.iload_n 3, 1) := by decide +kernel
theorem d_M_section_30 : decode b_M_section 30 = .ok (.istore 5, 2) := by decide +kernel
theorem d_M_section_32 : decode b_M_section 32 = .ok (.iconst 0, 1) := by decide +kernel
theorem d_M_section_33 : decode b_M_section 33 = .ok (.istore 6, 2) := by decide +kernel
theorem d_M_section_35 : decode b_M_section 35 = .ok (.iload 6, 2) := by decide +kernel
theorem d_M_section_37 : decode b_M_section 37 = .ok (.aload_n 0, 1) := by decide +kernel
theorem d_M_section_38 : decode b_M_section 38 = .ok (.getfield 95, 3) := by decide +kernel
theorem d_M_section_41 : decode b_M_section 41 = .ok (.if_icmp .ge 147, 3) := by decide +kernel
theorem d_M_section_44 : decode b_M_section 44 = .ok (.iload_n 3, 1) := by decide +kernel
theorem d_M_section_45 : decode b_M_section 45 = .ok (.ifCond .lt 143, 3) := by decide +kernel
theorem d_M_section_48 : decode b_M_section 48 = .ok (.iconst 0, 1) := by decide +kernel
theorem d_M_section_49 : decode b_M_section 49 = .ok (.istore 7, 2) := by decide +kernel
theorem d_M_section_51 : decode b_M_section 51 = .ok (.iload 7, 2) := by decide +kernel
theorem d_M_section_53 : decode b_M_section 53 = .ok (.aload_n 0, 1) := by decide +kernel
theorem d_M_section_54 : decode b_M_section 54 = .ok (.getfield 7, 3) := by decide +kernel
theorem d_M_section_57 : decode b_M_section 57 = .ok (.aload_n 0, 1) := by decide +kernel
theorem d_M_section_58 : decode b_M_section 58 = .ok (.getfield 35, 3) := by decide +kernel
theorem d_M_section_61 : decode b_M_section 61 = .ok (.iload 6, 2) := by decide +kernel
theorem d_M_section_63 : decode b_M_section 63 = .ok (.iaload, 1) := by decide +kernel
theorem d_M_section_64 : decode b_M_section 64 = .ok (.iaload, 1) := by decide +kernel
theorem d_M_section_65 : decode b_M_section 65 = .ok (.if_icmp .ge 117, 3) := by decide +kernel
theorem d_M_section_68 : decode b_M_section 68 = .ok (.aload_n 0, 1) := by decide +kernel
theorem d_M_section_69 : decode b_M_section 69 = .ok (.iconst 0, 1) := by decide +kernel
theorem d_M_section_70 : decode b_M_section 70 = .ok (.iload 6, 2) := by decide +kernel
theorem d_M_section_72 : decode b_M_section 72 = .ok (.bipush 12, 2) := by decide +kernel
theorem d_M_section_74 : decode b_M_section 74 = .ok (.aload_n 0, 1) := by decide +kernel
theorem d_M_section_75 : decode b_M_section 75 = .ok (.getfield 35, 3) := by decide +kernel
theorem d_M_section_78 : decode b_M_section 78 = .ok (.iload 6, 2) := by decide +kernel
theorem d_M_section_80 : decode b_M_section 80 = .ok (.iaload, 1) := by decide +kernel
theorem d_M_section_81 : decode b_M_section 81 = .ok (.imul, 1) := by decide +kernel
theorem d_M_section_82 : decode b_M_section 82 = .ok (.iload 7, 2) := by decide +kernel
theorem d_M_section_84 : decode b_M_section 84 = .ok (.iadd, 1) := by decide +kernel
theorem d_M_section_85 : decode b_M_section 85 = .ok (.invokevirtual 252, 3) := by decide +kernel
theorem d_M_section_88 : decode b_M_section 88 = .ok (.aload_n 0, 1) := by decide +kernel
theorem d_M_section_89 : decode b_M_section 89 = .ok (.getfield 53, 3) := by decide +kernel
theorem d_M_section_92 : decode b_M_section 92 = .ok (.iconst 0, 1) := by decide +kernel
theorem d_M_section_93 : decode b_M_section 93 = .ok (.iaload, 1) := by decide +kernel
theorem d_M_section_94 : decode b_M_section 94 = .ok (.iconst 3, 1) := by decide +kernel
theorem d_M_section_95 : decode b_M_section 95 = .ok (.if_icmp .eq 81, 3) := by decide +kernel
theorem d_M_section_98 : decode b_M_section 98 = .ok (.lload_n 1, 1) := by decide +kernel
theorem d_M_section_99 : decode b_M_section 99 = .ok (.aload_n 0, 1) := by decide +kernel
theorem d_M_section_100 : decode b_M_section 100 = .ok (.getfield 68, 3) := by decide +kernel
theorem d_M_section_103 : decode b_M_section 103 = .ok (.iconst 0, 1) := by decide +kernel
theorem d_M_section_104 : decode b_M_section 104 = .ok (.laload, 1) := by decide +kernel
theorem d_M_section_105 : decode b_M_section 105 = .ok (.lcmp, 1) := by decide +kernel
theorem d_M_section_106 : decode b_M_section 106 = .ok (.ifCond .le 70, 3) := by decide +kernel
theorem d_M_section_109 : decode b_M_section 109 = .ok (.lload_n 1, 1) := by decide +kernel
theorem d_M_section_110 : decode b_M_section 110 = .ok (.aload_n 0, 1) := by decide +kernel
theorem d_M_section_111 : decode b_M_section 111 = .ok (.getfield 71, 3) := by decide +kernel
theorem d_M_section_114 : decode b_M_section 114 = .ok (.iconst 0, 1) := by decide +kernel
theorem d_M_section_115 : decode b_M_section 115 = .ok (.laload, 1) := by decide +kernel
theorem d_M_section_116 : decode b_M_section 116 = .ok (.lcmp, 1) := by decide +kernel
theorem d_M_section_117 : decode b_M_section 117 = .ok (.ifCond .lt 6, 3) := by decide +kernel
theorem d_M_section_120 : decode b_M_section 120 = .ok (.goto 56, 3) := by decide +kernel
theorem d_M_section_123 : decode b_M_section 123 = .ok (.iload 5, 2) := by decide +kernel
theorem d_M_section_125 : decode b_M_section 125 = .ok (.ifCond .ne 48, 3) := by decide +kernel
theorem d_M_section_128 : decode b_M_section 128 = .ok (.iload 4, 2) := by decide +kernel
theorem d_M_section_130 : decode b_M_section 130 = .ok (.ifCond .ne 9, 3) := by decide +kernel
theorem d_M_section_133 : decode b_M_section 133 = .ok (.iload 6, 2) := by decide +kernel
theorem d_M_section_135 : decode b_M_section 135 = .ok (.i2l, 1) := by decide +kernel
theorem d_M_section_136 : decode b_M_section 136 = .ok (.goto 36, 3) := by decide +kernel
theorem d_M_section_139 : decode b_M_section 139 = .ok (.iload 4, 2) := by decide +kernel
theorem d_M_section_141 : decode b_M_section 141 = .ok (.iconst 1, 1) := by decide +kernel
theorem d_M_section_142 : decode b_M_section 142 = .ok (.if_icmp .ne 9, 3) := by decide +kernel
theorem d_M_section_145 : decode b_M_section 145 = .ok (.iload 7, 2) := by decide +kernel
theorem d_M_section_147 : decode b_M_section 147 = .ok (.i2l, 1) := by decide +kernel
theorem d_M_section_148 : decode b_M_section 148 = .ok (.goto 24, 3) := by decide +kernel
theorem d_M_section_151 : decode b_M_section 151 = .ok (.aload_n 0, 1) := by decide +kernel
theorem d_M_section_152 : decode b_M_section 152 = .ok (.iload 4, 2) := by decide +kernel
theorem d_M_section_154 : decode b_M_section 154 = .ok (.iconst 4, 1) := by decide +kernel
theorem d_M_section_155 : decode b_M_section 155 = .ok (.if_icmp .ge 10, 3) := by decide +kernel
theorem d_M_section_158 : decode b_M_section 158 = .ok (.iload 4, 2) := by decide +kernel
theorem d_M_section_160 : decode b_M_section 160 = .ok (.iconst 2, 1) := by decide +kernel
theorem d_M_section_161 : decode b_M_section 161 = .ok (.isub, 1) := by decide +kernel
theorem d_M_section_162 : decode b_M_section 162 = .ok (.goto 7, 3) := by decide +kernel
theorem d_M_section_165 : decode b_M_section 165 = .ok (.iload 4, 2) := by decide +kernel
theorem d_M_section_167 : decode b_M_section 167 = .ok (.iconst 1, 1) := by decide +kernel
theorem d_M_section_168 : decode b_M_section 168 = .ok (.isub, 1) := by decide +kernel
theorem d_M_section_169 : decode b_M_section 169 = .ok (.invokevirtual 279, 3) := by decide +kernel
theorem d_M_section_172 : decode b_M_section 172 = .ok (.lreturn, 1) := by decide +kernel
theorem d_M_section_173 : decode b_M_section 173 = .ok (.iinc 5 (-1), 3) := by decide +kernel
theorem d_M_section_176 : decode b_M_section 176 = .ok (.iinc 7 1, 3) := by decide +kernel
theorem d_M_section_179 : decode b_M_section 179 = .ok (.goto (-128), 3) := by decide +kernel
theorem d_M_section_182 : decode b_M_section 182 = .ok (.iinc 6 1, 3) := by decide +kernel
theorem d_M_section_185 : decode b_M_section 185 = .ok (.goto (-150), 3) := by decide +kernel
theorem d_M_section_188 : decode b_M_section 188 = .ok (.ldc2_w 206, 3) := by decide +kernel
theorem d_M_section_191 : decode b_M_section 191 = .ok (.lreturn, 1) := by decide +kernel
abbrev rm_M_section : Room := { frames := 3, cells := 0, slots := 0, locals := 85 }
theorem ce_M_section : gCe y_M_section (.code y_M_section b_M_section 8 (some .long)) 8 3 false := gCe.code wd_1109 wd_57 wd_1107 (by decide) (by decide +kernel)
def f_M_section_L51 (g0 : gG) (c0 : Nat) (c1 : Int64) (c3 : Int32) (c4 : Int32) (c6 : Int32) (K182 : Int32 → gW → gX Int64) (K128 : Int32 → Int32 → gW → gX Int64) : Nat → Int32 → Int32 → gW → gX Int64
  | 0, _, _, _ => none
  | n + 1, z5, z7, w => (gfA w c0 7 3).bind fun v23 => (gfA w c0 7 13).bind fun v25 => (gaI w v25 c6).bind fun v27 => (gaI w v23 v27).bind fun v29 => if v29 ≤ z7 then (K182 z5 w) else ((gfA w c0 7 13).bind fun v32 => (gaI w v32 c6).bind fun v34 => (gck w c0 7).bind fun _ => gbind (f_M_lay g0 c0 0 c6 ((12 * v34) + z7) w) fun v40 w => (gfA w c0 7 20).bind fun v41 => (gaI w v41 0).bind fun v43 => gjoin (fun K176 => if v43 = 3 then (K176 z5 w) else ((gfA w c0 7 25).bind fun v47 => (gaJ w v47 0).bind fun v49 => if c1 ≤ v49 then (K176 z5 w) else ((gfA w c0 7 26).bind fun v52 => (gaJ w v52 0).bind fun v54 => if c1 < v54 then (if z5 = 0 then (K128 c6 z7 w) else (K176 (z5 + (-1)) w)) else (K176 z5 w)))) (fun (x45 : Int32) (w : gW) => f_M_section_L51 g0 c0 c1 c3 c4 c6 K182 K128 n x45 (z7 + 1) w))
def f_M_section_L35 (g0 : gG) (c0 : Nat) (c1 : Int64) (c3 : Int32) (c4 : Int32) (K188 : gW → gX Int64) (K128 : Int32 → Int32 → gW → gX Int64) : Nat → Int32 → Int32 → gW → gX Int64
  | 0, _, _, _ => none
  | n + 1, z5, z6, w => (gfI w c0 7 12).bind fun v18 => if v18 ≤ z6 then (K188 w) else (if c3 < 0 then (K188 w) else (gjoin (fun K182 => f_M_section_L51 g0 c0 c1 c3 c4 z6 K182 K128 64 z5 0 w) (fun (x22 : Int32) (w : gW) => f_M_section_L35 g0 c0 c1 c3 c4 K188 K128 n x22 (z6 + 1) w)))
def f_M_section (g0 : gG) (a0 : Nat) (p1 : Int64) (p2 : Int32) (p3 : Int32) (w : gW) : gX Int64 := gjoin (fun K17 => gjoin (fun K12 => if p3 < 0 then (K12 w) else (if p3 ≤ 5 then (K17 0 w) else (K12 w))) (fun (w : gW) => K17 1 w)) (fun (y1 : Int32) (w : gW) => (gp w a0 7 0 (.int y1)).bind fun w => (gfI w a0 7 0).bind fun v3 => if v3 = 0 then (gjoin (fun K188 => gjoin (fun K128 => f_M_section_L35 g0 a0 p1 p2 p3 K188 K128 64 p2 0 w) (fun (x6 : Int32) (x7 : Int32) (w : gW) => gjoin (fun K172 => if p3 = 0 then (K172 (x6.toInt64) w) else (if p3 = 1 then (K172 (x7.toInt64) w) else (gjoin (fun K169 => if 4 ≤ p3 then (K169 (p3 - 1) w) else (K169 (p3 - 2) w)) (fun (y11 : Int32) (w : gW) => (gck w a0 7).bind fun _ => gbind (f_M_edge g0 a0 y11 w) fun v16 w => K172 v16 w)))) (fun (y8 : Int64) (w : gW) => some (.inr y8, w)))) (fun (w : gW) => some (.inr (-1), w))) else (some (.inr 0, w)))
set_option maxHeartbeats 4000000 in
set_option maxRecDepth 100000 in
theorem m_M_section (l : Launch) (hst : l.stackTraces = false) (D : gD) (g0 : gG) (a0 : Nat) (p1 : Int64) (p2 : Int32) (p3 : Int32) (w : gW) (r : (String ⊕ Int64) × gW) (h : f_M_section g0 a0 p1 p2 p3 w = some r) : gMet l y_M_section (.code y_M_section b_M_section 8 (some .long)) rm_M_section D g0 [.ref a0, .long p1, .int p2, .int p3] w (goJ r) := by
  refine gw_ofJ (by decide +kernel) (Nat.le_of_ble_eq_true rfl) ?_
  intro p e s m below meth c ls args A Q hx hb hml hown hlocks hin hnt hT hK hZ hA hret hexc hthr hI hl
  obtain ⟨H, hH⟩ : ∃ H, H = s.heap := ⟨_, rfl⟩
  rw [← hH] at hI ⊢
  obtain ⟨locs, hlocs⟩ : ∃ z : List Loc, z = [] := ⟨_, rfl⟩
  rw [← hlocs] at hI ⊢
  have hl : lv_has ls 8 [(0, .ref a0), (1, .long p1), (3, .int p2), (4, .int p3)] := hl
  unfold f_M_section at h
  refine lv_aload_n hx hb d_M_section_0 rfl (lv_at hl 0 rfl) ?_
  refine lv_iload hx hb d_M_section_1 (lv_at hl 3 rfl) ?_
  obtain ⟨K17, eK17, h⟩ := gj h
  have hK17 : ∀ (y1 : Int32) (w : gW) (H : Heap) (locs : List Loc) (ls : Array Slot), K17 y1 w = some r → gI D s A w H locs → lv_has ls 8 [(0, .ref a0), (1, .long p1), (3, .int p2), (4, .int p3)] → W p l e rm_M_section s m args below meth c H locs 0 0 Q (F0 m 17 ls [.int y1, .ref a0]) := by
    intro y1 w H locs ls h hI hl
    have h := gk2 eK17 h
    obtain ⟨w, e2, h⟩ := gb h
    refine gw_put hx hb hT hown hK hI (ci := 7) rfl i_7 t_7 t_7_ok n_7 0 (by decide) wd_786 (fun _ h9 => h9) rfl (ty := .int) (by decide +kernel) rfl rfl e2 d_M_section_17 (fun H locs hI => ?_)
    refine lv_aload_n hx hb d_M_section_20 rfl (lv_at hl 0 rfl) ?_
    obtain ⟨v3, e4, h⟩ := gb h
    refine gw_getI hx hb hT hown hK hI (ci := 7) rfl i_7 0 (by decide) wd_786 (fun _ h9 => h9) e4 d_M_section_21 ?_
    refine lv_if_eq (tgt := 29) hx hb d_M_section_24 (by decide) (fun c5 => ?_) (fun c5 => ?_)
    · skip
      have h := git c5 h
      refine lv_iload_n hx hb d_M_section_29 rfl (lv_at hl 2 rfl) ?_
      refine lv_istore (lv' := [(5, .int p2), (0, .ref a0), (1, .long p1), (3, .int p2), (4, .int p3)]) hx hb d_M_section_30 hl (by decide) rfl (fun ls hl => ?_)
      refine lv_iconst (v := 0) hx hb d_M_section_32 (by decide) ?_
      refine lv_istore (lv' := [(6, .int 0), (5, .int p2), (0, .ref a0), (1, .long p1), (3, .int p2), (4, .int p3)]) hx hb d_M_section_33 hl (by decide) rfl (fun ls hl => ?_)
      obtain ⟨K188, eK188, h⟩ := gj h
      have hK188 : ∀ (w : gW) (H : Heap) (locs : List Loc) (ls : Array Slot), K188 w = some r → gI D s A w H locs → lv_has ls 8 [] → W p l e rm_M_section s m args below meth c H locs 0 0 Q (F0 m 188 ls []) := by
        intro w H locs ls h hI hl
        have h := gk1 eK188 h
        refine lv_ldc2 (v := (-1)) hx hb hown (hT _ wd_1054 args) d_M_section_188 ?_
        exact W.widen (show 0 ≤ 0 by omega) (show 0 ≤ 0 by omega) (hret _ _ (Option.some.inj h).symm _ _ _ _ d_M_section_191 hI)
      obtain ⟨K128, eK128, h⟩ := gj h
      have hK128 : ∀ (x6 : Int32) (x7 : Int32) (w : gW) (H : Heap) (locs : List Loc) (ls : Array Slot), K128 x6 x7 w = some r → gI D s A w H locs → lv_has ls 8 [(0, .ref a0), (4, .int p3), (6, .int x6), (7, .int x7)] → W p l e rm_M_section s m args below meth c H locs 0 0 Q (F0 m 128 ls []) := by
        intro x6 x7 w H locs ls h hI hl
        have h := gk3 eK128 h
        refine lv_iload hx hb d_M_section_128 (lv_at hl 1 rfl) ?_
        obtain ⟨K172, eK172, h⟩ := gj h
        have hK172 : ∀ (y8 : Int64) (w : gW) (H : Heap) (locs : List Loc) (ls : Array Slot), K172 y8 w = some r → gI D s A w H locs → lv_has ls 8 [] → W p l e rm_M_section s m args below meth c H locs 0 0 Q (F0 m 172 ls [.long y8]) := by
          intro y8 w H locs ls h hI hl
          have h := gk2 eK172 h
          exact W.widen (show 0 ≤ 0 by omega) (show 0 ≤ 0 by omega) (hret _ _ (Option.some.inj h).symm _ _ _ _ d_M_section_172 hI)
        refine lv_if_ne (tgt := 139) hx hb d_M_section_130 (by decide) (fun c9 => ?_) (fun c9 => ?_)
        · skip
          have h := gie c9 h
          refine lv_iload hx hb d_M_section_139 (lv_at hl 1 rfl) ?_
          refine lv_iconst (v := 1) hx hb d_M_section_141 (by decide) ?_
          refine lv_icmp_ne (tgt := 151) hx hb d_M_section_142 (by decide) (fun c10 => ?_) (fun c10 => ?_)
          · skip
            have h := gie c10 h
            refine lv_aload_n hx hb d_M_section_151 rfl (lv_at hl 0 rfl) ?_
            refine lv_iload hx hb d_M_section_152 (lv_at hl 1 rfl) ?_
            refine lv_iconst (v := 4) hx hb d_M_section_154 (by decide) ?_
            obtain ⟨K169, eK169, h⟩ := gj h
            have hK169 : ∀ (y11 : Int32) (w : gW) (H : Heap) (locs : List Loc) (ls : Array Slot), K169 y11 w = some r → gI D s A w H locs → lv_has ls 8 [] → W p l e rm_M_section s m args below meth c H locs 0 0 Q (F0 m 169 ls [.int y11, .ref a0]) := by
              intro y11 w H locs ls h hI hl
              have h := gk2 eK169 h
              obtain ⟨q14, e15, h⟩ := gb h
              obtain ⟨u12, e13⟩ := gsome h
              refine gw_callJ e13 h (gw_runV (As := [.int y11]) (rest := []) hx hb hml hown hT hK hZ hA hI (ci := 7) rfl e15 (m_M_edge l hst D g0 a0 y11 w u12 e13) ce_M_edge wd_1102 wd_46 ⟨by decide, by decide⟩ rfl rfl hl.1 rfl (lv_room (Nat.le_of_ble_eq_true rfl)) d_M_section_169 ⟨(show 0 + 0 ≤ 0 by omega), (show 0 + 0 ≤ 0 by omega)⟩) hI hA hexc (show 0 + 0 ≤ 0 by omega) (show 0 + 0 ≤ 0 by omega) (fun v16 w H locs h hI => ?_)
              exact hK172 _ w H locs ls h hI (lv_sub hl [] rfl)
            refine lv_icmp_ge (tgt := 165) hx hb d_M_section_155 (by decide) (fun c17 => ?_) (fun c17 => ?_)
            · skip
              have h := git c17 h
              refine lv_iload hx hb d_M_section_165 (lv_at hl 1 rfl) ?_
              refine lv_iconst (v := 1) hx hb d_M_section_167 (by decide) ?_
              refine lv_isub hx hb d_M_section_168 ?_
              exact hK169 _ w H locs ls h hI (lv_sub hl [] rfl)
            · skip
              have h := gie c17 h
              refine lv_iload hx hb d_M_section_158 (lv_at hl 1 rfl) ?_
              refine lv_iconst (v := 2) hx hb d_M_section_160 (by decide) ?_
              refine lv_isub hx hb d_M_section_161 ?_
              refine lv_goto (tgt := 169) hx hb d_M_section_162 (by decide) ?_
              exact hK169 _ w H locs ls h hI (lv_sub hl [] rfl)
          · skip
            have h := git c10 h
            refine lv_iload hx hb d_M_section_145 (lv_at hl 3 rfl) ?_
            refine lv_i2l (v := x7.toInt64) hx hb d_M_section_147 rfl ?_
            refine lv_goto (tgt := 172) hx hb d_M_section_148 (by decide) ?_
            exact hK172 _ w H locs ls h hI (lv_sub hl [] rfl)
        · skip
          have h := git c9 h
          refine lv_iload hx hb d_M_section_133 (lv_at hl 2 rfl) ?_
          refine lv_i2l (v := x6.toInt64) hx hb d_M_section_135 rfl ?_
          refine lv_goto (tgt := 172) hx hb d_M_section_136 (by decide) ?_
          exact hK172 _ w H locs ls h hI (lv_sub hl [] rfl)
      have hL35 : ∀ (n : Nat), ∀ (z18 : Int32) (z19 : Int32) (w : gW) (H : Heap) (locs : List Loc) (ls : Array Slot), f_M_section_L35 g0 a0 p1 p2 p3 K188 K128 n z18 z19 w = some r → gI D s A w H locs → lv_has ls 8 [(0, .ref a0), (1, .long p1), (3, .int p2), (4, .int p3), (5, .int z18), (6, .int z19)] → W p l e rm_M_section s m args below meth c H locs 0 0 Q (F0 m 35 ls []) := by
        intro n
        induction n with
        | zero => intro z18 z19 w H locs ls h hI hl; exact absurd h (by simp [f_M_section_L35])
        | succ n ih =>
          intro z18 z19 w H locs ls h hI hl
          rw [f_M_section_L35] at h
          refine lv_iload hx hb d_M_section_35 (lv_at hl 5 rfl) ?_
          refine lv_aload_n hx hb d_M_section_37 rfl (lv_at hl 0 rfl) ?_
          obtain ⟨v20, e21, h⟩ := gb h
          refine gw_getI hx hb hT hown hK hI (ci := 7) rfl i_7 12 (by decide) wd_798 (fun _ h9 => h9) e21 d_M_section_38 ?_
          refine lv_icmp_ge (tgt := 188) hx hb d_M_section_41 (by decide) (fun c22 => ?_) (fun c22 => ?_)
          · skip
            have h := git c22 h
            exact hK188 w H locs ls h hI (lv_sub hl [] rfl)
          · skip
            have h := gie c22 h
            refine lv_iload_n hx hb d_M_section_44 rfl (lv_at hl 2 rfl) ?_
            refine lv_if_lt (tgt := 188) hx hb d_M_section_45 (by decide) (fun c23 => ?_) (fun c23 => ?_)
            · skip
              have h := git c23 h
              exact hK188 w H locs ls h hI (lv_sub hl [] rfl)
            · skip
              have h := gie c23 h
              refine lv_iconst (v := 0) hx hb d_M_section_48 (by decide) ?_
              refine lv_istore (lv' := [(7, .int 0), (0, .ref a0), (1, .long p1), (3, .int p2), (4, .int p3), (5, .int z18), (6, .int z19)]) hx hb d_M_section_49 hl (by decide) rfl (fun ls hl => ?_)
              obtain ⟨K182, eK182, h⟩ := gj h
              have hK182 : ∀ (x24 : Int32) (w : gW) (H : Heap) (locs : List Loc) (ls : Array Slot), K182 x24 w = some r → gI D s A w H locs → lv_has ls 8 [(0, .ref a0), (1, .long p1), (3, .int p2), (4, .int p3), (5, .int x24), (6, .int z19)] → W p l e rm_M_section s m args below meth c H locs 0 0 Q (F0 m 182 ls []) := by
                intro x24 w H locs ls h hI hl
                have h := gk2 eK182 h
                refine lv_iinc (v := z19 + 1) (lv' := [(6, .int (z19 + 1)), (0, .ref a0), (1, .long p1), (3, .int p2), (4, .int p3), (5, .int x24)]) hx hb d_M_section_182 hl (k := 5) rfl rfl (by decide) rfl (fun ls hl => ?_)
                refine lv_goto (tgt := 35) hx hb d_M_section_185 (by decide) ?_
                exact ih _ _ w H locs ls h hI (lv_sub hl [1, 2, 3, 4, 5, 0] rfl)
              have hL51 : ∀ (n : Nat), ∀ (z25 : Int32) (z26 : Int32) (w : gW) (H : Heap) (locs : List Loc) (ls : Array Slot), f_M_section_L51 g0 a0 p1 p2 p3 z19 K182 K128 n z25 z26 w = some r → gI D s A w H locs → lv_has ls 8 [(0, .ref a0), (1, .long p1), (3, .int p2), (4, .int p3), (6, .int z19), (5, .int z25), (7, .int z26)] → W p l e rm_M_section s m args below meth c H locs 0 0 Q (F0 m 51 ls []) := by
                intro n
                induction n with
                | zero => intro z25 z26 w H locs ls h hI hl; exact absurd h (by simp [f_M_section_L51])
                | succ n ih =>
                  intro z25 z26 w H locs ls h hI hl
                  rw [f_M_section_L51] at h
                  refine lv_iload hx hb d_M_section_51 (lv_at hl 6 rfl) ?_
                  refine lv_aload_n hx hb d_M_section_53 rfl (lv_at hl 0 rfl) ?_
                  obtain ⟨v27, e28, h⟩ := gb h
                  refine gw_getA hx hb hT hown hK hI (ci := 7) rfl i_7 3 (by decide) wd_789 (fun _ h9 => h9) e28 d_M_section_54 ?_
                  refine lv_aload_n hx hb d_M_section_57 rfl (lv_at hl 0 rfl) ?_
                  obtain ⟨v29, e30, h⟩ := gb h
                  refine gw_getA hx hb hT hown hK hI (ci := 7) rfl i_7 13 (by decide) wd_799 (fun _ h9 => h9) e30 d_M_section_58 ?_
                  refine lv_iload hx hb d_M_section_61 (lv_at hl 4 rfl) ?_
                  obtain ⟨v31, e32, h⟩ := gb h
                  refine gw_aldI hx hb hK hI e32 d_M_section_63 ?_
                  obtain ⟨v33, e34, h⟩ := gb h
                  refine gw_aldI hx hb hK hI e34 d_M_section_64 ?_
                  refine lv_icmp_ge (tgt := 182) hx hb d_M_section_65 (by decide) (fun c35 => ?_) (fun c35 => ?_)
                  · skip
                    have h := git c35 h
                    exact hK182 _ w H locs ls h hI (lv_sub hl [0, 1, 2, 3, 5, 4] rfl)
                  · skip
                    have h := gie c35 h
                    refine lv_aload_n hx hb d_M_section_68 rfl (lv_at hl 0 rfl) ?_
                    refine lv_iconst (v := 0) hx hb d_M_section_69 (by decide) ?_
                    refine lv_iload hx hb d_M_section_70 (lv_at hl 4 rfl) ?_
                    refine lv_bipush (v := 12) hx hb d_M_section_72 (by decide) ?_
                    refine lv_aload_n hx hb d_M_section_74 rfl (lv_at hl 0 rfl) ?_
                    obtain ⟨v36, e37, h⟩ := gb h
                    refine gw_getA hx hb hT hown hK hI (ci := 7) rfl i_7 13 (by decide) wd_799 (fun _ h9 => h9) e37 d_M_section_75 ?_
                    refine lv_iload hx hb d_M_section_78 (lv_at hl 4 rfl) ?_
                    obtain ⟨v38, e39, h⟩ := gb h
                    refine gw_aldI hx hb hK hI e39 d_M_section_80 ?_
                    refine lv_imul hx hb d_M_section_81 ?_
                    refine lv_iload hx hb d_M_section_82 (lv_at hl 6 rfl) ?_
                    refine lv_iadd hx hb d_M_section_84 ?_
                    obtain ⟨q42, e43, h⟩ := gb h
                    obtain ⟨u40, e41⟩ := gsome h
                    refine gw_callV e41 h (gw_runV (As := [.int 0, .int z19, .int ((12 * v38) + z26)]) (rest := []) hx hb hml hown hT hK hZ hA hI (ci := 7) rfl e43 (m_M_lay l hst D g0 a0 0 z19 ((12 * v38) + z26) w u40 e41) ce_M_lay wd_967 wd_25 ⟨by decide, by decide⟩ rfl rfl hl.1 rfl (lv_room (Nat.le_of_ble_eq_true rfl)) d_M_section_85 ⟨(show 0 + 0 ≤ 0 by omega), (show 0 + 0 ≤ 0 by omega)⟩) hI hA hexc (show 0 + 0 ≤ 0 by omega) (show 0 + 0 ≤ 0 by omega) (fun v44 w H locs h hI => ?_)
                    refine lv_aload_n hx hb d_M_section_88 rfl (lv_at hl 0 rfl) ?_
                    obtain ⟨v45, e46, h⟩ := gb h
                    refine gw_getA hx hb hT hown hK hI (ci := 7) rfl i_7 20 (by decide) wd_806 (fun _ h9 => h9) e46 d_M_section_89 ?_
                    refine lv_iconst (v := 0) hx hb d_M_section_92 (by decide) ?_
                    obtain ⟨v47, e48, h⟩ := gb h
                    refine gw_aldI hx hb hK hI e48 d_M_section_93 ?_
                    refine lv_iconst (v := 3) hx hb d_M_section_94 (by decide) ?_
                    obtain ⟨K176, eK176, h⟩ := gj h
                    have hK176 : ∀ (x49 : Int32) (w : gW) (H : Heap) (locs : List Loc) (ls : Array Slot), K176 x49 w = some r → gI D s A w H locs → lv_has ls 8 [(0, .ref a0), (1, .long p1), (3, .int p2), (4, .int p3), (5, .int x49), (6, .int z19), (7, .int z26)] → W p l e rm_M_section s m args below meth c H locs 0 0 Q (F0 m 176 ls []) := by
                      intro x49 w H locs ls h hI hl
                      have h := gk2 eK176 h
                      refine lv_iinc (v := z26 + 1) (lv' := [(7, .int (z26 + 1)), (0, .ref a0), (1, .long p1), (3, .int p2), (4, .int p3), (5, .int x49), (6, .int z19)]) hx hb d_M_section_176 hl (k := 6) rfl rfl (by decide) rfl (fun ls hl => ?_)
                      refine lv_goto (tgt := 51) hx hb d_M_section_179 (by decide) ?_
                      exact ih _ _ w H locs ls h hI (lv_sub hl [1, 2, 3, 4, 6, 5, 0] rfl)
                    refine lv_icmp_eq (tgt := 176) hx hb d_M_section_95 (by decide) (fun c50 => ?_) (fun c50 => ?_)
                    · skip
                      have h := git c50 h
                      exact hK176 _ w H locs ls h hI (lv_sub hl [0, 1, 2, 3, 5, 4, 6] rfl)
                    · skip
                      have h := gie c50 h
                      refine lv_lload_n hx hb d_M_section_98 rfl (lv_at hl 1 rfl) ?_
                      refine lv_aload_n hx hb d_M_section_99 rfl (lv_at hl 0 rfl) ?_
                      obtain ⟨v51, e52, h⟩ := gb h
                      refine gw_getA hx hb hT hown hK hI (ci := 7) rfl i_7 25 (by decide) wd_811 (fun _ h9 => h9) e52 d_M_section_100 ?_
                      refine lv_iconst (v := 0) hx hb d_M_section_103 (by decide) ?_
                      obtain ⟨v53, e54, h⟩ := gb h
                      refine gw_aldJ hx hb hK hI e54 d_M_section_104 ?_
                      refine W.lcmp hx hb d_M_section_105 ?_
                      refine lv_if_le (tgt := 176) hx hb d_M_section_106 (by decide) (fun c55 => ?_) (fun c55 => ?_)
                      · have c55 := (lg_cmp_le _ _).mp c55
                        have h := git c55 h
                        exact hK176 _ w H locs ls h hI (lv_sub hl [0, 1, 2, 3, 5, 4, 6] rfl)
                      · have c55 := mt (lg_cmp_le _ _).mpr c55
                        have h := gie c55 h
                        refine lv_lload_n hx hb d_M_section_109 rfl (lv_at hl 1 rfl) ?_
                        refine lv_aload_n hx hb d_M_section_110 rfl (lv_at hl 0 rfl) ?_
                        obtain ⟨v56, e57, h⟩ := gb h
                        refine gw_getA hx hb hT hown hK hI (ci := 7) rfl i_7 26 (by decide) wd_812 (fun _ h9 => h9) e57 d_M_section_111 ?_
                        refine lv_iconst (v := 0) hx hb d_M_section_114 (by decide) ?_
                        obtain ⟨v58, e59, h⟩ := gb h
                        refine gw_aldJ hx hb hK hI e59 d_M_section_115 ?_
                        refine W.lcmp hx hb d_M_section_116 ?_
                        refine lv_if_lt (tgt := 123) hx hb d_M_section_117 (by decide) (fun c60 => ?_) (fun c60 => ?_)
                        · have c60 := (lg_cmp_lt _ _).mp c60
                          have h := git c60 h
                          refine lv_iload hx hb d_M_section_123 (lv_at hl 5 rfl) ?_
                          refine lv_if_ne (tgt := 173) hx hb d_M_section_125 (by decide) (fun c61 => ?_) (fun c61 => ?_)
                          · skip
                            have h := gie c61 h
                            refine lv_iinc (v := z25 + (-1)) (lv' := [(5, .int (z25 + (-1))), (0, .ref a0), (1, .long p1), (3, .int p2), (4, .int p3), (6, .int z19), (7, .int z26)]) hx hb d_M_section_173 hl (k := 5) rfl rfl (by decide) rfl (fun ls hl => ?_)
                            exact hK176 _ w H locs ls h hI (lv_sub hl [1, 2, 3, 4, 0, 5, 6] rfl)
                          · skip
                            have h := git c61 h
                            exact hK128 _ _ w H locs ls h hI (lv_sub hl [0, 3, 4, 6] rfl)
                        · have c60 := mt (lg_cmp_lt _ _).mpr c60
                          have h := gie c60 h
                          refine lv_goto (tgt := 176) hx hb d_M_section_120 (by decide) ?_
                          exact hK176 _ w H locs ls h hI (lv_sub hl [0, 1, 2, 3, 5, 4, 6] rfl)
              exact hL51 64 _ _ w H locs ls h hI (lv_sub hl [1, 2, 3, 4, 6, 5, 0] rfl)
      exact hL35 64 _ _ w H locs ls h hI (lv_sub hl [2, 3, 4, 5, 1, 0] rfl)
    · skip
      have h := gie c5 h
      refine lv_lconst (v := 0) hx hb d_M_section_27 (by decide) ?_
      exact W.widen (show 0 ≤ 0 by omega) (show 0 ≤ 0 by omega) (hret _ _ (Option.some.inj h).symm _ _ _ _ d_M_section_28 hI)
  obtain ⟨K12, eK12, h⟩ := gj h
  have hK12 : ∀ (w : gW) (H : Heap) (locs : List Loc) (ls : Array Slot), K12 w = some r → gI D s A w H locs → lv_has ls 8 [(0, .ref a0), (1, .long p1), (3, .int p2), (4, .int p3)] → W p l e rm_M_section s m args below meth c H locs 0 0 Q (F0 m 12 ls [.ref a0]) := by
    intro w H locs ls h hI hl
    have h := gk1 eK12 h
    refine lv_iconst (v := 1) hx hb d_M_section_12 (by decide) ?_
    refine lv_goto (tgt := 17) hx hb d_M_section_13 (by decide) ?_
    exact hK17 _ w H locs ls h hI (lv_sub hl [0, 1, 2, 3] rfl)
  refine lv_if_lt (tgt := 12) hx hb d_M_section_3 (by decide) (fun c62 => ?_) (fun c62 => ?_)
  · skip
    have h := git c62 h
    exact hK12 w H locs ls h hI (lv_sub hl [0, 1, 2, 3] rfl)
  · skip
    have h := gie c62 h
    refine lv_iload hx hb d_M_section_6 (lv_at hl 3 rfl) ?_
    refine lv_iconst (v := 5) hx hb d_M_section_8 (by decide) ?_
    refine lv_icmp_le (tgt := 16) hx hb d_M_section_9 (by decide) (fun c63 => ?_) (fun c63 => ?_)
    · skip
      have h := git c63 h
      refine lv_iconst (v := 0) hx hb d_M_section_16 (by decide) ?_
      exact hK17 _ w H locs ls h hI (lv_sub hl [0, 1, 2, 3] rfl)
    · skip
      have h := gie c63 h
      exact hK12 w H locs ls h hI (lv_sub hl [0, 1, 2, 3] rfl)

abbrev b_M_thrown : ByteArray := prog_9_method_2_code
def y_M_thrown : MethodName := ⟨"BodySolidsModel", "thrown", "()I"⟩
theorem d_M_thrown_0 : decode b_M_thrown 0 = .ok (.aload_n 0, 1) := by decide +kernel
theorem d_M_thrown_1 : decode b_M_thrown 1 = .ok (.getfield 80, 3) := by decide +kernel
theorem d_M_thrown_4 : decode b_M_thrown 4 = .ok (.ireturn, 1) := by decide +kernel
abbrev rm_M_thrown : Room := { frames := 0, cells := 0, slots := 0, locals := 0 }
theorem ce_M_thrown : gCe y_M_thrown (.code y_M_thrown b_M_thrown 1 (some .int)) 1 0 false := gCe.code wd_871 wd_57 wd_869 (by decide) (by decide +kernel)
def f_M_thrown (g0 : gG) (a0 : Nat) (w : gW) : gX Int32 := (gfI w a0 7 0).bind fun v1 => some (.inr v1, w)
set_option maxHeartbeats 4000000 in
set_option maxRecDepth 100000 in
theorem m_M_thrown (l : Launch) (hst : l.stackTraces = false) (D : gD) (g0 : gG) (a0 : Nat) (w : gW) (r : (String ⊕ Int32) × gW) (h : f_M_thrown g0 a0 w = some r) : gMet l y_M_thrown (.code y_M_thrown b_M_thrown 1 (some .int)) rm_M_thrown D g0 [.ref a0] w (goI r) := by
  refine gw_ofI (by decide +kernel) (Nat.le_of_ble_eq_true rfl) ?_
  intro p e s m below meth c ls args A Q hx hb hml hown hlocks hin hnt hT hK hZ hA hret hexc hthr hI hl
  obtain ⟨H, hH⟩ : ∃ H, H = s.heap := ⟨_, rfl⟩
  rw [← hH] at hI ⊢
  obtain ⟨locs, hlocs⟩ : ∃ z : List Loc, z = [] := ⟨_, rfl⟩
  rw [← hlocs] at hI ⊢
  have hl : lv_has ls 1 [(0, .ref a0)] := hl
  unfold f_M_thrown at h
  refine lv_aload_n hx hb d_M_thrown_0 rfl (lv_at hl 0 rfl) ?_
  obtain ⟨v1, e2, h⟩ := gb h
  refine gw_getI hx hb hT hown hK hI (ci := 7) rfl i_7 0 (by decide) wd_786 (fun _ h9 => h9) e2 d_M_thrown_1 ?_
  exact W.widen (show 0 ≤ 0 by omega) (show 0 ≤ 0 by omega) (hret _ _ (Option.some.inj h).symm _ _ _ _ d_M_thrown_4 hI)

abbrev b_M_tube : ByteArray := prog_9_method_19_code
def y_M_tube : MethodName := ⟨"BodySolidsModel", "tube", "(IJJJJIJ)Z"⟩
theorem d_M_tube_0 : decode b_M_tube 0 = .ok (.lload_n 2, 1) := by decide +kernel
theorem d_M_tube_1 : decode b_M_tube 1 = .ok (.lconst 1, 1) := by decide +kernel
theorem d_M_tube_2 : decode b_M_tube 2 = .ok (.ldc2_w 132, 3) := by decide +kernel
theorem d_M_tube_5 : decode b_M_tube 5 = .ok (.invokestatic 88, 3) := by decide +kernel
theorem d_M_tube_8 : decode b_M_tube 8 = .ok (.ifCond .eq 54, 3) := by decide +kernel
theorem d_M_tube_11 : decode b_M_tube 11 = .ok (.lload 4, 2) := by decide +kernel
theorem d_M_tube_13 : decode b_M_tube 13 = .ok (.lload 6, 2) := by decide +kernel
theorem d_M_tube_15 : decode b_M_tube 15 = .ok (.invokestatic 102, 3) := by decide +kernel
theorem d_M_tube_18 : decode b_M_tube 18 = .ok (.ifCond .eq 44, 3) := by decide +kernel
theorem d_M_tube_21 : decode b_M_tube 21 = .ok (.lload 8, 2) := by decide +kernel
theorem d_M_tube_23 : decode b_M_tube 23 = .ok (.lload_n 2, 1) := by decide +kernel
theorem d_M_tube_24 : decode b_M_tube 24 = .ok (.ldc2_w 86, 3) := by decide +kernel
theorem d_M_tube_27 : decode b_M_tube 27 = .ok (.invokestatic 88, 3) := by decide +kernel
theorem d_M_tube_30 : decode b_M_tube 30 = .ok (.ifCond .eq 32, 3) := by decide +kernel
theorem d_M_tube_33 : decode b_M_tube 33 = .ok (.iload 10, 2) := by decide +kernel
theorem d_M_tube_35 : decode b_M_tube 35 = .ok (.ifCond .lt 27, 3) := by decide +kernel
theorem d_M_tube_38 : decode b_M_tube 38 = .ok (.iload 10, 2) := by decide +kernel
theorem d_M_tube_40 : decode b_M_tube 40 = .ok (.iconst 3, 1) := by decide +kernel
theorem d_M_tube_41 : decode b_M_tube 41 = .ok (.if_icmp .ge 21, 3) := by decide +kernel
theorem d_M_tube_44 : decode b_M_tube 44 = .ok (.lload 11, 2) := by decide +kernel
theorem d_M_tube_46 : decode b_M_tube 46 = .ok (.ldc2_w 134, 3) := by decide +kernel
theorem d_M_tube_49 : decode b_M_tube 49 = .ok (.ldc2_w 136, 3) := by decide +kernel
theorem d_M_tube_52 : decode b_M_tube 52 = .ok (.invokestatic 88, 3) := by decide +kernel
theorem d_M_tube_55 : decode b_M_tube 55 = .ok (.ifCond .eq 7, 3) := by decide +kernel
theorem d_M_tube_58 : decode b_M_tube 58 = .ok (.iconst 1, 1) := by decide +kernel
theorem d_M_tube_59 : decode b_M_tube 59 = .ok (.goto 4, 3) := by decide +kernel
theorem d_M_tube_62 : decode b_M_tube 62 = .ok (.iconst 0, 1) := by decide +kernel
theorem d_M_tube_63 : decode b_M_tube 63 = .ok (.istore 13, 2) := by decide +kernel
theorem d_M_tube_65 : decode b_M_tube 65 = .ok (.iload 13, 2) := by decide +kernel
theorem d_M_tube_67 : decode b_M_tube 67 = .ok (.ifCond .eq 67, 3) := by decide +kernel
theorem d_M_tube_70 : decode b_M_tube 70 = .ok (.lload 4, 2) := by decide +kernel
theorem d_M_tube_72 : decode b_M_tube 72 = .ok (.iload 10, 2) := by decide +kernel
theorem d_M_tube_74 : decode b_M_tube 74 = .ok (.ifCond .ne 8, 3) := by decide +kernel
theorem d_M_tube_77 : decode b_M_tube 77 = .ok (.lload 11, 2) := by decide +kernel
theorem d_M_tube_79 : decode b_M_tube 79 = .ok (.goto 4, 3) := by decide +kernel
theorem d_M_tube_82 : decode b_M_tube 82 = .ok (.lconst 0, 1) := by decide +kernel
theorem d_M_tube_83 : decode b_M_tube 83 = .ok (.ladd, 1) := by decide +kernel
theorem d_M_tube_84 : decode b_M_tube 84 = .ok (.lload 6, 2) := by decide +kernel
theorem d_M_tube_86 : decode b_M_tube 86 = .ok (.iload 10, 2) := by decide +kernel
theorem d_M_tube_88 : decode b_M_tube 88 = .ok (.iconst 1, 1) := by decide +kernel
theorem d_M_tube_89 : decode b_M_tube 89 = .ok (.if_icmp .ne 8, 3) := by decide +kernel
theorem d_M_tube_92 : decode b_M_tube 92 = .ok (.lload 11, 2) := by decide +kernel
theorem d_M_tube_94 : decode b_M_tube 94 = .ok (.goto 4, 3) := by decide +kernel
theorem d_M_tube_97 : decode b_M_tube 97 = .ok (.lconst 0, 1) := by decide +kernel
theorem d_M_tube_98 : decode b_M_tube 98 = .ok (.ladd, 1) := by decide +kernel
theorem d_M_tube_99 : decode b_M_tube 99 = .ok (.invokestatic 102, 3) := by decide +kernel
theorem d_M_tube_102 : decode b_M_tube 102 = .ok (.ifCond .eq 32, 3) := by decide +kernel
theorem d_M_tube_105 : decode b_M_tube 105 = .ok (.lload 8, 2) := by decide +kernel
theorem d_M_tube_107 : decode b_M_tube 107 = .ok (.iload 10, 2) := by decide +kernel
theorem d_M_tube_109 : decode b_M_tube 109 = .ok (.iconst 2, 1) := by decide +kernel
theorem d_M_tube_110 : decode b_M_tube 110 = .ok (.if_icmp .ne 8, 3) := by decide +kernel
theorem d_M_tube_113 : decode b_M_tube 113 = .ok (.lload 11, 2) := by decide +kernel
theorem d_M_tube_115 : decode b_M_tube 115 = .ok (.goto 4, 3) := by decide +kernel
theorem d_M_tube_118 : decode b_M_tube 118 = .ok (.lconst 0, 1) := by decide +kernel
theorem d_M_tube_119 : decode b_M_tube 119 = .ok (.ladd, 1) := by decide +kernel
theorem d_M_tube_120 : decode b_M_tube 120 = .ok (.lload_n 2, 1) := by decide +kernel
theorem d_M_tube_121 : decode b_M_tube 121 = .ok (.ldc2_w 86, 3) := by decide +kernel
theorem d_M_tube_124 : decode b_M_tube 124 = .ok (.invokestatic 88, 3) := by decide +kernel
theorem d_M_tube_127 : decode b_M_tube 127 = .ok (.ifCond .eq 7, 3) := by decide +kernel
theorem d_M_tube_130 : decode b_M_tube 130 = .ok (.iconst 1, 1) := by decide +kernel
theorem d_M_tube_131 : decode b_M_tube 131 = .ok (.goto 4, 3) := by decide +kernel
theorem d_M_tube_134 : decode b_M_tube 134 = .ok (.iconst 0, 1) := by decide +kernel
theorem d_M_tube_135 : decode b_M_tube 135 = .ok (.istore 13, 2) := by decide +kernel
theorem d_M_tube_137 : decode b_M_tube 137 = .ok (.aload_n 0, 1) := by decide +kernel
theorem d_M_tube_138 : decode b_M_tube 138 = .ok (.aload_n 0, 1) := by decide +kernel
theorem d_M_tube_139 : decode b_M_tube 139 = .ok (.iload_n 1, 1) := by decide +kernel
theorem d_M_tube_140 : decode b_M_tube 140 = .ok (.invokevirtual 109, 3) := by decide +kernel
theorem d_M_tube_143 : decode b_M_tube 143 = .ok (.ifCond .ne 7, 3) := by decide +kernel
theorem d_M_tube_146 : decode b_M_tube 146 = .ok (.iconst 1, 1) := by decide +kernel
theorem d_M_tube_147 : decode b_M_tube 147 = .ok (.goto 13, 3) := by decide +kernel
theorem d_M_tube_150 : decode b_M_tube 150 = .ok (.iload 13, 2) := by decide +kernel
theorem d_M_tube_152 : decode b_M_tube 152 = .ok (.ifCond .eq 7, 3) := by decide +kernel
theorem d_M_tube_155 : decode b_M_tube 155 = .ok (.iconst 0, 1) := by decide +kernel
theorem d_M_tube_156 : decode b_M_tube 156 = .ok (.goto 4, 3) := by decide +kernel
theorem d_M_tube_159 : decode b_M_tube 159 = .ok (.iconst 2, 1) := by decide +kernel
theorem d_M_tube_160 : decode b_M_tube 160 = .ok (.putfield 80, 3) := by decide +kernel
theorem d_M_tube_163 : decode b_M_tube 163 = .ok (.aload_n 0, 1) := by decide +kernel
theorem d_M_tube_164 : decode b_M_tube 164 = .ok (.getfield 80, 3) := by decide +kernel
theorem d_M_tube_167 : decode b_M_tube 167 = .ok (.ifCond .eq 5, 3) := by decide +kernel
theorem d_M_tube_170 : decode b_M_tube 170 = .ok (.iconst 0, 1) := by decide +kernel
theorem d_M_tube_171 : decode b_M_tube 171 = .ok (.ireturn, 1) := by decide +kernel
theorem d_M_tube_172 : decode b_M_tube 172 = .ok (.aload_n 0, 1) := by decide +kernel
theorem d_M_tube_173 : decode b_M_tube 173 = .ok (.iload_n 1, 1) := by decide +kernel
theorem d_M_tube_174 : decode b_M_tube 174 = .ok (.iconst 3, 1) := by decide +kernel
theorem d_M_tube_175 : decode b_M_tube 175 = .ok (.invokevirtual 113, 3) := by decide +kernel
theorem d_M_tube_178 : decode b_M_tube 178 = .ok (.istore 14, 2) := by decide +kernel
theorem d_M_tube_180 : decode b_M_tube 180 = .ok (.iload 14, 2) := by decide +kernel
theorem d_M_tube_182 : decode b_M_tube 182 = .ok (.iconst (-1), 1) := by decide +kernel
theorem d_M_tube_183 : decode b_M_tube 183 = .ok (.if_icmp .ne 5, 3) := by decide +kernel
theorem d_M_tube_186 : decode b_M_tube 186 = .ok (.iconst 0, 1) := by decide +kernel
theorem d_M_tube_187 : decode b_M_tube 187 = .ok (.ireturn, 1) := by decide +kernel
theorem d_M_tube_188 : decode b_M_tube 188 = .ok (.aload_n 0, 1) := by decide +kernel
theorem d_M_tube_189 : decode b_M_tube 189 = .ok (.iload 14, 2) := by decide +kernel
theorem d_M_tube_191 : decode b_M_tube 191 = .ok (.iconst 0, 1) := by decide +kernel
theorem d_M_tube_192 : decode b_M_tube 192 = .ok (.lload 4, 2) := by decide +kernel
theorem d_M_tube_194 : decode b_M_tube 194 = .ok (.invokevirtual 117, 3) := by decide +kernel
theorem d_M_tube_197 : decode b_M_tube 197 = .ok (.aload_n 0, 1) := by decide +kernel
theorem d_M_tube_198 : decode b_M_tube 198 = .ok (.iload 14, 2) := by decide +kernel
theorem d_M_tube_200 : decode b_M_tube 200 = .ok (.iconst 1, 1) := by decide +kernel
theorem d_M_tube_201 : decode b_M_tube 201 = .ok (.lload 6, 2) := by decide +kernel
theorem d_M_tube_203 : decode b_M_tube 203 = .ok (.invokevirtual 117, 3) := by decide +kernel
theorem d_M_tube_206 : decode b_M_tube 206 = .ok (.aload_n 0, 1) := by decide +kernel
theorem d_M_tube_207 : decode b_M_tube 207 = .ok (.iload 14, 2) := by decide +kernel
theorem d_M_tube_209 : decode b_M_tube 209 = .ok (.iconst 2, 1) := by decide +kernel
theorem d_M_tube_210 : decode b_M_tube 210 = .ok (.lload 8, 2) := by decide +kernel
theorem d_M_tube_212 : decode b_M_tube 212 = .ok (.invokevirtual 117, 3) := by decide +kernel
theorem d_M_tube_215 : decode b_M_tube 215 = .ok (.aload_n 0, 1) := by decide +kernel
theorem d_M_tube_216 : decode b_M_tube 216 = .ok (.iload 14, 2) := by decide +kernel
theorem d_M_tube_218 : decode b_M_tube 218 = .ok (.iconst 3, 1) := by decide +kernel
theorem d_M_tube_219 : decode b_M_tube 219 = .ok (.lload_n 2, 1) := by decide +kernel
theorem d_M_tube_220 : decode b_M_tube 220 = .ok (.invokevirtual 117, 3) := by decide +kernel
theorem d_M_tube_223 : decode b_M_tube 223 = .ok (.aload_n 0, 1) := by decide +kernel
theorem d_M_tube_224 : decode b_M_tube 224 = .ok (.iload 14, 2) := by decide +kernel
theorem d_M_tube_226 : decode b_M_tube 226 = .ok (.iconst 4, 1) := by decide +kernel
theorem d_M_tube_227 : decode b_M_tube 227 = .ok (.iload 10, 2) := by decide +kernel
theorem d_M_tube_229 : decode b_M_tube 229 = .ok (.i2l, 1) := by decide +kernel
theorem d_M_tube_230 : decode b_M_tube 230 = .ok (.invokevirtual 117, 3) := by decide +kernel
theorem d_M_tube_233 : decode b_M_tube 233 = .ok (.aload_n 0, 1) := by decide +kernel
theorem d_M_tube_234 : decode b_M_tube 234 = .ok (.iload 14, 2) := by decide +kernel
theorem d_M_tube_236 : decode b_M_tube 236 = .ok (.iconst 5, 1) := by decide +kernel
theorem d_M_tube_237 : decode b_M_tube 237 = .ok (.lload 11, 2) := by decide +kernel
theorem d_M_tube_239 : decode b_M_tube 239 = .ok (.invokevirtual 117, 3) := by decide +kernel
theorem d_M_tube_242 : decode b_M_tube 242 = .ok (.iconst 1, 1) := by decide +kernel
theorem d_M_tube_243 : decode b_M_tube 243 = .ok (.ireturn, 1) := by decide +kernel
abbrev rm_M_tube : Room := { frames := 2, cells := 0, slots := 0, locals := 48 }
theorem ce_M_tube : gCe y_M_tube (.code y_M_tube b_M_tube 15 (some .boolean)) 15 7 false := gCe.code wd_928 wd_57 wd_926 (by decide) (by decide +kernel)
def f_M_tube (g0 : gG) (a0 : Nat) (p1 : Int32) (p2 : Int64) (p3 : Int64) (p4 : Int64) (p5 : Int64) (p6 : Int32) (p7 : Int64) (w : gW) : gX Int32 := gbind (f_M_within g0 p2 1 500 w) fun v3 w => gjoin (fun K63 => gjoin (fun K62 => if v3 = 0 then (K62 w) else (gbind (f_M_isPlace g0 p3 p4 w) fun v75 w => if v75 = 0 then (K62 w) else (gbind (f_M_within g0 p5 p2 5000 w) fun v79 w => if v79 = 0 then (K62 w) else (if p6 < 0 then (K62 w) else (if 3 ≤ p6 then (K62 w) else (gbind (f_M_within g0 p7 (-10000) 10000 w) fun v85 w => if v85 = 0 then (K62 w) else (K63 1 w))))))) (fun (w : gW) => K63 0 w)) (fun (y4 : Int32) (w : gW) => gjoin (fun K135 => gjoin (fun K134 => if y4 = 0 then (K134 w) else (gjoin (fun K83 => if p6 = 0 then (K83 p7 w) else (K83 0 w)) (fun (y58 : Int64) (w : gW) => gjoin (fun K98 => if p6 = 1 then (K98 p7 w) else (K98 0 w)) (fun (y59 : Int64) (w : gW) => gbind (f_M_isPlace g0 (p3 + y58) (p4 + y59) w) fun v62 w => if v62 = 0 then (K134 w) else (gjoin (fun K119 => if p6 = 2 then (K119 p7 w) else (K119 0 w)) (fun (y64 : Int64) (w : gW) => gbind (f_M_within g0 (p5 + y64) p2 5000 w) fun v67 w => if v67 = 0 then (K134 w) else (K135 1 w))))))) (fun (w : gW) => K135 0 w)) (fun (y5 : Int32) (w : gW) => (gck w a0 7).bind fun _ => gbind (f_M_isBody g0 a0 p1 w) fun v10 w => gjoin (fun K160 => if v10 = 0 then (K160 1 w) else (if y5 = 0 then (K160 2 w) else (K160 0 w))) (fun (y11 : Int32) (w : gW) => (gp w a0 7 0 (.int y11)).bind fun w => (gfI w a0 7 0).bind fun v13 => if v13 = 0 then ((gck w a0 7).bind fun _ => gbind (f_M_fresh g0 a0 p1 3 w) fun v20 w => if v20 = (-1) then (gguard ((0 : Int32) = 0 ∨ (0 : Int32) = 1) (some (.inr 0, w))) else ((gck w a0 7).bind fun _ => gbind (f_M_tell g0 a0 v20 0 p3 w) fun v26 w => (gck w a0 7).bind fun _ => gbind (f_M_tell g0 a0 v20 1 p4 w) fun v31 w => (gck w a0 7).bind fun _ => gbind (f_M_tell g0 a0 v20 2 p5 w) fun v36 w => (gck w a0 7).bind fun _ => gbind (f_M_tell g0 a0 v20 3 p2 w) fun v41 w => (gck w a0 7).bind fun _ => gbind (f_M_tell g0 a0 v20 4 (p6.toInt64) w) fun v46 w => (gck w a0 7).bind fun _ => gbind (f_M_tell g0 a0 v20 5 p7 w) fun v51 w => gguard ((1 : Int32) = 0 ∨ (1 : Int32) = 1) (some (.inr 1, w)))) else (gguard ((0 : Int32) = 0 ∨ (0 : Int32) = 1) (some (.inr 0, w))))))
set_option maxHeartbeats 4000000 in
set_option maxRecDepth 100000 in
theorem m_M_tube (l : Launch) (hst : l.stackTraces = false) (D : gD) (g0 : gG) (a0 : Nat) (p1 : Int32) (p2 : Int64) (p3 : Int64) (p4 : Int64) (p5 : Int64) (p6 : Int32) (p7 : Int64) (w : gW) (r : (String ⊕ Int32) × gW) (h : f_M_tube g0 a0 p1 p2 p3 p4 p5 p6 p7 w = some r) : gMet l y_M_tube (.code y_M_tube b_M_tube 15 (some .boolean)) rm_M_tube D g0 [.ref a0, .int p1, .long p2, .long p3, .long p4, .long p5, .int p6, .long p7] w (goI r) := by
  refine gw_ofZ (by decide +kernel) (Nat.le_of_ble_eq_true rfl) ?_
  intro p e s m below meth c ls args A Q hx hb hml hown hlocks hin hnt hT hK hZ hA hret hexc hthr hI hl
  obtain ⟨H, hH⟩ : ∃ H, H = s.heap := ⟨_, rfl⟩
  rw [← hH] at hI ⊢
  obtain ⟨locs, hlocs⟩ : ∃ z : List Loc, z = [] := ⟨_, rfl⟩
  rw [← hlocs] at hI ⊢
  have hl : lv_has ls 15 [(0, .ref a0), (1, .int p1), (2, .long p2), (4, .long p3), (6, .long p4), (8, .long p5), (10, .int p6), (11, .long p7)] := hl
  unfold f_M_tube at h
  refine lv_lload_n hx hb d_M_tube_0 rfl (lv_at hl 2 rfl) ?_
  refine lv_lconst (v := 1) hx hb d_M_tube_1 (by decide) ?_
  refine lv_ldc2 (v := 500) hx hb hown (hT _ wd_929 args) d_M_tube_2 ?_
  obtain ⟨u1, e2⟩ := gsome h
  refine gw_callI e2 h (gw_runS (As := [.long p2, .long 1, .long 500]) (rest := []) hx hb hml hown hT hK hZ hA hI (m_M_within l hst D g0 p2 1 500 w u1 e2) ce_M_within wd_885 ⟨by decide, by decide⟩ rfl rfl hl.1 rfl (lv_room (Nat.le_of_ble_eq_true rfl)) d_M_tube_5 ⟨(show 0 + 0 ≤ 0 by omega), (show 0 + 0 ≤ 0 by omega)⟩) hI hA hexc (show 0 + 0 ≤ 0 by omega) (show 0 + 0 ≤ 0 by omega) (fun v3 w H locs h hI => ?_)
  obtain ⟨K63, eK63, h⟩ := gj h
  have hK63 : ∀ (y4 : Int32) (w : gW) (H : Heap) (locs : List Loc) (ls : Array Slot), K63 y4 w = some r → gI D s A w H locs → lv_has ls 15 [(0, .ref a0), (1, .int p1), (2, .long p2), (4, .long p3), (6, .long p4), (8, .long p5), (10, .int p6), (11, .long p7)] → W p l e rm_M_tube s m args below meth c H locs 0 0 Q (F0 m 63 ls [.int y4]) := by
    intro y4 w H locs ls h hI hl
    have h := gk2 eK63 h
    refine lv_istore (lv' := [(13, .int y4), (0, .ref a0), (1, .int p1), (2, .long p2), (4, .long p3), (6, .long p4), (8, .long p5), (10, .int p6), (11, .long p7)]) hx hb d_M_tube_63 hl (by decide) rfl (fun ls hl => ?_)
    refine lv_iload hx hb d_M_tube_65 (lv_at hl 0 rfl) ?_
    obtain ⟨K135, eK135, h⟩ := gj h
    have hK135 : ∀ (y5 : Int32) (w : gW) (H : Heap) (locs : List Loc) (ls : Array Slot), K135 y5 w = some r → gI D s A w H locs → lv_has ls 15 [(0, .ref a0), (1, .int p1), (2, .long p2), (4, .long p3), (6, .long p4), (8, .long p5), (10, .int p6), (11, .long p7)] → W p l e rm_M_tube s m args below meth c H locs 0 0 Q (F0 m 135 ls [.int y5]) := by
      intro y5 w H locs ls h hI hl
      have h := gk2 eK135 h
      refine lv_istore (lv' := [(13, .int y5), (0, .ref a0), (1, .int p1), (2, .long p2), (4, .long p3), (6, .long p4), (8, .long p5), (10, .int p6), (11, .long p7)]) hx hb d_M_tube_135 hl (by decide) rfl (fun ls hl => ?_)
      refine lv_aload_n hx hb d_M_tube_137 rfl (lv_at hl 1 rfl) ?_
      refine lv_aload_n hx hb d_M_tube_138 rfl (lv_at hl 1 rfl) ?_
      refine lv_iload_n hx hb d_M_tube_139 rfl (lv_at hl 2 rfl) ?_
      obtain ⟨q8, e9, h⟩ := gb h
      obtain ⟨u6, e7⟩ := gsome h
      refine gw_callI e7 h (gw_runV (As := [.int p1]) (rest := [.ref a0]) hx hb hml hown hT hK hZ hA hI (ci := 7) rfl e9 (m_M_isBody l hst D g0 a0 p1 w u6 e7) ce_M_isBody wd_894 wd_17 ⟨by decide, by decide⟩ rfl rfl hl.1 rfl (lv_room (Nat.le_of_ble_eq_true rfl)) d_M_tube_140 ⟨(show 0 + 0 ≤ 0 by omega), (show 0 + 0 ≤ 0 by omega)⟩) hI hA hexc (show 0 + 0 ≤ 0 by omega) (show 0 + 0 ≤ 0 by omega) (fun v10 w H locs h hI => ?_)
      obtain ⟨K160, eK160, h⟩ := gj h
      have hK160 : ∀ (y11 : Int32) (w : gW) (H : Heap) (locs : List Loc) (ls : Array Slot), K160 y11 w = some r → gI D s A w H locs → lv_has ls 15 [(0, .ref a0), (1, .int p1), (2, .long p2), (4, .long p3), (6, .long p4), (8, .long p5), (10, .int p6), (11, .long p7)] → W p l e rm_M_tube s m args below meth c H locs 0 0 Q (F0 m 160 ls [.int y11, .ref a0]) := by
        intro y11 w H locs ls h hI hl
        have h := gk2 eK160 h
        obtain ⟨w, e12, h⟩ := gb h
        refine gw_put hx hb hT hown hK hI (ci := 7) rfl i_7 t_7 t_7_ok n_7 0 (by decide) wd_786 (fun _ h9 => h9) rfl (ty := .int) (by decide +kernel) rfl rfl e12 d_M_tube_160 (fun H locs hI => ?_)
        refine lv_aload_n hx hb d_M_tube_163 rfl (lv_at hl 0 rfl) ?_
        obtain ⟨v13, e14, h⟩ := gb h
        refine gw_getI hx hb hT hown hK hI (ci := 7) rfl i_7 0 (by decide) wd_786 (fun _ h9 => h9) e14 d_M_tube_164 ?_
        refine lv_if_eq (tgt := 172) hx hb d_M_tube_167 (by decide) (fun c15 => ?_) (fun c15 => ?_)
        · skip
          have h := git c15 h
          refine lv_aload_n hx hb d_M_tube_172 rfl (lv_at hl 0 rfl) ?_
          refine lv_iload_n hx hb d_M_tube_173 rfl (lv_at hl 1 rfl) ?_
          refine lv_iconst (v := 3) hx hb d_M_tube_174 (by decide) ?_
          obtain ⟨q18, e19, h⟩ := gb h
          obtain ⟨u16, e17⟩ := gsome h
          refine gw_callI e17 h (gw_runV (As := [.int p1, .int 3]) (rest := []) hx hb hml hown hT hK hZ hA hI (ci := 7) rfl e19 (m_M_fresh l hst D g0 a0 p1 3 w u16 e17) ce_M_fresh wd_898 wd_18 ⟨by decide, by decide⟩ rfl rfl hl.1 rfl (lv_room (Nat.le_of_ble_eq_true rfl)) d_M_tube_175 ⟨(show 0 + 0 ≤ 0 by omega), (show 0 + 0 ≤ 0 by omega)⟩) hI hA hexc (show 0 + 0 ≤ 0 by omega) (show 0 + 0 ≤ 0 by omega) (fun v20 w H locs h hI => ?_)
          refine lv_istore (lv' := [(14, .int v20), (0, .ref a0), (1, .int p1), (2, .long p2), (4, .long p3), (6, .long p4), (8, .long p5), (10, .int p6), (11, .long p7)]) hx hb d_M_tube_178 hl (by decide) rfl (fun ls hl => ?_)
          refine lv_iload hx hb d_M_tube_180 (lv_at hl 0 rfl) ?_
          refine lv_iconst (v := -1) hx hb d_M_tube_182 (by decide) ?_
          refine lv_icmp_ne (tgt := 188) hx hb d_M_tube_183 (by decide) (fun c21 => ?_) (fun c21 => ?_)
          · skip
            have h := gie c21 h
            refine lv_aload_n hx hb d_M_tube_188 rfl (lv_at hl 1 rfl) ?_
            refine lv_iload hx hb d_M_tube_189 (lv_at hl 0 rfl) ?_
            refine lv_iconst (v := 0) hx hb d_M_tube_191 (by decide) ?_
            refine lv_lload hx hb d_M_tube_192 (lv_at hl 4 rfl) ?_
            obtain ⟨q24, e25, h⟩ := gb h
            obtain ⟨u22, e23⟩ := gsome h
            refine gw_callV e23 h (gw_runV (As := [.int v20, .int 0, .long p3]) (rest := []) hx hb hml hown hT hK hZ hA hI (ci := 7) rfl e25 (m_M_tell l hst D g0 a0 v20 0 p3 w u22 e23) ce_M_tell wd_902 wd_19 ⟨by decide, by decide⟩ rfl rfl hl.1 rfl (lv_room (Nat.le_of_ble_eq_true rfl)) d_M_tube_194 ⟨(show 0 + 0 ≤ 0 by omega), (show 0 + 0 ≤ 0 by omega)⟩) hI hA hexc (show 0 + 0 ≤ 0 by omega) (show 0 + 0 ≤ 0 by omega) (fun v26 w H locs h hI => ?_)
            refine lv_aload_n hx hb d_M_tube_197 rfl (lv_at hl 1 rfl) ?_
            refine lv_iload hx hb d_M_tube_198 (lv_at hl 0 rfl) ?_
            refine lv_iconst (v := 1) hx hb d_M_tube_200 (by decide) ?_
            refine lv_lload hx hb d_M_tube_201 (lv_at hl 5 rfl) ?_
            obtain ⟨q29, e30, h⟩ := gb h
            obtain ⟨u27, e28⟩ := gsome h
            refine gw_callV e28 h (gw_runV (As := [.int v20, .int 1, .long p4]) (rest := []) hx hb hml hown hT hK hZ hA hI (ci := 7) rfl e30 (m_M_tell l hst D g0 a0 v20 1 p4 w u27 e28) ce_M_tell wd_902 wd_19 ⟨by decide, by decide⟩ rfl rfl hl.1 rfl (lv_room (Nat.le_of_ble_eq_true rfl)) d_M_tube_203 ⟨(show 0 + 0 ≤ 0 by omega), (show 0 + 0 ≤ 0 by omega)⟩) hI hA hexc (show 0 + 0 ≤ 0 by omega) (show 0 + 0 ≤ 0 by omega) (fun v31 w H locs h hI => ?_)
            refine lv_aload_n hx hb d_M_tube_206 rfl (lv_at hl 1 rfl) ?_
            refine lv_iload hx hb d_M_tube_207 (lv_at hl 0 rfl) ?_
            refine lv_iconst (v := 2) hx hb d_M_tube_209 (by decide) ?_
            refine lv_lload hx hb d_M_tube_210 (lv_at hl 6 rfl) ?_
            obtain ⟨q34, e35, h⟩ := gb h
            obtain ⟨u32, e33⟩ := gsome h
            refine gw_callV e33 h (gw_runV (As := [.int v20, .int 2, .long p5]) (rest := []) hx hb hml hown hT hK hZ hA hI (ci := 7) rfl e35 (m_M_tell l hst D g0 a0 v20 2 p5 w u32 e33) ce_M_tell wd_902 wd_19 ⟨by decide, by decide⟩ rfl rfl hl.1 rfl (lv_room (Nat.le_of_ble_eq_true rfl)) d_M_tube_212 ⟨(show 0 + 0 ≤ 0 by omega), (show 0 + 0 ≤ 0 by omega)⟩) hI hA hexc (show 0 + 0 ≤ 0 by omega) (show 0 + 0 ≤ 0 by omega) (fun v36 w H locs h hI => ?_)
            refine lv_aload_n hx hb d_M_tube_215 rfl (lv_at hl 1 rfl) ?_
            refine lv_iload hx hb d_M_tube_216 (lv_at hl 0 rfl) ?_
            refine lv_iconst (v := 3) hx hb d_M_tube_218 (by decide) ?_
            refine lv_lload_n hx hb d_M_tube_219 rfl (lv_at hl 3 rfl) ?_
            obtain ⟨q39, e40, h⟩ := gb h
            obtain ⟨u37, e38⟩ := gsome h
            refine gw_callV e38 h (gw_runV (As := [.int v20, .int 3, .long p2]) (rest := []) hx hb hml hown hT hK hZ hA hI (ci := 7) rfl e40 (m_M_tell l hst D g0 a0 v20 3 p2 w u37 e38) ce_M_tell wd_902 wd_19 ⟨by decide, by decide⟩ rfl rfl hl.1 rfl (lv_room (Nat.le_of_ble_eq_true rfl)) d_M_tube_220 ⟨(show 0 + 0 ≤ 0 by omega), (show 0 + 0 ≤ 0 by omega)⟩) hI hA hexc (show 0 + 0 ≤ 0 by omega) (show 0 + 0 ≤ 0 by omega) (fun v41 w H locs h hI => ?_)
            refine lv_aload_n hx hb d_M_tube_223 rfl (lv_at hl 1 rfl) ?_
            refine lv_iload hx hb d_M_tube_224 (lv_at hl 0 rfl) ?_
            refine lv_iconst (v := 4) hx hb d_M_tube_226 (by decide) ?_
            refine lv_iload hx hb d_M_tube_227 (lv_at hl 7 rfl) ?_
            refine lv_i2l (v := p6.toInt64) hx hb d_M_tube_229 rfl ?_
            obtain ⟨q44, e45, h⟩ := gb h
            obtain ⟨u42, e43⟩ := gsome h
            refine gw_callV e43 h (gw_runV (As := [.int v20, .int 4, .long (p6.toInt64)]) (rest := []) hx hb hml hown hT hK hZ hA hI (ci := 7) rfl e45 (m_M_tell l hst D g0 a0 v20 4 (p6.toInt64) w u42 e43) ce_M_tell wd_902 wd_19 ⟨by decide, by decide⟩ rfl rfl hl.1 rfl (lv_room (Nat.le_of_ble_eq_true rfl)) d_M_tube_230 ⟨(show 0 + 0 ≤ 0 by omega), (show 0 + 0 ≤ 0 by omega)⟩) hI hA hexc (show 0 + 0 ≤ 0 by omega) (show 0 + 0 ≤ 0 by omega) (fun v46 w H locs h hI => ?_)
            refine lv_aload_n hx hb d_M_tube_233 rfl (lv_at hl 1 rfl) ?_
            refine lv_iload hx hb d_M_tube_234 (lv_at hl 0 rfl) ?_
            refine lv_iconst (v := 5) hx hb d_M_tube_236 (by decide) ?_
            refine lv_lload hx hb d_M_tube_237 (lv_at hl 8 rfl) ?_
            obtain ⟨q49, e50, h⟩ := gb h
            obtain ⟨u47, e48⟩ := gsome h
            refine gw_callV e48 h (gw_runV (As := [.int v20, .int 5, .long p7]) (rest := []) hx hb hml hown hT hK hZ hA hI (ci := 7) rfl e50 (m_M_tell l hst D g0 a0 v20 5 p7 w u47 e48) ce_M_tell wd_902 wd_19 ⟨by decide, by decide⟩ rfl rfl hl.1 rfl (lv_room (Nat.le_of_ble_eq_true rfl)) d_M_tube_239 ⟨(show 0 + 0 ≤ 0 by omega), (show 0 + 0 ≤ 0 by omega)⟩) hI hA hexc (show 0 + 0 ≤ 0 by omega) (show 0 + 0 ≤ 0 by omega) (fun v51 w H locs h hI => ?_)
            refine lv_iconst (v := 1) hx hb d_M_tube_242 (by decide) ?_
            obtain ⟨g52, h⟩ := gif h
            exact W.widen (show 0 ≤ 0 by omega) (show 0 ≤ 0 by omega) (hret g52 0 _ (Option.some.inj h).symm _ _ _ _ d_M_tube_243 hI)
          · skip
            have h := git c21 h
            refine lv_iconst (v := 0) hx hb d_M_tube_186 (by decide) ?_
            obtain ⟨g53, h⟩ := gif h
            exact W.widen (show 0 ≤ 0 by omega) (show 0 ≤ 0 by omega) (hret g53 0 _ (Option.some.inj h).symm _ _ _ _ d_M_tube_187 hI)
        · skip
          have h := gie c15 h
          refine lv_iconst (v := 0) hx hb d_M_tube_170 (by decide) ?_
          obtain ⟨g54, h⟩ := gif h
          exact W.widen (show 0 ≤ 0 by omega) (show 0 ≤ 0 by omega) (hret g54 0 _ (Option.some.inj h).symm _ _ _ _ d_M_tube_171 hI)
      refine lv_if_ne (tgt := 150) hx hb d_M_tube_143 (by decide) (fun c55 => ?_) (fun c55 => ?_)
      · skip
        have h := gie c55 h
        refine lv_iload hx hb d_M_tube_150 (lv_at hl 0 rfl) ?_
        refine lv_if_eq (tgt := 159) hx hb d_M_tube_152 (by decide) (fun c56 => ?_) (fun c56 => ?_)
        · skip
          have h := git c56 h
          refine lv_iconst (v := 2) hx hb d_M_tube_159 (by decide) ?_
          exact hK160 _ w H locs ls h hI (lv_sub hl [1, 2, 3, 4, 5, 6, 7, 8] rfl)
        · skip
          have h := gie c56 h
          refine lv_iconst (v := 0) hx hb d_M_tube_155 (by decide) ?_
          refine lv_goto (tgt := 160) hx hb d_M_tube_156 (by decide) ?_
          exact hK160 _ w H locs ls h hI (lv_sub hl [1, 2, 3, 4, 5, 6, 7, 8] rfl)
      · skip
        have h := git c55 h
        refine lv_iconst (v := 1) hx hb d_M_tube_146 (by decide) ?_
        refine lv_goto (tgt := 160) hx hb d_M_tube_147 (by decide) ?_
        exact hK160 _ w H locs ls h hI (lv_sub hl [1, 2, 3, 4, 5, 6, 7, 8] rfl)
    obtain ⟨K134, eK134, h⟩ := gj h
    have hK134 : ∀ (w : gW) (H : Heap) (locs : List Loc) (ls : Array Slot), K134 w = some r → gI D s A w H locs → lv_has ls 15 [(0, .ref a0), (1, .int p1), (2, .long p2), (4, .long p3), (6, .long p4), (8, .long p5), (10, .int p6), (11, .long p7)] → W p l e rm_M_tube s m args below meth c H locs 0 0 Q (F0 m 134 ls []) := by
      intro w H locs ls h hI hl
      have h := gk1 eK134 h
      refine lv_iconst (v := 0) hx hb d_M_tube_134 (by decide) ?_
      exact hK135 _ w H locs ls h hI (lv_sub hl [0, 1, 2, 3, 4, 5, 6, 7] rfl)
    refine lv_if_eq (tgt := 134) hx hb d_M_tube_67 (by decide) (fun c57 => ?_) (fun c57 => ?_)
    · skip
      have h := git c57 h
      exact hK134 w H locs ls h hI (lv_sub hl [1, 2, 3, 4, 5, 6, 7, 8] rfl)
    · skip
      have h := gie c57 h
      refine lv_lload hx hb d_M_tube_70 (lv_at hl 4 rfl) ?_
      refine lv_iload hx hb d_M_tube_72 (lv_at hl 7 rfl) ?_
      obtain ⟨K83, eK83, h⟩ := gj h
      have hK83 : ∀ (y58 : Int64) (w : gW) (H : Heap) (locs : List Loc) (ls : Array Slot), K83 y58 w = some r → gI D s A w H locs → lv_has ls 15 [(0, .ref a0), (1, .int p1), (2, .long p2), (4, .long p3), (6, .long p4), (8, .long p5), (10, .int p6), (11, .long p7)] → W p l e rm_M_tube s m args below meth c H locs 0 0 Q (F0 m 83 ls [.long y58, .long p3]) := by
        intro y58 w H locs ls h hI hl
        have h := gk2 eK83 h
        refine lv_ladd hx hb d_M_tube_83 ?_
        refine lv_lload hx hb d_M_tube_84 (lv_at hl 4 rfl) ?_
        refine lv_iload hx hb d_M_tube_86 (lv_at hl 6 rfl) ?_
        refine lv_iconst (v := 1) hx hb d_M_tube_88 (by decide) ?_
        obtain ⟨K98, eK98, h⟩ := gj h
        have hK98 : ∀ (y59 : Int64) (w : gW) (H : Heap) (locs : List Loc) (ls : Array Slot), K98 y59 w = some r → gI D s A w H locs → lv_has ls 15 [(0, .ref a0), (1, .int p1), (2, .long p2), (4, .long p3), (6, .long p4), (8, .long p5), (10, .int p6), (11, .long p7)] → W p l e rm_M_tube s m args below meth c H locs 0 0 Q (F0 m 98 ls [.long y59, .long p4, .long (p3 + y58)]) := by
          intro y59 w H locs ls h hI hl
          have h := gk2 eK98 h
          refine lv_ladd hx hb d_M_tube_98 ?_
          obtain ⟨u60, e61⟩ := gsome h
          refine gw_callI e61 h (gw_runS (As := [.long (p3 + y58), .long (p4 + y59)]) (rest := []) hx hb hml hown hT hK hZ hA hI (m_M_isPlace l hst D g0 (p3 + y58) (p4 + y59) w u60 e61) ce_M_isPlace wd_880 ⟨by decide, by decide⟩ rfl rfl hl.1 rfl (lv_room (Nat.le_of_ble_eq_true rfl)) d_M_tube_99 ⟨(show 0 + 0 ≤ 0 by omega), (show 0 + 0 ≤ 0 by omega)⟩) hI hA hexc (show 0 + 0 ≤ 0 by omega) (show 0 + 0 ≤ 0 by omega) (fun v62 w H locs h hI => ?_)
          refine lv_if_eq (tgt := 134) hx hb d_M_tube_102 (by decide) (fun c63 => ?_) (fun c63 => ?_)
          · skip
            have h := git c63 h
            exact hK134 w H locs ls h hI (lv_sub hl [0, 1, 2, 3, 4, 5, 6, 7] rfl)
          · skip
            have h := gie c63 h
            refine lv_lload hx hb d_M_tube_105 (lv_at hl 5 rfl) ?_
            refine lv_iload hx hb d_M_tube_107 (lv_at hl 6 rfl) ?_
            refine lv_iconst (v := 2) hx hb d_M_tube_109 (by decide) ?_
            obtain ⟨K119, eK119, h⟩ := gj h
            have hK119 : ∀ (y64 : Int64) (w : gW) (H : Heap) (locs : List Loc) (ls : Array Slot), K119 y64 w = some r → gI D s A w H locs → lv_has ls 15 [(0, .ref a0), (1, .int p1), (2, .long p2), (4, .long p3), (6, .long p4), (8, .long p5), (10, .int p6), (11, .long p7)] → W p l e rm_M_tube s m args below meth c H locs 0 0 Q (F0 m 119 ls [.long y64, .long p5]) := by
              intro y64 w H locs ls h hI hl
              have h := gk2 eK119 h
              refine lv_ladd hx hb d_M_tube_119 ?_
              refine lv_lload_n hx hb d_M_tube_120 rfl (lv_at hl 2 rfl) ?_
              refine lv_ldc2 (v := 5000) hx hb hown (hT _ wd_884 args) d_M_tube_121 ?_
              obtain ⟨u65, e66⟩ := gsome h
              refine gw_callI e66 h (gw_runS (As := [.long (p5 + y64), .long p2, .long 5000]) (rest := []) hx hb hml hown hT hK hZ hA hI (m_M_within l hst D g0 (p5 + y64) p2 5000 w u65 e66) ce_M_within wd_885 ⟨by decide, by decide⟩ rfl rfl hl.1 rfl (lv_room (Nat.le_of_ble_eq_true rfl)) d_M_tube_124 ⟨(show 0 + 0 ≤ 0 by omega), (show 0 + 0 ≤ 0 by omega)⟩) hI hA hexc (show 0 + 0 ≤ 0 by omega) (show 0 + 0 ≤ 0 by omega) (fun v67 w H locs h hI => ?_)
              refine lv_if_eq (tgt := 134) hx hb d_M_tube_127 (by decide) (fun c68 => ?_) (fun c68 => ?_)
              · skip
                have h := git c68 h
                exact hK134 w H locs ls h hI (lv_sub hl [0, 1, 2, 3, 4, 5, 6, 7] rfl)
              · skip
                have h := gie c68 h
                refine lv_iconst (v := 1) hx hb d_M_tube_130 (by decide) ?_
                refine lv_goto (tgt := 135) hx hb d_M_tube_131 (by decide) ?_
                exact hK135 _ w H locs ls h hI (lv_sub hl [0, 1, 2, 3, 4, 5, 6, 7] rfl)
            refine lv_icmp_ne (tgt := 118) hx hb d_M_tube_110 (by decide) (fun c69 => ?_) (fun c69 => ?_)
            · skip
              have h := gie c69 h
              refine lv_lconst (v := 0) hx hb d_M_tube_118 (by decide) ?_
              exact hK119 _ w H locs ls h hI (lv_sub hl [0, 1, 2, 3, 4, 5, 6, 7] rfl)
            · skip
              have h := git c69 h
              refine lv_lload hx hb d_M_tube_113 (lv_at hl 7 rfl) ?_
              refine lv_goto (tgt := 119) hx hb d_M_tube_115 (by decide) ?_
              exact hK119 _ w H locs ls h hI (lv_sub hl [0, 1, 2, 3, 4, 5, 6, 7] rfl)
        refine lv_icmp_ne (tgt := 97) hx hb d_M_tube_89 (by decide) (fun c70 => ?_) (fun c70 => ?_)
        · skip
          have h := gie c70 h
          refine lv_lconst (v := 0) hx hb d_M_tube_97 (by decide) ?_
          exact hK98 _ w H locs ls h hI (lv_sub hl [0, 1, 2, 3, 4, 5, 6, 7] rfl)
        · skip
          have h := git c70 h
          refine lv_lload hx hb d_M_tube_92 (lv_at hl 7 rfl) ?_
          refine lv_goto (tgt := 98) hx hb d_M_tube_94 (by decide) ?_
          exact hK98 _ w H locs ls h hI (lv_sub hl [0, 1, 2, 3, 4, 5, 6, 7] rfl)
      refine lv_if_ne (tgt := 82) hx hb d_M_tube_74 (by decide) (fun c71 => ?_) (fun c71 => ?_)
      · skip
        have h := gie c71 h
        refine lv_lconst (v := 0) hx hb d_M_tube_82 (by decide) ?_
        exact hK83 _ w H locs ls h hI (lv_sub hl [1, 2, 3, 4, 5, 6, 7, 8] rfl)
      · skip
        have h := git c71 h
        refine lv_lload hx hb d_M_tube_77 (lv_at hl 8 rfl) ?_
        refine lv_goto (tgt := 83) hx hb d_M_tube_79 (by decide) ?_
        exact hK83 _ w H locs ls h hI (lv_sub hl [1, 2, 3, 4, 5, 6, 7, 8] rfl)
  obtain ⟨K62, eK62, h⟩ := gj h
  have hK62 : ∀ (w : gW) (H : Heap) (locs : List Loc) (ls : Array Slot), K62 w = some r → gI D s A w H locs → lv_has ls 15 [(0, .ref a0), (1, .int p1), (2, .long p2), (4, .long p3), (6, .long p4), (8, .long p5), (10, .int p6), (11, .long p7)] → W p l e rm_M_tube s m args below meth c H locs 0 0 Q (F0 m 62 ls []) := by
    intro w H locs ls h hI hl
    have h := gk1 eK62 h
    refine lv_iconst (v := 0) hx hb d_M_tube_62 (by decide) ?_
    exact hK63 _ w H locs ls h hI (lv_sub hl [0, 1, 2, 3, 4, 5, 6, 7] rfl)
  refine lv_if_eq (tgt := 62) hx hb d_M_tube_8 (by decide) (fun c72 => ?_) (fun c72 => ?_)
  · skip
    have h := git c72 h
    exact hK62 w H locs ls h hI (lv_sub hl [0, 1, 2, 3, 4, 5, 6, 7] rfl)
  · skip
    have h := gie c72 h
    refine lv_lload hx hb d_M_tube_11 (lv_at hl 3 rfl) ?_
    refine lv_lload hx hb d_M_tube_13 (lv_at hl 4 rfl) ?_
    obtain ⟨u73, e74⟩ := gsome h
    refine gw_callI e74 h (gw_runS (As := [.long p3, .long p4]) (rest := []) hx hb hml hown hT hK hZ hA hI (m_M_isPlace l hst D g0 p3 p4 w u73 e74) ce_M_isPlace wd_880 ⟨by decide, by decide⟩ rfl rfl hl.1 rfl (lv_room (Nat.le_of_ble_eq_true rfl)) d_M_tube_15 ⟨(show 0 + 0 ≤ 0 by omega), (show 0 + 0 ≤ 0 by omega)⟩) hI hA hexc (show 0 + 0 ≤ 0 by omega) (show 0 + 0 ≤ 0 by omega) (fun v75 w H locs h hI => ?_)
    refine lv_if_eq (tgt := 62) hx hb d_M_tube_18 (by decide) (fun c76 => ?_) (fun c76 => ?_)
    · skip
      have h := git c76 h
      exact hK62 w H locs ls h hI (lv_sub hl [0, 1, 2, 3, 4, 5, 6, 7] rfl)
    · skip
      have h := gie c76 h
      refine lv_lload hx hb d_M_tube_21 (lv_at hl 5 rfl) ?_
      refine lv_lload_n hx hb d_M_tube_23 rfl (lv_at hl 2 rfl) ?_
      refine lv_ldc2 (v := 5000) hx hb hown (hT _ wd_884 args) d_M_tube_24 ?_
      obtain ⟨u77, e78⟩ := gsome h
      refine gw_callI e78 h (gw_runS (As := [.long p5, .long p2, .long 5000]) (rest := []) hx hb hml hown hT hK hZ hA hI (m_M_within l hst D g0 p5 p2 5000 w u77 e78) ce_M_within wd_885 ⟨by decide, by decide⟩ rfl rfl hl.1 rfl (lv_room (Nat.le_of_ble_eq_true rfl)) d_M_tube_27 ⟨(show 0 + 0 ≤ 0 by omega), (show 0 + 0 ≤ 0 by omega)⟩) hI hA hexc (show 0 + 0 ≤ 0 by omega) (show 0 + 0 ≤ 0 by omega) (fun v79 w H locs h hI => ?_)
      refine lv_if_eq (tgt := 62) hx hb d_M_tube_30 (by decide) (fun c80 => ?_) (fun c80 => ?_)
      · skip
        have h := git c80 h
        exact hK62 w H locs ls h hI (lv_sub hl [0, 1, 2, 3, 4, 5, 6, 7] rfl)
      · skip
        have h := gie c80 h
        refine lv_iload hx hb d_M_tube_33 (lv_at hl 6 rfl) ?_
        refine lv_if_lt (tgt := 62) hx hb d_M_tube_35 (by decide) (fun c81 => ?_) (fun c81 => ?_)
        · skip
          have h := git c81 h
          exact hK62 w H locs ls h hI (lv_sub hl [0, 1, 2, 3, 4, 5, 6, 7] rfl)
        · skip
          have h := gie c81 h
          refine lv_iload hx hb d_M_tube_38 (lv_at hl 6 rfl) ?_
          refine lv_iconst (v := 3) hx hb d_M_tube_40 (by decide) ?_
          refine lv_icmp_ge (tgt := 62) hx hb d_M_tube_41 (by decide) (fun c82 => ?_) (fun c82 => ?_)
          · skip
            have h := git c82 h
            exact hK62 w H locs ls h hI (lv_sub hl [0, 1, 2, 3, 4, 5, 6, 7] rfl)
          · skip
            have h := gie c82 h
            refine lv_lload hx hb d_M_tube_44 (lv_at hl 7 rfl) ?_
            refine lv_ldc2 (v := (-10000)) hx hb hown (hT _ wd_930 args) d_M_tube_46 ?_
            refine lv_ldc2 (v := 10000) hx hb hown (hT _ wd_931 args) d_M_tube_49 ?_
            obtain ⟨u83, e84⟩ := gsome h
            refine gw_callI e84 h (gw_runS (As := [.long p7, .long (-10000), .long 10000]) (rest := []) hx hb hml hown hT hK hZ hA hI (m_M_within l hst D g0 p7 (-10000) 10000 w u83 e84) ce_M_within wd_885 ⟨by decide, by decide⟩ rfl rfl hl.1 rfl (lv_room (Nat.le_of_ble_eq_true rfl)) d_M_tube_52 ⟨(show 0 + 0 ≤ 0 by omega), (show 0 + 0 ≤ 0 by omega)⟩) hI hA hexc (show 0 + 0 ≤ 0 by omega) (show 0 + 0 ≤ 0 by omega) (fun v85 w H locs h hI => ?_)
            refine lv_if_eq (tgt := 62) hx hb d_M_tube_55 (by decide) (fun c86 => ?_) (fun c86 => ?_)
            · skip
              have h := git c86 h
              exact hK62 w H locs ls h hI (lv_sub hl [0, 1, 2, 3, 4, 5, 6, 7] rfl)
            · skip
              have h := gie c86 h
              refine lv_iconst (v := 1) hx hb d_M_tube_58 (by decide) ?_
              refine lv_goto (tgt := 63) hx hb d_M_tube_59 (by decide) ?_
              exact hK63 _ w H locs ls h hI (lv_sub hl [0, 1, 2, 3, 4, 5, 6, 7] rfl)
