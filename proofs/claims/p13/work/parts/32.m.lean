abbrev b_Me_outlines : ByteArray := prog_5_method_6_code
def y_Me_outlines : MethodName := ⟨"BodySolids$Meeting", "outlines", "(LBodySolids$Solid;LBodySolids$Solid;)I"⟩
theorem d_Me_outlines_0 : decode b_Me_outlines 0 = .ok (.aload_n 0, 1) := by decide +kernel
theorem d_Me_outlines_1 : decode b_Me_outlines 1 = .ok (.getfield 18, 3) := by decide +kernel
theorem d_Me_outlines_4 : decode b_Me_outlines 4 = .ok (.aload_n 0, 1) := by decide +kernel
theorem d_Me_outlines_5 : decode b_Me_outlines 5 = .ok (.getfield 21, 3) := by decide +kernel
theorem d_Me_outlines_8 : decode b_Me_outlines 8 = .ok (.aload_n 1, 1) := by decide +kernel
theorem d_Me_outlines_9 : decode b_Me_outlines 9 = .ok (.getfield 18, 3) := by decide +kernel
theorem d_Me_outlines_12 : decode b_Me_outlines 12 = .ok (.aload_n 1, 1) := by decide +kernel
theorem d_Me_outlines_13 : decode b_Me_outlines 13 = .ok (.getfield 21, 3) := by decide +kernel
theorem d_Me_outlines_16 : decode b_Me_outlines 16 = .ok (.invokestatic 24, 3) := by decide +kernel
theorem d_Me_outlines_19 : decode b_Me_outlines 19 = .ok (.lstore_n 2, 1) := by decide +kernel
theorem d_Me_outlines_20 : decode b_Me_outlines 20 = .ok (.aload_n 0, 1) := by decide +kernel
theorem d_Me_outlines_21 : decode b_Me_outlines 21 = .ok (.getfield 30, 3) := by decide +kernel
theorem d_Me_outlines_24 : decode b_Me_outlines 24 = .ok (.aload_n 0, 1) := by decide +kernel
theorem d_Me_outlines_25 : decode b_Me_outlines 25 = .ok (.getfield 33, 3) := by decide +kernel
theorem d_Me_outlines_28 : decode b_Me_outlines 28 = .ok (.aload_n 1, 1) := by decide +kernel
theorem d_Me_outlines_29 : decode b_Me_outlines 29 = .ok (.getfield 30, 3) := by decide +kernel
theorem d_Me_outlines_32 : decode b_Me_outlines 32 = .ok (.aload_n 1, 1) := by decide +kernel
theorem d_Me_outlines_33 : decode b_Me_outlines 33 = .ok (.getfield 33, 3) := by decide +kernel
theorem d_Me_outlines_36 : decode b_Me_outlines 36 = .ok (.invokestatic 24, 3) := by decide +kernel
theorem d_Me_outlines_39 : decode b_Me_outlines 39 = .ok (.lstore 4, 2) := by decide +kernel
theorem d_Me_outlines_41 : decode b_Me_outlines 41 = .ok (.lload_n 2, 1) := by decide +kernel
theorem d_Me_outlines_42 : decode b_Me_outlines 42 = .ok (.lload 4, 2) := by decide +kernel
theorem d_Me_outlines_44 : decode b_Me_outlines 44 = .ok (.invokestatic 68, 3) := by decide +kernel
theorem d_Me_outlines_47 : decode b_Me_outlines 47 = .ok (.invokestatic 50, 3) := by decide +kernel
theorem d_Me_outlines_50 : decode b_Me_outlines 50 = .ok (.istore 6, 2) := by decide +kernel
theorem d_Me_outlines_52 : decode b_Me_outlines 52 = .ok (.aload_n 0, 1) := by decide +kernel
theorem d_Me_outlines_53 : decode b_Me_outlines 53 = .ok (.getfield 71, 3) := by decide +kernel
theorem d_Me_outlines_56 : decode b_Me_outlines 56 = .ok (.iconst 2, 1) := by decide +kernel
theorem d_Me_outlines_57 : decode b_Me_outlines 57 = .ok (.if_icmp .ne 21, 3) := by decide +kernel
theorem d_Me_outlines_60 : decode b_Me_outlines 60 = .ok (.iload 6, 2) := by decide +kernel
theorem d_Me_outlines_62 : decode b_Me_outlines 62 = .ok (.iconst 1, 1) := by decide +kernel
theorem d_Me_outlines_63 : decode b_Me_outlines 63 = .ok (.if_icmp .eq 15, 3) := by decide +kernel
theorem d_Me_outlines_66 : decode b_Me_outlines 66 = .ok (.iload 6, 2) := by decide +kernel
theorem d_Me_outlines_68 : decode b_Me_outlines 68 = .ok (.aload_n 0, 1) := by decide +kernel
theorem d_Me_outlines_69 : decode b_Me_outlines 69 = .ok (.aload_n 1, 1) := by decide +kernel
theorem d_Me_outlines_70 : decode b_Me_outlines 70 = .ok (.invokestatic 75, 3) := by decide +kernel
theorem d_Me_outlines_73 : decode b_Me_outlines 73 = .ok (.invokestatic 54, 3) := by decide +kernel
theorem d_Me_outlines_76 : decode b_Me_outlines 76 = .ok (.istore 6, 2) := by decide +kernel
theorem d_Me_outlines_78 : decode b_Me_outlines 78 = .ok (.aload_n 1, 1) := by decide +kernel
theorem d_Me_outlines_79 : decode b_Me_outlines 79 = .ok (.getfield 71, 3) := by decide +kernel
theorem d_Me_outlines_82 : decode b_Me_outlines 82 = .ok (.iconst 2, 1) := by decide +kernel
theorem d_Me_outlines_83 : decode b_Me_outlines 83 = .ok (.if_icmp .ne 21, 3) := by decide +kernel
theorem d_Me_outlines_86 : decode b_Me_outlines 86 = .ok (.iload 6, 2) := by decide +kernel
theorem d_Me_outlines_88 : decode b_Me_outlines 88 = .ok (.iconst 1, 1) := by decide +kernel
theorem d_Me_outlines_89 : decode b_Me_outlines 89 = .ok (.if_icmp .eq 15, 3) := by decide +kernel
theorem d_Me_outlines_92 : decode b_Me_outlines 92 = .ok (.iload 6, 2) := by decide +kernel
theorem d_Me_outlines_94 : decode b_Me_outlines 94 = .ok (.aload_n 1, 1) := by decide +kernel
theorem d_Me_outlines_95 : decode b_Me_outlines 95 = .ok (.aload_n 0, 1) := by decide +kernel
theorem d_Me_outlines_96 : decode b_Me_outlines 96 = .ok (.invokestatic 75, 3) := by decide +kernel
theorem d_Me_outlines_99 : decode b_Me_outlines 99 = .ok (.invokestatic 54, 3) := by decide +kernel
theorem d_Me_outlines_102 : decode b_Me_outlines 102 = .ok (.istore 6, 2) := by decide +kernel
theorem d_Me_outlines_104 : decode b_Me_outlines 104 = .ok (.iload 6, 2) := by decide +kernel
theorem d_Me_outlines_106 : decode b_Me_outlines 106 = .ok (.ireturn, 1) := by decide +kernel
abbrev rm_Me_outlines : Room := { frames := 2, cells := 0, slots := 0, locals := 53 }
theorem ce_Me_outlines : gCe y_Me_outlines (.code y_Me_outlines b_Me_outlines 7 (some .int)) 7 2 true := gCe.code wd_382 wd_69 wd_381 (by decide) (by decide +kernel)
def f_Me_outlines (g0 : gG) (a0 : Nat) (a1 : Nat) (w : gW) : gX Int32 := (gfJ w a0 3 6).bind fun v1 => (gfJ w a0 3 9).bind fun v3 => (gfJ w a1 3 6).bind fun v5 => (gfJ w a1 3 9).bind fun v7 => gbind (f_Me_gap g0 v1 v3 v5 v7 w) fun v11 w => (gfJ w a0 3 7).bind fun v12 => (gfJ w a0 3 10).bind fun v14 => (gfJ w a1 3 7).bind fun v16 => (gfJ w a1 3 10).bind fun v18 => gbind (f_Me_gap g0 v12 v14 v16 v18 w) fun v22 w => gbind (f_Ma_max2 g0 v11 v22 w) fun v25 w => gbind (f_Me_sign g0 v25 w) fun v28 w => (gfI w a0 3 0).bind fun v29 => gjoin (fun K78 => if v29 = 2 then (if v28 = 1 then (K78 v28 w) else (gbind (f_Me_partedBySides g0 a0 a1 w) fun v47 w => gbind (f_Ma_max g0 v28 v47 w) fun v50 w => K78 v50 w)) else (K78 v28 w)) (fun (x31 : Int32) (w : gW) => (gfI w a1 3 0).bind fun v32 => gjoin (fun K104 => if v32 = 2 then (if x31 = 1 then (K104 x31 w) else (gbind (f_Me_partedBySides g0 a1 a0 w) fun v39 w => gbind (f_Ma_max g0 x31 v39 w) fun v42 w => K104 v42 w)) else (K104 x31 w)) (fun (x34 : Int32) (w : gW) => some (.inr x34, w)))
set_option maxHeartbeats 4000000 in
set_option maxRecDepth 100000 in
theorem m_Me_outlines (l : Launch) (hst : l.stackTraces = false) (D : gD) (g0 : gG) (a0 : Nat) (a1 : Nat) (w : gW) (r : (String ⊕ Int32) × gW) (h : f_Me_outlines g0 a0 a1 w = some r) : gMet l y_Me_outlines (.code y_Me_outlines b_Me_outlines 7 (some .int)) rm_Me_outlines D g0 [.ref a0, .ref a1] w (goI r) := by
  refine gw_ofI (by decide +kernel) (Nat.le_of_ble_eq_true rfl) ?_
  intro p e s m below meth c ls args A Q hx hb hml hown hlocks hin hnt hT hK hZ hA hret hexc hthr hI hl
  obtain ⟨H, hH⟩ : ∃ H, H = s.heap := ⟨_, rfl⟩
  rw [← hH] at hI ⊢
  obtain ⟨locs, hlocs⟩ : ∃ z : List Loc, z = [] := ⟨_, rfl⟩
  rw [← hlocs] at hI ⊢
  have hl : lv_has ls 7 [(0, .ref a0), (1, .ref a1)] := hl
  unfold f_Me_outlines at h
  refine lv_aload_n hx hb d_Me_outlines_0 rfl (lv_at hl 0 rfl) ?_
  obtain ⟨v1, e2, h⟩ := gb h
  refine gw_getJ hx hb hT hown hK hI (ci := 3) rfl i_3 6 (by decide) wd_141 (fun _ h9 => h9) e2 d_Me_outlines_1 ?_
  refine lv_aload_n hx hb d_Me_outlines_4 rfl (lv_at hl 0 rfl) ?_
  obtain ⟨v3, e4, h⟩ := gb h
  refine gw_getJ hx hb hT hown hK hI (ci := 3) rfl i_3 9 (by decide) wd_147 (fun _ h9 => h9) e4 d_Me_outlines_5 ?_
  refine lv_aload_n hx hb d_Me_outlines_8 rfl (lv_at hl 1 rfl) ?_
  obtain ⟨v5, e6, h⟩ := gb h
  refine gw_getJ hx hb hT hown hK hI (ci := 3) rfl i_3 6 (by decide) wd_141 (fun _ h9 => h9) e6 d_Me_outlines_9 ?_
  refine lv_aload_n hx hb d_Me_outlines_12 rfl (lv_at hl 1 rfl) ?_
  obtain ⟨v7, e8, h⟩ := gb h
  refine gw_getJ hx hb hT hown hK hI (ci := 3) rfl i_3 9 (by decide) wd_147 (fun _ h9 => h9) e8 d_Me_outlines_13 ?_
  obtain ⟨u9, e10⟩ := gsome h
  refine gw_callJ e10 h (gw_runS (As := [.long v1, .long v3, .long v5, .long v7]) (rest := []) hx hb hml hown hT hK hZ hA hI (m_Me_gap l hst D g0 v1 v3 v5 v7 w u9 e10) ce_Me_gap wd_376 ⟨by decide, by decide⟩ rfl rfl hl.1 rfl (lv_room (Nat.le_of_ble_eq_true rfl)) d_Me_outlines_16 ⟨(show 0 + 0 ≤ 0 by omega), (show 0 + 0 ≤ 0 by omega)⟩) hI hA hexc (show 0 + 0 ≤ 0 by omega) (show 0 + 0 ≤ 0 by omega) (fun v11 w H locs h hI => ?_)
  refine lv_lstore_n (lv' := [(2, .long v11), (0, .ref a0), (1, .ref a1)]) hx hb d_Me_outlines_19 rfl hl (by decide) rfl (fun ls hl => ?_)
  refine lv_aload_n hx hb d_Me_outlines_20 rfl (lv_at hl 1 rfl) ?_
  obtain ⟨v12, e13, h⟩ := gb h
  refine gw_getJ hx hb hT hown hK hI (ci := 3) rfl i_3 7 (by decide) wd_143 (fun _ h9 => h9) e13 d_Me_outlines_21 ?_
  refine lv_aload_n hx hb d_Me_outlines_24 rfl (lv_at hl 1 rfl) ?_
  obtain ⟨v14, e15, h⟩ := gb h
  refine gw_getJ hx hb hT hown hK hI (ci := 3) rfl i_3 10 (by decide) wd_149 (fun _ h9 => h9) e15 d_Me_outlines_25 ?_
  refine lv_aload_n hx hb d_Me_outlines_28 rfl (lv_at hl 2 rfl) ?_
  obtain ⟨v16, e17, h⟩ := gb h
  refine gw_getJ hx hb hT hown hK hI (ci := 3) rfl i_3 7 (by decide) wd_143 (fun _ h9 => h9) e17 d_Me_outlines_29 ?_
  refine lv_aload_n hx hb d_Me_outlines_32 rfl (lv_at hl 2 rfl) ?_
  obtain ⟨v18, e19, h⟩ := gb h
  refine gw_getJ hx hb hT hown hK hI (ci := 3) rfl i_3 10 (by decide) wd_149 (fun _ h9 => h9) e19 d_Me_outlines_33 ?_
  obtain ⟨u20, e21⟩ := gsome h
  refine gw_callJ e21 h (gw_runS (As := [.long v12, .long v14, .long v16, .long v18]) (rest := []) hx hb hml hown hT hK hZ hA hI (m_Me_gap l hst D g0 v12 v14 v16 v18 w u20 e21) ce_Me_gap wd_376 ⟨by decide, by decide⟩ rfl rfl hl.1 rfl (lv_room (Nat.le_of_ble_eq_true rfl)) d_Me_outlines_36 ⟨(show 0 + 0 ≤ 0 by omega), (show 0 + 0 ≤ 0 by omega)⟩) hI hA hexc (show 0 + 0 ≤ 0 by omega) (show 0 + 0 ≤ 0 by omega) (fun v22 w H locs h hI => ?_)
  refine lv_lstore (lv' := [(4, .long v22), (2, .long v11), (0, .ref a0), (1, .ref a1)]) hx hb d_Me_outlines_39 hl (by decide) rfl (fun ls hl => ?_)
  refine lv_lload_n hx hb d_Me_outlines_41 rfl (lv_at hl 1 rfl) ?_
  refine lv_lload hx hb d_Me_outlines_42 (lv_at hl 0 rfl) ?_
  obtain ⟨u23, e24⟩ := gsome h
  refine gw_callJ e24 h (gw_runS (As := [.long v11, .long v22]) (rest := []) hx hb hml hown hT hK hZ hA hI (m_Ma_max2 l hst D g0 v11 v22 w u23 e24) ce_Ma_max2 wd_379 ⟨by decide, by decide⟩ rfl rfl hl.1 rfl (lv_room (Nat.le_of_ble_eq_true rfl)) d_Me_outlines_44 ⟨(show 0 + 0 ≤ 0 by omega), (show 0 + 0 ≤ 0 by omega)⟩) hI hA hexc (show 0 + 0 ≤ 0 by omega) (show 0 + 0 ≤ 0 by omega) (fun v25 w H locs h hI => ?_)
  obtain ⟨u26, e27⟩ := gsome h
  refine gw_callI e27 h (gw_runS (As := [.long v25]) (rest := []) hx hb hml hown hT hK hZ hA hI (m_Me_sign l hst D g0 v25 w u26 e27) ce_Me_sign wd_383 ⟨by decide, by decide⟩ rfl rfl hl.1 rfl (lv_room (Nat.le_of_ble_eq_true rfl)) d_Me_outlines_47 ⟨(show 0 + 0 ≤ 0 by omega), (show 0 + 0 ≤ 0 by omega)⟩) hI hA hexc (show 0 + 0 ≤ 0 by omega) (show 0 + 0 ≤ 0 by omega) (fun v28 w H locs h hI => ?_)
  refine lv_istore (lv' := [(6, .int v28), (4, .long v22), (2, .long v11), (0, .ref a0), (1, .ref a1)]) hx hb d_Me_outlines_50 hl (by decide) rfl (fun ls hl => ?_)
  refine lv_aload_n hx hb d_Me_outlines_52 rfl (lv_at hl 3 rfl) ?_
  obtain ⟨v29, e30, h⟩ := gb h
  refine gw_getI hx hb hT hown hK hI (ci := 3) rfl i_3 0 (by decide) wd_130 (fun _ h9 => h9) e30 d_Me_outlines_53 ?_
  refine lv_iconst (v := 2) hx hb d_Me_outlines_56 (by decide) ?_
  obtain ⟨K78, eK78, h⟩ := gj h
  have hK78 : ∀ (x31 : Int32) (w : gW) (H : Heap) (locs : List Loc) (ls : Array Slot), K78 x31 w = some r → gI D s A w H locs → lv_has ls 7 [(0, .ref a0), (1, .ref a1), (6, .int x31)] → W p l e rm_Me_outlines s m args below meth c H locs 0 0 Q (F0 m 78 ls []) := by
    intro x31 w H locs ls h hI hl
    have h := gk2 eK78 h
    refine lv_aload_n hx hb d_Me_outlines_78 rfl (lv_at hl 1 rfl) ?_
    obtain ⟨v32, e33, h⟩ := gb h
    refine gw_getI hx hb hT hown hK hI (ci := 3) rfl i_3 0 (by decide) wd_130 (fun _ h9 => h9) e33 d_Me_outlines_79 ?_
    refine lv_iconst (v := 2) hx hb d_Me_outlines_82 (by decide) ?_
    obtain ⟨K104, eK104, h⟩ := gj h
    have hK104 : ∀ (x34 : Int32) (w : gW) (H : Heap) (locs : List Loc) (ls : Array Slot), K104 x34 w = some r → gI D s A w H locs → lv_has ls 7 [(6, .int x34)] → W p l e rm_Me_outlines s m args below meth c H locs 0 0 Q (F0 m 104 ls []) := by
      intro x34 w H locs ls h hI hl
      have h := gk2 eK104 h
      refine lv_iload hx hb d_Me_outlines_104 (lv_at hl 0 rfl) ?_
      exact W.widen (show 0 ≤ 0 by omega) (show 0 ≤ 0 by omega) (hret _ _ (Option.some.inj h).symm _ _ _ _ d_Me_outlines_106 hI)
    refine lv_icmp_ne (tgt := 104) hx hb d_Me_outlines_83 (by decide) (fun c35 => ?_) (fun c35 => ?_)
    · skip
      have h := gie c35 h
      exact hK104 _ w H locs ls h hI (lv_sub hl [2] rfl)
    · skip
      have h := git c35 h
      refine lv_iload hx hb d_Me_outlines_86 (lv_at hl 2 rfl) ?_
      refine lv_iconst (v := 1) hx hb d_Me_outlines_88 (by decide) ?_
      refine lv_icmp_eq (tgt := 104) hx hb d_Me_outlines_89 (by decide) (fun c36 => ?_) (fun c36 => ?_)
      · skip
        have h := git c36 h
        exact hK104 _ w H locs ls h hI (lv_sub hl [2] rfl)
      · skip
        have h := gie c36 h
        refine lv_iload hx hb d_Me_outlines_92 (lv_at hl 2 rfl) ?_
        refine lv_aload_n hx hb d_Me_outlines_94 rfl (lv_at hl 1 rfl) ?_
        refine lv_aload_n hx hb d_Me_outlines_95 rfl (lv_at hl 0 rfl) ?_
        obtain ⟨u37, e38⟩ := gsome h
        refine gw_callI e38 h (gw_runS (As := [.ref a1, .ref a0]) (rest := [.int x31]) hx hb hml hown hT hK hZ hA hI (m_Me_partedBySides l hst D g0 a1 a0 w u37 e38) ce_Me_partedBySides wd_386 ⟨by decide, by decide⟩ rfl rfl hl.1 rfl (lv_room (Nat.le_of_ble_eq_true rfl)) d_Me_outlines_96 ⟨(show 0 + 0 ≤ 0 by omega), (show 0 + 0 ≤ 0 by omega)⟩) hI hA hexc (show 0 + 0 ≤ 0 by omega) (show 0 + 0 ≤ 0 by omega) (fun v39 w H locs h hI => ?_)
        obtain ⟨u40, e41⟩ := gsome h
        refine gw_callI e41 h (gw_runS (As := [.int x31, .int v39]) (rest := []) hx hb hml hown hT hK hZ hA hI (m_Ma_max l hst D g0 x31 v39 w u40 e41) ce_Ma_max wd_390 ⟨by decide, by decide⟩ rfl rfl hl.1 rfl (lv_room (Nat.le_of_ble_eq_true rfl)) d_Me_outlines_99 ⟨(show 0 + 0 ≤ 0 by omega), (show 0 + 0 ≤ 0 by omega)⟩) hI hA hexc (show 0 + 0 ≤ 0 by omega) (show 0 + 0 ≤ 0 by omega) (fun v42 w H locs h hI => ?_)
        refine lv_istore (lv' := [(6, .int v42), (0, .ref a0), (1, .ref a1)]) hx hb d_Me_outlines_102 hl (by decide) rfl (fun ls hl => ?_)
        exact hK104 _ w H locs ls h hI (lv_sub hl [0] rfl)
  refine lv_icmp_ne (tgt := 78) hx hb d_Me_outlines_57 (by decide) (fun c43 => ?_) (fun c43 => ?_)
  · skip
    have h := gie c43 h
    exact hK78 _ w H locs ls h hI (lv_sub hl [3, 4, 0] rfl)
  · skip
    have h := git c43 h
    refine lv_iload hx hb d_Me_outlines_60 (lv_at hl 0 rfl) ?_
    refine lv_iconst (v := 1) hx hb d_Me_outlines_62 (by decide) ?_
    refine lv_icmp_eq (tgt := 78) hx hb d_Me_outlines_63 (by decide) (fun c44 => ?_) (fun c44 => ?_)
    · skip
      have h := git c44 h
      exact hK78 _ w H locs ls h hI (lv_sub hl [3, 4, 0] rfl)
    · skip
      have h := gie c44 h
      refine lv_iload hx hb d_Me_outlines_66 (lv_at hl 0 rfl) ?_
      refine lv_aload_n hx hb d_Me_outlines_68 rfl (lv_at hl 3 rfl) ?_
      refine lv_aload_n hx hb d_Me_outlines_69 rfl (lv_at hl 4 rfl) ?_
      obtain ⟨u45, e46⟩ := gsome h
      refine gw_callI e46 h (gw_runS (As := [.ref a0, .ref a1]) (rest := [.int v28]) hx hb hml hown hT hK hZ hA hI (m_Me_partedBySides l hst D g0 a0 a1 w u45 e46) ce_Me_partedBySides wd_386 ⟨by decide, by decide⟩ rfl rfl hl.1 rfl (lv_room (Nat.le_of_ble_eq_true rfl)) d_Me_outlines_70 ⟨(show 0 + 0 ≤ 0 by omega), (show 0 + 0 ≤ 0 by omega)⟩) hI hA hexc (show 0 + 0 ≤ 0 by omega) (show 0 + 0 ≤ 0 by omega) (fun v47 w H locs h hI => ?_)
      obtain ⟨u48, e49⟩ := gsome h
      refine gw_callI e49 h (gw_runS (As := [.int v28, .int v47]) (rest := []) hx hb hml hown hT hK hZ hA hI (m_Ma_max l hst D g0 v28 v47 w u48 e49) ce_Ma_max wd_390 ⟨by decide, by decide⟩ rfl rfl hl.1 rfl (lv_room (Nat.le_of_ble_eq_true rfl)) d_Me_outlines_73 ⟨(show 0 + 0 ≤ 0 by omega), (show 0 + 0 ≤ 0 by omega)⟩) hI hA hexc (show 0 + 0 ≤ 0 by omega) (show 0 + 0 ≤ 0 by omega) (fun v50 w H locs h hI => ?_)
      refine lv_istore (lv' := [(6, .int v50), (4, .long v22), (2, .long v11), (0, .ref a0), (1, .ref a1)]) hx hb d_Me_outlines_76 hl (by decide) rfl (fun ls hl => ?_)
      exact hK78 _ w H locs ls h hI (lv_sub hl [3, 4, 0] rfl)

abbrev b_Me_squareIfAbove : ByteArray := prog_5_method_5_code
def y_Me_squareIfAbove : MethodName := ⟨"BodySolids$Meeting", "squareIfAbove", "(J)J"⟩
theorem d_Me_squareIfAbove_0 : decode b_Me_squareIfAbove 0 = .ok (.lload_n 0, 1) := by decide +kernel
theorem d_Me_squareIfAbove_1 : decode b_Me_squareIfAbove 1 = .ok (.lconst 0, 1) := by decide +kernel
theorem d_Me_squareIfAbove_2 : decode b_Me_squareIfAbove 2 = .ok (.lcmp, 1) := by decide +kernel
theorem d_Me_squareIfAbove_3 : decode b_Me_squareIfAbove 3 = .ok (.ifCond .le 9, 3) := by decide +kernel
theorem d_Me_squareIfAbove_6 : decode b_Me_squareIfAbove 6 = .ok (.lload_n 0, 1) := by decide +kernel
theorem d_Me_squareIfAbove_7 : decode b_Me_squareIfAbove 7 = .ok (.lload_n 0, 1) := by decide +kernel
theorem d_Me_squareIfAbove_8 : decode b_Me_squareIfAbove 8 = .ok (.lmul, 1) := by decide +kernel
theorem d_Me_squareIfAbove_9 : decode b_Me_squareIfAbove 9 = .ok (.goto 4, 3) := by decide +kernel
theorem d_Me_squareIfAbove_12 : decode b_Me_squareIfAbove 12 = .ok (.lconst 0, 1) := by decide +kernel
theorem d_Me_squareIfAbove_13 : decode b_Me_squareIfAbove 13 = .ok (.lreturn, 1) := by decide +kernel
abbrev rm_Me_squareIfAbove : Room := { frames := 0, cells := 0, slots := 0, locals := 0 }
theorem ce_Me_squareIfAbove : gCe y_Me_squareIfAbove (.code y_Me_squareIfAbove b_Me_squareIfAbove 2 (some .long)) 2 1 true := gCe.code wd_399 wd_69 wd_398 (by decide) (by decide +kernel)
def f_Me_squareIfAbove (g0 : gG) (p0 : Int64) (w : gW) : gX Int64 := gjoin (fun K13 => if p0 ≤ 0 then (K13 0 w) else (K13 (p0 * p0) w)) (fun (y1 : Int64) (w : gW) => some (.inr y1, w))
set_option maxHeartbeats 4000000 in
set_option maxRecDepth 100000 in
theorem m_Me_squareIfAbove (l : Launch) (hst : l.stackTraces = false) (D : gD) (g0 : gG) (p0 : Int64) (w : gW) (r : (String ⊕ Int64) × gW) (h : f_Me_squareIfAbove g0 p0 w = some r) : gMet l y_Me_squareIfAbove (.code y_Me_squareIfAbove b_Me_squareIfAbove 2 (some .long)) rm_Me_squareIfAbove D g0 [.long p0] w (goJ r) := by
  refine gw_ofJ (by decide +kernel) (Nat.le_of_ble_eq_true rfl) ?_
  intro p e s m below meth c ls args A Q hx hb hml hown hlocks hin hnt hT hK hZ hA hret hexc hthr hI hl
  obtain ⟨H, hH⟩ : ∃ H, H = s.heap := ⟨_, rfl⟩
  rw [← hH] at hI ⊢
  obtain ⟨locs, hlocs⟩ : ∃ z : List Loc, z = [] := ⟨_, rfl⟩
  rw [← hlocs] at hI ⊢
  have hl : lv_has ls 2 [(0, .long p0)] := hl
  unfold f_Me_squareIfAbove at h
  refine lv_lload_n hx hb d_Me_squareIfAbove_0 rfl (lv_at hl 0 rfl) ?_
  refine lv_lconst (v := 0) hx hb d_Me_squareIfAbove_1 (by decide) ?_
  refine W.lcmp hx hb d_Me_squareIfAbove_2 ?_
  obtain ⟨K13, eK13, h⟩ := gj h
  have hK13 : ∀ (y1 : Int64) (w : gW) (H : Heap) (locs : List Loc) (ls : Array Slot), K13 y1 w = some r → gI D s A w H locs → lv_has ls 2 [] → W p l e rm_Me_squareIfAbove s m args below meth c H locs 0 0 Q (F0 m 13 ls [.long y1]) := by
    intro y1 w H locs ls h hI hl
    have h := gk2 eK13 h
    exact W.widen (show 0 ≤ 0 by omega) (show 0 ≤ 0 by omega) (hret _ _ (Option.some.inj h).symm _ _ _ _ d_Me_squareIfAbove_13 hI)
  refine lv_if_le (tgt := 12) hx hb d_Me_squareIfAbove_3 (by decide) (fun c2 => ?_) (fun c2 => ?_)
  · have c2 := (lg_cmp_le _ _).mp c2
    have h := git c2 h
    refine lv_lconst (v := 0) hx hb d_Me_squareIfAbove_12 (by decide) ?_
    exact hK13 _ w H locs ls h hI (lv_sub hl [] rfl)
  · have c2 := mt (lg_cmp_le _ _).mpr c2
    have h := gie c2 h
    refine lv_lload_n hx hb d_Me_squareIfAbove_6 rfl (lv_at hl 0 rfl) ?_
    refine lv_lload_n hx hb d_Me_squareIfAbove_7 rfl (lv_at hl 0 rfl) ?_
    refine lv_lmul hx hb d_Me_squareIfAbove_8 ?_
    refine lv_goto (tgt := 13) hx hb d_Me_squareIfAbove_9 (by decide) ?_
    exact hK13 _ w H locs ls h hI (lv_sub hl [] rfl)

abbrev b_Me_cornersDistance : ByteArray := prog_5_method_9_code
def y_Me_cornersDistance : MethodName := ⟨"BodySolids$Meeting", "cornersDistance", "(LBodySolids$Solid;LBodySolids$Solid;J)I"⟩
theorem d_Me_cornersDistance_0 : decode b_Me_cornersDistance 0 = .ok (.iconst 1, 1) := by decide +kernel
theorem d_Me_cornersDistance_1 : decode b_Me_cornersDistance 1 = .ok (.istore 4, 2) := by decide +kernel
theorem d_Me_cornersDistance_3 : decode b_Me_cornersDistance 3 = .ok (.iconst 0, 1) := by decide +kernel
theorem d_Me_cornersDistance_4 : decode b_Me_cornersDistance 4 = .ok (.istore 5, 2) := by decide +kernel
theorem d_Me_cornersDistance_6 : decode b_Me_cornersDistance 6 = .ok (.iload 5, 2) := by decide +kernel
theorem d_Me_cornersDistance_8 : decode b_Me_cornersDistance 8 = .ok (.aload_n 0, 1) := by decide +kernel
theorem d_Me_cornersDistance_9 : decode b_Me_cornersDistance 9 = .ok (.getfield 78, 3) := by decide +kernel
theorem d_Me_cornersDistance_12 : decode b_Me_cornersDistance 12 = .ok (.if_icmp .ge 86, 3) := by decide +kernel
theorem d_Me_cornersDistance_15 : decode b_Me_cornersDistance 15 = .ok (.aload_n 0, 1) := by decide +kernel
theorem d_Me_cornersDistance_16 : decode b_Me_cornersDistance 16 = .ok (.getfield 81, 3) := by decide +kernel
theorem d_Me_cornersDistance_19 : decode b_Me_cornersDistance 19 = .ok (.iload 5, 2) := by decide +kernel
theorem d_Me_cornersDistance_21 : decode b_Me_cornersDistance 21 = .ok (.laload, 1) := by decide +kernel
theorem d_Me_cornersDistance_22 : decode b_Me_cornersDistance 22 = .ok (.aload_n 0, 1) := by decide +kernel
theorem d_Me_cornersDistance_23 : decode b_Me_cornersDistance 23 = .ok (.getfield 81, 3) := by decide +kernel
theorem d_Me_cornersDistance_26 : decode b_Me_cornersDistance 26 = .ok (.iload 5, 2) := by decide +kernel
theorem d_Me_cornersDistance_28 : decode b_Me_cornersDistance 28 = .ok (.laload, 1) := by decide +kernel
theorem d_Me_cornersDistance_29 : decode b_Me_cornersDistance 29 = .ok (.aload_n 1, 1) := by decide +kernel
theorem d_Me_cornersDistance_30 : decode b_Me_cornersDistance 30 = .ok (.getfield 18, 3) := by decide +kernel
theorem d_Me_cornersDistance_33 : decode b_Me_cornersDistance 33 = .ok (.aload_n 1, 1) := by decide +kernel
theorem d_Me_cornersDistance_34 : decode b_Me_cornersDistance 34 = .ok (.getfield 21, 3) := by decide +kernel
theorem d_Me_cornersDistance_37 : decode b_Me_cornersDistance 37 = .ok (.invokestatic 24, 3) := by decide +kernel
theorem d_Me_cornersDistance_40 : decode b_Me_cornersDistance 40 = .ok (.lstore 6, 2) := by decide +kernel
theorem d_Me_cornersDistance_42 : decode b_Me_cornersDistance 42 = .ok (.aload_n 0, 1) := by decide +kernel
theorem d_Me_cornersDistance_43 : decode b_Me_cornersDistance 43 = .ok (.getfield 85, 3) := by decide +kernel
theorem d_Me_cornersDistance_46 : decode b_Me_cornersDistance 46 = .ok (.iload 5, 2) := by decide +kernel
theorem d_Me_cornersDistance_48 : decode b_Me_cornersDistance 48 = .ok (.laload, 1) := by decide +kernel
theorem d_Me_cornersDistance_49 : decode b_Me_cornersDistance 49 = .ok (.aload_n 0, 1) := by decide +kernel
theorem d_Me_cornersDistance_50 : decode b_Me_cornersDistance 50 = .ok (.getfield 85, 3) := by decide +kernel
theorem d_Me_cornersDistance_53 : decode b_Me_cornersDistance 53 = .ok (.iload 5, 2) := by decide +kernel
theorem d_Me_cornersDistance_55 : decode b_Me_cornersDistance 55 = .ok (.laload, 1) := by decide +kernel
theorem d_Me_cornersDistance_56 : decode b_Me_cornersDistance 56 = .ok (.aload_n 1, 1) := by decide +kernel
theorem d_Me_cornersDistance_57 : decode b_Me_cornersDistance 57 = .ok (.getfield 30, 3) := by decide +kernel
theorem d_Me_cornersDistance_60 : decode b_Me_cornersDistance 60 = .ok (.aload_n 1, 1) := by decide +kernel
theorem d_Me_cornersDistance_61 : decode b_Me_cornersDistance 61 = .ok (.getfield 33, 3) := by decide +kernel
theorem d_Me_cornersDistance_64 : decode b_Me_cornersDistance 64 = .ok (.invokestatic 24, 3) := by decide +kernel
theorem d_Me_cornersDistance_67 : decode b_Me_cornersDistance 67 = .ok (.lstore 8, 2) := by decide +kernel
theorem d_Me_cornersDistance_69 : decode b_Me_cornersDistance 69 = .ok (.iload 4, 2) := by decide +kernel
theorem d_Me_cornersDistance_71 : decode b_Me_cornersDistance 71 = .ok (.lload 6, 2) := by decide +kernel
theorem d_Me_cornersDistance_73 : decode b_Me_cornersDistance 73 = .ok (.invokestatic 60, 3) := by decide +kernel
theorem d_Me_cornersDistance_76 : decode b_Me_cornersDistance 76 = .ok (.lload 8, 2) := by decide +kernel
theorem d_Me_cornersDistance_78 : decode b_Me_cornersDistance 78 = .ok (.invokestatic 60, 3) := by decide +kernel
theorem d_Me_cornersDistance_81 : decode b_Me_cornersDistance 81 = .ok (.ladd, 1) := by decide +kernel
theorem d_Me_cornersDistance_82 : decode b_Me_cornersDistance 82 = .ok (.lload_n 2, 1) := by decide +kernel
theorem d_Me_cornersDistance_83 : decode b_Me_cornersDistance 83 = .ok (.lsub, 1) := by decide +kernel
theorem d_Me_cornersDistance_84 : decode b_Me_cornersDistance 84 = .ok (.invokestatic 50, 3) := by decide +kernel
theorem d_Me_cornersDistance_87 : decode b_Me_cornersDistance 87 = .ok (.invokestatic 88, 3) := by decide +kernel
theorem d_Me_cornersDistance_90 : decode b_Me_cornersDistance 90 = .ok (.istore 4, 2) := by decide +kernel
theorem d_Me_cornersDistance_92 : decode b_Me_cornersDistance 92 = .ok (.iinc 5 1, 3) := by decide +kernel
theorem d_Me_cornersDistance_95 : decode b_Me_cornersDistance 95 = .ok (.goto (-89), 3) := by decide +kernel
theorem d_Me_cornersDistance_98 : decode b_Me_cornersDistance 98 = .ok (.iload 4, 2) := by decide +kernel
theorem d_Me_cornersDistance_100 : decode b_Me_cornersDistance 100 = .ok (.ireturn, 1) := by decide +kernel
abbrev rm_Me_cornersDistance : Room := { frames := 2, cells := 0, slots := 0, locals := 50 }
theorem ce_Me_cornersDistance : gCe y_Me_cornersDistance (.code y_Me_cornersDistance b_Me_cornersDistance 10 (some .int)) 10 3 true := gCe.code wd_396 wd_69 wd_395 (by decide) (by decide +kernel)
def f_Me_cornersDistance_L6 (g0 : gG) (c0 : Nat) (c1 : Nat) (c2 : Int64) (K98 : Int32 → gW → gX Int32) : Nat → Int32 → Int32 → gW → gX Int32
  | 0, _, _, _ => none
  | n + 1, z4, z5, w => (gfI w c0 3 5).bind fun v2 => if v2 ≤ z5 then (K98 z4 w) else ((gfA w c0 3 3).bind fun v5 => (gaJ w v5 z5).bind fun v7 => (gfA w c0 3 3).bind fun v9 => (gaJ w v9 z5).bind fun v11 => (gfJ w c1 3 6).bind fun v13 => (gfJ w c1 3 9).bind fun v15 => gbind (f_Me_gap g0 v7 v11 v13 v15 w) fun v19 w => (gfA w c0 3 4).bind fun v20 => (gaJ w v20 z5).bind fun v22 => (gfA w c0 3 4).bind fun v24 => (gaJ w v24 z5).bind fun v26 => (gfJ w c1 3 7).bind fun v28 => (gfJ w c1 3 10).bind fun v30 => gbind (f_Me_gap g0 v22 v26 v28 v30 w) fun v34 w => gbind (f_Me_squareIfAbove g0 v19 w) fun v37 w => gbind (f_Me_squareIfAbove g0 v34 w) fun v40 w => gbind (f_Me_sign g0 ((v37 + v40) - c2) w) fun v43 w => gbind (f_Ma_min g0 z4 v43 w) fun v46 w => f_Me_cornersDistance_L6 g0 c0 c1 c2 K98 n v46 (z5 + 1) w)
def f_Me_cornersDistance (g0 : gG) (a0 : Nat) (a1 : Nat) (p2 : Int64) (w : gW) : gX Int32 := gjoin (fun K98 => f_Me_cornersDistance_L6 g0 a0 a1 p2 K98 64 1 0 w) (fun (x1 : Int32) (w : gW) => some (.inr x1, w))
set_option maxHeartbeats 4000000 in
set_option maxRecDepth 100000 in
theorem m_Me_cornersDistance (l : Launch) (hst : l.stackTraces = false) (D : gD) (g0 : gG) (a0 : Nat) (a1 : Nat) (p2 : Int64) (w : gW) (r : (String ⊕ Int32) × gW) (h : f_Me_cornersDistance g0 a0 a1 p2 w = some r) : gMet l y_Me_cornersDistance (.code y_Me_cornersDistance b_Me_cornersDistance 10 (some .int)) rm_Me_cornersDistance D g0 [.ref a0, .ref a1, .long p2] w (goI r) := by
  refine gw_ofI (by decide +kernel) (Nat.le_of_ble_eq_true rfl) ?_
  intro p e s m below meth c ls args A Q hx hb hml hown hlocks hin hnt hT hK hZ hA hret hexc hthr hI hl
  obtain ⟨H, hH⟩ : ∃ H, H = s.heap := ⟨_, rfl⟩
  rw [← hH] at hI ⊢
  obtain ⟨locs, hlocs⟩ : ∃ z : List Loc, z = [] := ⟨_, rfl⟩
  rw [← hlocs] at hI ⊢
  have hl : lv_has ls 10 [(0, .ref a0), (1, .ref a1), (2, .long p2)] := hl
  unfold f_Me_cornersDistance at h
  refine lv_iconst (v := 1) hx hb d_Me_cornersDistance_0 (by decide) ?_
  refine lv_istore (lv' := [(4, .int 1), (0, .ref a0), (1, .ref a1), (2, .long p2)]) hx hb d_Me_cornersDistance_1 hl (by decide) rfl (fun ls hl => ?_)
  refine lv_iconst (v := 0) hx hb d_Me_cornersDistance_3 (by decide) ?_
  refine lv_istore (lv' := [(5, .int 0), (4, .int 1), (0, .ref a0), (1, .ref a1), (2, .long p2)]) hx hb d_Me_cornersDistance_4 hl (by decide) rfl (fun ls hl => ?_)
  obtain ⟨K98, eK98, h⟩ := gj h
  have hK98 : ∀ (x1 : Int32) (w : gW) (H : Heap) (locs : List Loc) (ls : Array Slot), K98 x1 w = some r → gI D s A w H locs → lv_has ls 10 [(4, .int x1)] → W p l e rm_Me_cornersDistance s m args below meth c H locs 0 0 Q (F0 m 98 ls []) := by
    intro x1 w H locs ls h hI hl
    have h := gk2 eK98 h
    refine lv_iload hx hb d_Me_cornersDistance_98 (lv_at hl 0 rfl) ?_
    exact W.widen (show 0 ≤ 0 by omega) (show 0 ≤ 0 by omega) (hret _ _ (Option.some.inj h).symm _ _ _ _ d_Me_cornersDistance_100 hI)
  have hL6 : ∀ (n : Nat), ∀ (z2 : Int32) (z3 : Int32) (w : gW) (H : Heap) (locs : List Loc) (ls : Array Slot), f_Me_cornersDistance_L6 g0 a0 a1 p2 K98 n z2 z3 w = some r → gI D s A w H locs → lv_has ls 10 [(0, .ref a0), (1, .ref a1), (2, .long p2), (4, .int z2), (5, .int z3)] → W p l e rm_Me_cornersDistance s m args below meth c H locs 0 0 Q (F0 m 6 ls []) := by
    intro n
    induction n with
    | zero => intro z2 z3 w H locs ls h hI hl; exact absurd h (by simp [f_Me_cornersDistance_L6])
    | succ n ih =>
      intro z2 z3 w H locs ls h hI hl
      rw [f_Me_cornersDistance_L6] at h
      refine lv_iload hx hb d_Me_cornersDistance_6 (lv_at hl 4 rfl) ?_
      refine lv_aload_n hx hb d_Me_cornersDistance_8 rfl (lv_at hl 0 rfl) ?_
      obtain ⟨v4, e5, h⟩ := gb h
      refine gw_getI hx hb hT hown hK hI (ci := 3) rfl i_3 5 (by decide) wd_140 (fun _ h9 => h9) e5 d_Me_cornersDistance_9 ?_
      refine lv_icmp_ge (tgt := 98) hx hb d_Me_cornersDistance_12 (by decide) (fun c6 => ?_) (fun c6 => ?_)
      · skip
        have h := git c6 h
        exact hK98 _ w H locs ls h hI (lv_sub hl [3] rfl)
      · skip
        have h := gie c6 h
        refine lv_aload_n hx hb d_Me_cornersDistance_15 rfl (lv_at hl 0 rfl) ?_
        obtain ⟨v7, e8, h⟩ := gb h
        refine gw_getA hx hb hT hown hK hI (ci := 3) rfl i_3 3 (by decide) wd_136 (fun _ h9 => h9) e8 d_Me_cornersDistance_16 ?_
        refine lv_iload hx hb d_Me_cornersDistance_19 (lv_at hl 4 rfl) ?_
        obtain ⟨v9, e10, h⟩ := gb h
        refine gw_aldJ hx hb hK hI e10 d_Me_cornersDistance_21 ?_
        refine lv_aload_n hx hb d_Me_cornersDistance_22 rfl (lv_at hl 0 rfl) ?_
        obtain ⟨v11, e12, h⟩ := gb h
        refine gw_getA hx hb hT hown hK hI (ci := 3) rfl i_3 3 (by decide) wd_136 (fun _ h9 => h9) e12 d_Me_cornersDistance_23 ?_
        refine lv_iload hx hb d_Me_cornersDistance_26 (lv_at hl 4 rfl) ?_
        obtain ⟨v13, e14, h⟩ := gb h
        refine gw_aldJ hx hb hK hI e14 d_Me_cornersDistance_28 ?_
        refine lv_aload_n hx hb d_Me_cornersDistance_29 rfl (lv_at hl 1 rfl) ?_
        obtain ⟨v15, e16, h⟩ := gb h
        refine gw_getJ hx hb hT hown hK hI (ci := 3) rfl i_3 6 (by decide) wd_141 (fun _ h9 => h9) e16 d_Me_cornersDistance_30 ?_
        refine lv_aload_n hx hb d_Me_cornersDistance_33 rfl (lv_at hl 1 rfl) ?_
        obtain ⟨v17, e18, h⟩ := gb h
        refine gw_getJ hx hb hT hown hK hI (ci := 3) rfl i_3 9 (by decide) wd_147 (fun _ h9 => h9) e18 d_Me_cornersDistance_34 ?_
        obtain ⟨u19, e20⟩ := gsome h
        refine gw_callJ e20 h (gw_runS (As := [.long v9, .long v13, .long v15, .long v17]) (rest := []) hx hb hml hown hT hK hZ hA hI (m_Me_gap l hst D g0 v9 v13 v15 v17 w u19 e20) ce_Me_gap wd_376 ⟨by decide, by decide⟩ rfl rfl hl.1 rfl (lv_room (Nat.le_of_ble_eq_true rfl)) d_Me_cornersDistance_37 ⟨(show 0 + 0 ≤ 0 by omega), (show 0 + 0 ≤ 0 by omega)⟩) hI hA hexc (show 0 + 0 ≤ 0 by omega) (show 0 + 0 ≤ 0 by omega) (fun v21 w H locs h hI => ?_)
        refine lv_lstore (lv' := [(6, .long v21), (0, .ref a0), (1, .ref a1), (2, .long p2), (4, .int z2), (5, .int z3)]) hx hb d_Me_cornersDistance_40 hl (by decide) rfl (fun ls hl => ?_)
        refine lv_aload_n hx hb d_Me_cornersDistance_42 rfl (lv_at hl 1 rfl) ?_
        obtain ⟨v22, e23, h⟩ := gb h
        refine gw_getA hx hb hT hown hK hI (ci := 3) rfl i_3 4 (by decide) wd_138 (fun _ h9 => h9) e23 d_Me_cornersDistance_43 ?_
        refine lv_iload hx hb d_Me_cornersDistance_46 (lv_at hl 5 rfl) ?_
        obtain ⟨v24, e25, h⟩ := gb h
        refine gw_aldJ hx hb hK hI e25 d_Me_cornersDistance_48 ?_
        refine lv_aload_n hx hb d_Me_cornersDistance_49 rfl (lv_at hl 1 rfl) ?_
        obtain ⟨v26, e27, h⟩ := gb h
        refine gw_getA hx hb hT hown hK hI (ci := 3) rfl i_3 4 (by decide) wd_138 (fun _ h9 => h9) e27 d_Me_cornersDistance_50 ?_
        refine lv_iload hx hb d_Me_cornersDistance_53 (lv_at hl 5 rfl) ?_
        obtain ⟨v28, e29, h⟩ := gb h
        refine gw_aldJ hx hb hK hI e29 d_Me_cornersDistance_55 ?_
        refine lv_aload_n hx hb d_Me_cornersDistance_56 rfl (lv_at hl 2 rfl) ?_
        obtain ⟨v30, e31, h⟩ := gb h
        refine gw_getJ hx hb hT hown hK hI (ci := 3) rfl i_3 7 (by decide) wd_143 (fun _ h9 => h9) e31 d_Me_cornersDistance_57 ?_
        refine lv_aload_n hx hb d_Me_cornersDistance_60 rfl (lv_at hl 2 rfl) ?_
        obtain ⟨v32, e33, h⟩ := gb h
        refine gw_getJ hx hb hT hown hK hI (ci := 3) rfl i_3 10 (by decide) wd_149 (fun _ h9 => h9) e33 d_Me_cornersDistance_61 ?_
        obtain ⟨u34, e35⟩ := gsome h
        refine gw_callJ e35 h (gw_runS (As := [.long v24, .long v28, .long v30, .long v32]) (rest := []) hx hb hml hown hT hK hZ hA hI (m_Me_gap l hst D g0 v24 v28 v30 v32 w u34 e35) ce_Me_gap wd_376 ⟨by decide, by decide⟩ rfl rfl hl.1 rfl (lv_room (Nat.le_of_ble_eq_true rfl)) d_Me_cornersDistance_64 ⟨(show 0 + 0 ≤ 0 by omega), (show 0 + 0 ≤ 0 by omega)⟩) hI hA hexc (show 0 + 0 ≤ 0 by omega) (show 0 + 0 ≤ 0 by omega) (fun v36 w H locs h hI => ?_)
        refine lv_lstore (lv' := [(8, .long v36), (6, .long v21), (0, .ref a0), (1, .ref a1), (2, .long p2), (4, .int z2), (5, .int z3)]) hx hb d_Me_cornersDistance_67 hl (by decide) rfl (fun ls hl => ?_)
        refine lv_iload hx hb d_Me_cornersDistance_69 (lv_at hl 5 rfl) ?_
        refine lv_lload hx hb d_Me_cornersDistance_71 (lv_at hl 1 rfl) ?_
        obtain ⟨u37, e38⟩ := gsome h
        refine gw_callJ e38 h (gw_runS (As := [.long v21]) (rest := [.int z2]) hx hb hml hown hT hK hZ hA hI (m_Me_squareIfAbove l hst D g0 v21 w u37 e38) ce_Me_squareIfAbove wd_397 ⟨by decide, by decide⟩ rfl rfl hl.1 rfl (lv_room (Nat.le_of_ble_eq_true rfl)) d_Me_cornersDistance_73 ⟨(show 0 + 0 ≤ 0 by omega), (show 0 + 0 ≤ 0 by omega)⟩) hI hA hexc (show 0 + 0 ≤ 0 by omega) (show 0 + 0 ≤ 0 by omega) (fun v39 w H locs h hI => ?_)
        refine lv_lload hx hb d_Me_cornersDistance_76 (lv_at hl 0 rfl) ?_
        obtain ⟨u40, e41⟩ := gsome h
        refine gw_callJ e41 h (gw_runS (As := [.long v36]) (rest := [.long v39, .int z2]) hx hb hml hown hT hK hZ hA hI (m_Me_squareIfAbove l hst D g0 v36 w u40 e41) ce_Me_squareIfAbove wd_397 ⟨by decide, by decide⟩ rfl rfl hl.1 rfl (lv_room (Nat.le_of_ble_eq_true rfl)) d_Me_cornersDistance_78 ⟨(show 0 + 0 ≤ 0 by omega), (show 0 + 0 ≤ 0 by omega)⟩) hI hA hexc (show 0 + 0 ≤ 0 by omega) (show 0 + 0 ≤ 0 by omega) (fun v42 w H locs h hI => ?_)
        refine lv_ladd hx hb d_Me_cornersDistance_81 ?_
        refine lv_lload_n hx hb d_Me_cornersDistance_82 rfl (lv_at hl 4 rfl) ?_
        refine lv_lsub hx hb d_Me_cornersDistance_83 ?_
        obtain ⟨u43, e44⟩ := gsome h
        refine gw_callI e44 h (gw_runS (As := [.long ((v39 + v42) - p2)]) (rest := [.int z2]) hx hb hml hown hT hK hZ hA hI (m_Me_sign l hst D g0 ((v39 + v42) - p2) w u43 e44) ce_Me_sign wd_383 ⟨by decide, by decide⟩ rfl rfl hl.1 rfl (lv_room (Nat.le_of_ble_eq_true rfl)) d_Me_cornersDistance_84 ⟨(show 0 + 0 ≤ 0 by omega), (show 0 + 0 ≤ 0 by omega)⟩) hI hA hexc (show 0 + 0 ≤ 0 by omega) (show 0 + 0 ≤ 0 by omega) (fun v45 w H locs h hI => ?_)
        obtain ⟨u46, e47⟩ := gsome h
        refine gw_callI e47 h (gw_runS (As := [.int z2, .int v45]) (rest := []) hx hb hml hown hT hK hZ hA hI (m_Ma_min l hst D g0 z2 v45 w u46 e47) ce_Ma_min wd_389 ⟨by decide, by decide⟩ rfl rfl hl.1 rfl (lv_room (Nat.le_of_ble_eq_true rfl)) d_Me_cornersDistance_87 ⟨(show 0 + 0 ≤ 0 by omega), (show 0 + 0 ≤ 0 by omega)⟩) hI hA hexc (show 0 + 0 ≤ 0 by omega) (show 0 + 0 ≤ 0 by omega) (fun v48 w H locs h hI => ?_)
        refine lv_istore (lv' := [(4, .int v48), (8, .long v36), (6, .long v21), (0, .ref a0), (1, .ref a1), (2, .long p2), (5, .int z3)]) hx hb d_Me_cornersDistance_90 hl (by decide) rfl (fun ls hl => ?_)
        refine lv_iinc (v := z3 + 1) (lv' := [(5, .int (z3 + 1)), (4, .int v48), (8, .long v36), (6, .long v21), (0, .ref a0), (1, .ref a1), (2, .long p2)]) hx hb d_Me_cornersDistance_92 hl (k := 6) rfl rfl (by decide) rfl (fun ls hl => ?_)
        refine lv_goto (tgt := 6) hx hb d_Me_cornersDistance_95 (by decide) ?_
        exact ih _ _ w H locs ls h hI (lv_sub hl [4, 5, 6, 1, 0] rfl)
  exact hL6 64 _ _ w H locs ls h hI (lv_sub hl [2, 3, 4, 1, 0] rfl)

abbrev b_Me_sideDistance : ByteArray := prog_5_method_11_code
def y_Me_sideDistance : MethodName := ⟨"BodySolids$Meeting", "sideDistance", "(LBodySolids$Solid;ILBodySolids$Solid;J)I"⟩
theorem d_Me_sideDistance_0 : decode b_Me_sideDistance 0 = .ok (.iload_n 1, 1) := by decide +kernel
theorem d_Me_sideDistance_1 : decode b_Me_sideDistance 1 = .ok (.iconst 1, 1) := by decide +kernel
theorem d_Me_sideDistance_2 : decode b_Me_sideDistance 2 = .ok (.iadd, 1) := by decide +kernel
theorem d_Me_sideDistance_3 : decode b_Me_sideDistance 3 = .ok (.aload_n 0, 1) := by decide +kernel
theorem d_Me_sideDistance_4 : decode b_Me_sideDistance 4 = .ok (.getfield 78, 3) := by decide +kernel
theorem d_Me_sideDistance_7 : decode b_Me_sideDistance 7 = .ok (.if_icmp .ge 9, 3) := by decide +kernel
theorem d_Me_sideDistance_10 : decode b_Me_sideDistance 10 = .ok (.iload_n 1, 1) := by decide +kernel
theorem d_Me_sideDistance_11 : decode b_Me_sideDistance 11 = .ok (.iconst 1, 1) := by decide +kernel
theorem d_Me_sideDistance_12 : decode b_Me_sideDistance 12 = .ok (.iadd, 1) := by decide +kernel
theorem d_Me_sideDistance_13 : decode b_Me_sideDistance 13 = .ok (.goto 4, 3) := by decide +kernel
theorem d_Me_sideDistance_16 : decode b_Me_sideDistance 16 = .ok (.iconst 0, 1) := by decide +kernel
theorem d_Me_sideDistance_17 : decode b_Me_sideDistance 17 = .ok (.istore 5, 2) := by decide +kernel
theorem d_Me_sideDistance_19 : decode b_Me_sideDistance 19 = .ok (.aload_n 0, 1) := by decide +kernel
theorem d_Me_sideDistance_20 : decode b_Me_sideDistance 20 = .ok (.getfield 81, 3) := by decide +kernel
theorem d_Me_sideDistance_23 : decode b_Me_sideDistance 23 = .ok (.iload 5, 2) := by decide +kernel
theorem d_Me_sideDistance_25 : decode b_Me_sideDistance 25 = .ok (.laload, 1) := by decide +kernel
theorem d_Me_sideDistance_26 : decode b_Me_sideDistance 26 = .ok (.aload_n 0, 1) := by decide +kernel
theorem d_Me_sideDistance_27 : decode b_Me_sideDistance 27 = .ok (.getfield 81, 3) := by decide +kernel
theorem d_Me_sideDistance_30 : decode b_Me_sideDistance 30 = .ok (.iload_n 1, 1) := by decide +kernel
theorem d_Me_sideDistance_31 : decode b_Me_sideDistance 31 = .ok (.laload, 1) := by decide +kernel
theorem d_Me_sideDistance_32 : decode b_Me_sideDistance 32 = .ok (.lsub, 1) := by decide +kernel
theorem d_Me_sideDistance_33 : decode b_Me_sideDistance 33 = .ok (.lstore 6, 2) := by decide +kernel
theorem d_Me_sideDistance_35 : decode b_Me_sideDistance 35 = .ok (.aload_n 0, 1) := by decide +kernel
theorem d_Me_sideDistance_36 : decode b_Me_sideDistance 36 = .ok (.getfield 85, 3) := by decide +kernel
theorem d_Me_sideDistance_39 : decode b_Me_sideDistance 39 = .ok (.iload 5, 2) := by decide +kernel
theorem d_Me_sideDistance_41 : decode b_Me_sideDistance 41 = .ok (.laload, 1) := by decide +kernel
theorem d_Me_sideDistance_42 : decode b_Me_sideDistance 42 = .ok (.aload_n 0, 1) := by decide +kernel
theorem d_Me_sideDistance_43 : decode b_Me_sideDistance 43 = .ok (.getfield 85, 3) := by decide +kernel
theorem d_Me_sideDistance_46 : decode b_Me_sideDistance 46 = .ok (.iload_n 1, 1) := by decide +kernel
theorem d_Me_sideDistance_47 : decode b_Me_sideDistance 47 = .ok (.laload, 1) := by decide +kernel
theorem d_Me_sideDistance_48 : decode b_Me_sideDistance 48 = .ok (.lsub, 1) := by decide +kernel
theorem d_Me_sideDistance_49 : decode b_Me_sideDistance 49 = .ok (.lstore 8, 2) := by decide +kernel
theorem d_Me_sideDistance_51 : decode b_Me_sideDistance 51 = .ok (.lload 6, 2) := by decide +kernel
theorem d_Me_sideDistance_53 : decode b_Me_sideDistance 53 = .ok (.lload 6, 2) := by decide +kernel
theorem d_Me_sideDistance_55 : decode b_Me_sideDistance 55 = .ok (.lmul, 1) := by decide +kernel
theorem d_Me_sideDistance_56 : decode b_Me_sideDistance 56 = .ok (.lload 8, 2) := by decide +kernel
theorem d_Me_sideDistance_58 : decode b_Me_sideDistance 58 = .ok (.lload 8, 2) := by decide +kernel
theorem d_Me_sideDistance_60 : decode b_Me_sideDistance 60 = .ok (.lmul, 1) := by decide +kernel
theorem d_Me_sideDistance_61 : decode b_Me_sideDistance 61 = .ok (.ladd, 1) := by decide +kernel
theorem d_Me_sideDistance_62 : decode b_Me_sideDistance 62 = .ok (.lstore 10, 2) := by decide +kernel
theorem d_Me_sideDistance_64 : decode b_Me_sideDistance 64 = .ok (.iconst 1, 1) := by decide +kernel
theorem d_Me_sideDistance_65 : decode b_Me_sideDistance 65 = .ok (.istore 12, 2) := by decide +kernel
theorem d_Me_sideDistance_67 : decode b_Me_sideDistance 67 = .ok (.iconst 0, 1) := by decide +kernel
theorem d_Me_sideDistance_68 : decode b_Me_sideDistance 68 = .ok (.istore 13, 2) := by decide +kernel
theorem d_Me_sideDistance_70 : decode b_Me_sideDistance 70 = .ok (.iload 13, 2) := by decide +kernel
theorem d_Me_sideDistance_72 : decode b_Me_sideDistance 72 = .ok (.aload_n 2, 1) := by decide +kernel
theorem d_Me_sideDistance_73 : decode b_Me_sideDistance 73 = .ok (.getfield 78, 3) := by decide +kernel
theorem d_Me_sideDistance_76 : decode b_Me_sideDistance 76 = .ok (.if_icmp .ge 102, 3) := by decide +kernel
theorem d_Me_sideDistance_79 : decode b_Me_sideDistance 79 = .ok (.aload_n 2, 1) := by decide +kernel
theorem d_Me_sideDistance_80 : decode b_Me_sideDistance 80 = .ok (.getfield 81, 3) := by decide +kernel
theorem d_Me_sideDistance_83 : decode b_Me_sideDistance 83 = .ok (.iload 13, 2) := by decide +kernel
theorem d_Me_sideDistance_85 : decode b_Me_sideDistance 85 = .ok (.laload, 1) := by decide +kernel
theorem d_Me_sideDistance_86 : decode b_Me_sideDistance 86 = .ok (.aload_n 0, 1) := by decide +kernel
theorem d_Me_sideDistance_87 : decode b_Me_sideDistance 87 = .ok (.getfield 81, 3) := by decide +kernel
theorem d_Me_sideDistance_90 : decode b_Me_sideDistance 90 = .ok (.iload_n 1, 1) := by decide +kernel
theorem d_Me_sideDistance_91 : decode b_Me_sideDistance 91 = .ok (.laload, 1) := by decide +kernel
theorem d_Me_sideDistance_92 : decode b_Me_sideDistance 92 = .ok (.lsub, 1) := by decide +kernel
theorem d_Me_sideDistance_93 : decode b_Me_sideDistance 93 = .ok (.lstore 14, 2) := by decide +kernel
theorem d_Me_sideDistance_95 : decode b_Me_sideDistance 95 = .ok (.aload_n 2, 1) := by decide +kernel
theorem d_Me_sideDistance_96 : decode b_Me_sideDistance 96 = .ok (.getfield 85, 3) := by decide +kernel
theorem d_Me_sideDistance_99 : decode b_Me_sideDistance 99 = .ok (.iload 13, 2) := by decide +kernel
theorem d_Me_sideDistance_101 : decode b_Me_sideDistance 101 = .ok (.laload, 1) := by decide +kernel
theorem d_Me_sideDistance_102 : decode b_Me_sideDistance 102 = .ok (.aload_n 0, 1) := by decide +kernel
theorem d_Me_sideDistance_103 : decode b_Me_sideDistance 103 = .ok (.getfield 85, 3) := by decide +kernel
theorem d_Me_sideDistance_106 : decode b_Me_sideDistance 106 = .ok (.iload_n 1, 1) := by decide +kernel
theorem d_Me_sideDistance_107 : decode b_Me_sideDistance 107 = .ok (.laload, 1) := by decide +kernel
theorem d_Me_sideDistance_108 : decode b_Me_sideDistance 108 = .ok (.lsub, 1) := by decide +kernel
theorem d_Me_sideDistance_109 : decode b_Me_sideDistance 109 = .ok (.lstore 16, 2) := by decide +kernel
theorem d_Me_sideDistance_111 : decode b_Me_sideDistance 111 = .ok (.lload 6, 2) := by decide +kernel
theorem d_Me_sideDistance_113 : decode b_Me_sideDistance 113 = .ok (.lload 14, 2) := by decide +kernel
theorem d_Me_sideDistance_115 : decode b_Me_sideDistance 115 = .ok (.lmul, 1) := by decide +kernel
theorem d_Me_sideDistance_116 : decode b_Me_sideDistance 116 = .ok (.lload 8, 2) := by decide +kernel
theorem d_Me_sideDistance_118 : decode b_Me_sideDistance 118 = .ok (.lload 16, 2) := by decide +kernel
theorem d_Me_sideDistance_120 : decode b_Me_sideDistance 120 = .ok (.lmul, 1) := by decide +kernel
theorem d_Me_sideDistance_121 : decode b_Me_sideDistance 121 = .ok (.ladd, 1) := by decide +kernel
theorem d_Me_sideDistance_122 : decode b_Me_sideDistance 122 = .ok (.lstore 18, 2) := by decide +kernel
theorem d_Me_sideDistance_124 : decode b_Me_sideDistance 124 = .ok (.lload 6, 2) := by decide +kernel
theorem d_Me_sideDistance_126 : decode b_Me_sideDistance 126 = .ok (.lload 16, 2) := by decide +kernel
theorem d_Me_sideDistance_128 : decode b_Me_sideDistance 128 = .ok (.lmul, 1) := by decide +kernel
theorem d_Me_sideDistance_129 : decode b_Me_sideDistance 129 = .ok (.lload 8, 2) := by decide +kernel
theorem d_Me_sideDistance_131 : decode b_Me_sideDistance 131 = .ok (.lload 14, 2) := by decide +kernel
theorem d_Me_sideDistance_133 : decode b_Me_sideDistance 133 = .ok (.lmul, 1) := by decide +kernel
theorem d_Me_sideDistance_134 : decode b_Me_sideDistance 134 = .ok (.lsub, 1) := by decide +kernel
theorem d_Me_sideDistance_135 : decode b_Me_sideDistance 135 = .ok (.lstore 20, 2) := by decide +kernel
theorem d_Me_sideDistance_137 : decode b_Me_sideDistance 137 = .ok (.lload 18, 2) := by decide +kernel
theorem d_Me_sideDistance_139 : decode b_Me_sideDistance 139 = .ok (.lconst 0, 1) := by decide +kernel
theorem d_Me_sideDistance_140 : decode b_Me_sideDistance 140 = .ok (.lcmp, 1) := by decide +kernel
theorem d_Me_sideDistance_141 : decode b_Me_sideDistance 141 = .ok (.ifCond .le 31, 3) := by decide +kernel
theorem d_Me_sideDistance_144 : decode b_Me_sideDistance 144 = .ok (.lload 18, 2) := by decide +kernel
theorem d_Me_sideDistance_146 : decode b_Me_sideDistance 146 = .ok (.lload 10, 2) := by decide +kernel
theorem d_Me_sideDistance_148 : decode b_Me_sideDistance 148 = .ok (.lcmp, 1) := by decide +kernel
theorem d_Me_sideDistance_149 : decode b_Me_sideDistance 149 = .ok (.ifCond .ge 23, 3) := by decide +kernel
theorem d_Me_sideDistance_152 : decode b_Me_sideDistance 152 = .ok (.iload 12, 2) := by decide +kernel
theorem d_Me_sideDistance_154 : decode b_Me_sideDistance 154 = .ok (.lload 20, 2) := by decide +kernel
theorem d_Me_sideDistance_156 : decode b_Me_sideDistance 156 = .ok (.lload 20, 2) := by decide +kernel
theorem d_Me_sideDistance_158 : decode b_Me_sideDistance 158 = .ok (.lmul, 1) := by decide +kernel
theorem d_Me_sideDistance_159 : decode b_Me_sideDistance 159 = .ok (.lload_n 3, 1) := by decide +kernel
theorem d_Me_sideDistance_160 : decode b_Me_sideDistance 160 = .ok (.lload 10, 2) := by decide +kernel
theorem d_Me_sideDistance_162 : decode b_Me_sideDistance 162 = .ok (.lmul, 1) := by decide +kernel
theorem d_Me_sideDistance_163 : decode b_Me_sideDistance 163 = .ok (.lsub, 1) := by decide +kernel
theorem d_Me_sideDistance_164 : decode b_Me_sideDistance 164 = .ok (.invokestatic 50, 3) := by decide +kernel
theorem d_Me_sideDistance_167 : decode b_Me_sideDistance 167 = .ok (.invokestatic 88, 3) := by decide +kernel
theorem d_Me_sideDistance_170 : decode b_Me_sideDistance 170 = .ok (.istore 12, 2) := by decide +kernel
theorem d_Me_sideDistance_172 : decode b_Me_sideDistance 172 = .ok (.iinc 13 1, 3) := by decide +kernel
theorem d_Me_sideDistance_175 : decode b_Me_sideDistance 175 = .ok (.goto (-105), 3) := by decide +kernel
theorem d_Me_sideDistance_178 : decode b_Me_sideDistance 178 = .ok (.iload 12, 2) := by decide +kernel
theorem d_Me_sideDistance_180 : decode b_Me_sideDistance 180 = .ok (.ireturn, 1) := by decide +kernel
abbrev rm_Me_sideDistance : Room := { frames := 1, cells := 0, slots := 0, locals := 21 }
theorem ce_Me_sideDistance : gCe y_Me_sideDistance (.code y_Me_sideDistance b_Me_sideDistance 22 (some .int)) 22 4 true := gCe.code wd_405 wd_69 wd_404 (by decide) (by decide +kernel)
def f_Me_sideDistance_L70 (g0 : gG) (c0 : Nat) (c1 : Int32) (c2 : Nat) (c3 : Int64) (c6 : Int64) (c8 : Int64) (c10 : Int64) (K178 : Int32 → gW → gX Int32) : Nat → Int32 → Int32 → gW → gX Int32
  | 0, _, _, _ => none
  | n + 1, z12, z13, w => (gfI w c2 3 5).bind fun v21 => if v21 ≤ z13 then (K178 z12 w) else ((gfA w c2 3 3).bind fun v24 => (gaJ w v24 z13).bind fun v26 => (gfA w c0 3 3).bind fun v28 => (gaJ w v28 c1).bind fun v30 => (gfA w c2 3 4).bind fun v32 => (gaJ w v32 z13).bind fun v34 => (gfA w c0 3 4).bind fun v36 => (gaJ w v36 c1).bind fun v38 => gjoin (fun K172 => if ((c6 * (v26 - v30)) + (c8 * (v34 - v38))) ≤ 0 then (K172 z12 w) else (if c10 ≤ ((c6 * (v26 - v30)) + (c8 * (v34 - v38))) then (K172 z12 w) else (gbind (f_Me_sign g0 ((((c6 * (v34 - v38)) - (c8 * (v26 - v30))) * ((c6 * (v34 - v38)) - (c8 * (v26 - v30)))) - (c3 * c10)) w) fun v45 w => gbind (f_Ma_min g0 z12 v45 w) fun v48 w => K172 v48 w))) (fun (x40 : Int32) (w : gW) => f_Me_sideDistance_L70 g0 c0 c1 c2 c3 c6 c8 c10 K178 n x40 (z13 + 1) w))
def f_Me_sideDistance (g0 : gG) (a0 : Nat) (p1 : Int32) (a2 : Nat) (p3 : Int64) (w : gW) : gX Int32 := (gfI w a0 3 5).bind fun v1 => gjoin (fun K17 => if v1 ≤ (p1 + 1) then (K17 0 w) else (K17 (p1 + 1) w)) (fun (y3 : Int32) (w : gW) => (gfA w a0 3 3).bind fun v4 => (gaJ w v4 y3).bind fun v6 => (gfA w a0 3 3).bind fun v8 => (gaJ w v8 p1).bind fun v10 => (gfA w a0 3 4).bind fun v12 => (gaJ w v12 y3).bind fun v14 => (gfA w a0 3 4).bind fun v16 => (gaJ w v16 p1).bind fun v18 => gjoin (fun K178 => f_Me_sideDistance_L70 g0 a0 p1 a2 p3 (v6 - v10) (v14 - v18) (((v6 - v10) * (v6 - v10)) + ((v14 - v18) * (v14 - v18))) K178 64 1 0 w) (fun (x20 : Int32) (w : gW) => some (.inr x20, w)))
set_option maxHeartbeats 4000000 in
set_option maxRecDepth 100000 in
theorem m_Me_sideDistance (l : Launch) (hst : l.stackTraces = false) (D : gD) (g0 : gG) (a0 : Nat) (p1 : Int32) (a2 : Nat) (p3 : Int64) (w : gW) (r : (String ⊕ Int32) × gW) (h : f_Me_sideDistance g0 a0 p1 a2 p3 w = some r) : gMet l y_Me_sideDistance (.code y_Me_sideDistance b_Me_sideDistance 22 (some .int)) rm_Me_sideDistance D g0 [.ref a0, .int p1, .ref a2, .long p3] w (goI r) := by
  refine gw_ofI (by decide +kernel) (Nat.le_of_ble_eq_true rfl) ?_
  intro p e s m below meth c ls args A Q hx hb hml hown hlocks hin hnt hT hK hZ hA hret hexc hthr hI hl
  obtain ⟨H, hH⟩ : ∃ H, H = s.heap := ⟨_, rfl⟩
  rw [← hH] at hI ⊢
  obtain ⟨locs, hlocs⟩ : ∃ z : List Loc, z = [] := ⟨_, rfl⟩
  rw [← hlocs] at hI ⊢
  have hl : lv_has ls 22 [(0, .ref a0), (1, .int p1), (2, .ref a2), (3, .long p3)] := hl
  unfold f_Me_sideDistance at h
  refine lv_iload_n hx hb d_Me_sideDistance_0 rfl (lv_at hl 1 rfl) ?_
  refine lv_iconst (v := 1) hx hb d_Me_sideDistance_1 (by decide) ?_
  refine lv_iadd hx hb d_Me_sideDistance_2 ?_
  refine lv_aload_n hx hb d_Me_sideDistance_3 rfl (lv_at hl 0 rfl) ?_
  obtain ⟨v1, e2, h⟩ := gb h
  refine gw_getI hx hb hT hown hK hI (ci := 3) rfl i_3 5 (by decide) wd_140 (fun _ h9 => h9) e2 d_Me_sideDistance_4 ?_
  obtain ⟨K17, eK17, h⟩ := gj h
  have hK17 : ∀ (y3 : Int32) (w : gW) (H : Heap) (locs : List Loc) (ls : Array Slot), K17 y3 w = some r → gI D s A w H locs → lv_has ls 22 [(0, .ref a0), (1, .int p1), (2, .ref a2), (3, .long p3)] → W p l e rm_Me_sideDistance s m args below meth c H locs 0 0 Q (F0 m 17 ls [.int y3]) := by
    intro y3 w H locs ls h hI hl
    have h := gk2 eK17 h
    refine lv_istore (lv' := [(5, .int y3), (0, .ref a0), (1, .int p1), (2, .ref a2), (3, .long p3)]) hx hb d_Me_sideDistance_17 hl (by decide) rfl (fun ls hl => ?_)
    refine lv_aload_n hx hb d_Me_sideDistance_19 rfl (lv_at hl 1 rfl) ?_
    obtain ⟨v4, e5, h⟩ := gb h
    refine gw_getA hx hb hT hown hK hI (ci := 3) rfl i_3 3 (by decide) wd_136 (fun _ h9 => h9) e5 d_Me_sideDistance_20 ?_
    refine lv_iload hx hb d_Me_sideDistance_23 (lv_at hl 0 rfl) ?_
    obtain ⟨v6, e7, h⟩ := gb h
    refine gw_aldJ hx hb hK hI e7 d_Me_sideDistance_25 ?_
    refine lv_aload_n hx hb d_Me_sideDistance_26 rfl (lv_at hl 1 rfl) ?_
    obtain ⟨v8, e9, h⟩ := gb h
    refine gw_getA hx hb hT hown hK hI (ci := 3) rfl i_3 3 (by decide) wd_136 (fun _ h9 => h9) e9 d_Me_sideDistance_27 ?_
    refine lv_iload_n hx hb d_Me_sideDistance_30 rfl (lv_at hl 2 rfl) ?_
    obtain ⟨v10, e11, h⟩ := gb h
    refine gw_aldJ hx hb hK hI e11 d_Me_sideDistance_31 ?_
    refine lv_lsub hx hb d_Me_sideDistance_32 ?_
    refine lv_lstore (lv' := [(6, .long (v6 - v10)), (5, .int y3), (0, .ref a0), (1, .int p1), (2, .ref a2), (3, .long p3)]) hx hb d_Me_sideDistance_33 hl (by decide) rfl (fun ls hl => ?_)
    refine lv_aload_n hx hb d_Me_sideDistance_35 rfl (lv_at hl 2 rfl) ?_
    obtain ⟨v12, e13, h⟩ := gb h
    refine gw_getA hx hb hT hown hK hI (ci := 3) rfl i_3 4 (by decide) wd_138 (fun _ h9 => h9) e13 d_Me_sideDistance_36 ?_
    refine lv_iload hx hb d_Me_sideDistance_39 (lv_at hl 1 rfl) ?_
    obtain ⟨v14, e15, h⟩ := gb h
    refine gw_aldJ hx hb hK hI e15 d_Me_sideDistance_41 ?_
    refine lv_aload_n hx hb d_Me_sideDistance_42 rfl (lv_at hl 2 rfl) ?_
    obtain ⟨v16, e17, h⟩ := gb h
    refine gw_getA hx hb hT hown hK hI (ci := 3) rfl i_3 4 (by decide) wd_138 (fun _ h9 => h9) e17 d_Me_sideDistance_43 ?_
    refine lv_iload_n hx hb d_Me_sideDistance_46 rfl (lv_at hl 3 rfl) ?_
    obtain ⟨v18, e19, h⟩ := gb h
    refine gw_aldJ hx hb hK hI e19 d_Me_sideDistance_47 ?_
    refine lv_lsub hx hb d_Me_sideDistance_48 ?_
    refine lv_lstore (lv' := [(8, .long (v14 - v18)), (6, .long (v6 - v10)), (5, .int y3), (0, .ref a0), (1, .int p1), (2, .ref a2), (3, .long p3)]) hx hb d_Me_sideDistance_49 hl (by decide) rfl (fun ls hl => ?_)
    refine lv_lload hx hb d_Me_sideDistance_51 (lv_at hl 1 rfl) ?_
    refine lv_lload hx hb d_Me_sideDistance_53 (lv_at hl 1 rfl) ?_
    refine lv_lmul hx hb d_Me_sideDistance_55 ?_
    refine lv_lload hx hb d_Me_sideDistance_56 (lv_at hl 0 rfl) ?_
    refine lv_lload hx hb d_Me_sideDistance_58 (lv_at hl 0 rfl) ?_
    refine lv_lmul hx hb d_Me_sideDistance_60 ?_
    refine lv_ladd hx hb d_Me_sideDistance_61 ?_
    refine lv_lstore (lv' := [(10, .long (((v6 - v10) * (v6 - v10)) + ((v14 - v18) * (v14 - v18)))), (8, .long (v14 - v18)), (6, .long (v6 - v10)), (5, .int y3), (0, .ref a0), (1, .int p1), (2, .ref a2), (3, .long p3)]) hx hb d_Me_sideDistance_62 hl (by decide) rfl (fun ls hl => ?_)
    refine lv_iconst (v := 1) hx hb d_Me_sideDistance_64 (by decide) ?_
    refine lv_istore (lv' := [(12, .int 1), (10, .long (((v6 - v10) * (v6 - v10)) + ((v14 - v18) * (v14 - v18)))), (8, .long (v14 - v18)), (6, .long (v6 - v10)), (5, .int y3), (0, .ref a0), (1, .int p1), (2, .ref a2), (3, .long p3)]) hx hb d_Me_sideDistance_65 hl (by decide) rfl (fun ls hl => ?_)
    refine lv_iconst (v := 0) hx hb d_Me_sideDistance_67 (by decide) ?_
    refine lv_istore (lv' := [(13, .int 0), (12, .int 1), (10, .long (((v6 - v10) * (v6 - v10)) + ((v14 - v18) * (v14 - v18)))), (8, .long (v14 - v18)), (6, .long (v6 - v10)), (5, .int y3), (0, .ref a0), (1, .int p1), (2, .ref a2), (3, .long p3)]) hx hb d_Me_sideDistance_68 hl (by decide) rfl (fun ls hl => ?_)
    obtain ⟨K178, eK178, h⟩ := gj h
    have hK178 : ∀ (x20 : Int32) (w : gW) (H : Heap) (locs : List Loc) (ls : Array Slot), K178 x20 w = some r → gI D s A w H locs → lv_has ls 22 [(12, .int x20)] → W p l e rm_Me_sideDistance s m args below meth c H locs 0 0 Q (F0 m 178 ls []) := by
      intro x20 w H locs ls h hI hl
      have h := gk2 eK178 h
      refine lv_iload hx hb d_Me_sideDistance_178 (lv_at hl 0 rfl) ?_
      exact W.widen (show 0 ≤ 0 by omega) (show 0 ≤ 0 by omega) (hret _ _ (Option.some.inj h).symm _ _ _ _ d_Me_sideDistance_180 hI)
    have hL70 : ∀ (n : Nat), ∀ (z21 : Int32) (z22 : Int32) (w : gW) (H : Heap) (locs : List Loc) (ls : Array Slot), f_Me_sideDistance_L70 g0 a0 p1 a2 p3 (v6 - v10) (v14 - v18) (((v6 - v10) * (v6 - v10)) + ((v14 - v18) * (v14 - v18))) K178 n z21 z22 w = some r → gI D s A w H locs → lv_has ls 22 [(0, .ref a0), (1, .int p1), (2, .ref a2), (3, .long p3), (6, .long (v6 - v10)), (8, .long (v14 - v18)), (10, .long (((v6 - v10) * (v6 - v10)) + ((v14 - v18) * (v14 - v18)))), (12, .int z21), (13, .int z22)] → W p l e rm_Me_sideDistance s m args below meth c H locs 0 0 Q (F0 m 70 ls []) := by
      intro n
      induction n with
      | zero => intro z21 z22 w H locs ls h hI hl; exact absurd h (by simp [f_Me_sideDistance_L70])
      | succ n ih =>
        intro z21 z22 w H locs ls h hI hl
        rw [f_Me_sideDistance_L70] at h
        refine lv_iload hx hb d_Me_sideDistance_70 (lv_at hl 8 rfl) ?_
        refine lv_aload_n hx hb d_Me_sideDistance_72 rfl (lv_at hl 2 rfl) ?_
        obtain ⟨v23, e24, h⟩ := gb h
        refine gw_getI hx hb hT hown hK hI (ci := 3) rfl i_3 5 (by decide) wd_140 (fun _ h9 => h9) e24 d_Me_sideDistance_73 ?_
        refine lv_icmp_ge (tgt := 178) hx hb d_Me_sideDistance_76 (by decide) (fun c25 => ?_) (fun c25 => ?_)
        · skip
          have h := git c25 h
          exact hK178 _ w H locs ls h hI (lv_sub hl [7] rfl)
        · skip
          have h := gie c25 h
          refine lv_aload_n hx hb d_Me_sideDistance_79 rfl (lv_at hl 2 rfl) ?_
          obtain ⟨v26, e27, h⟩ := gb h
          refine gw_getA hx hb hT hown hK hI (ci := 3) rfl i_3 3 (by decide) wd_136 (fun _ h9 => h9) e27 d_Me_sideDistance_80 ?_
          refine lv_iload hx hb d_Me_sideDistance_83 (lv_at hl 8 rfl) ?_
          obtain ⟨v28, e29, h⟩ := gb h
          refine gw_aldJ hx hb hK hI e29 d_Me_sideDistance_85 ?_
          refine lv_aload_n hx hb d_Me_sideDistance_86 rfl (lv_at hl 0 rfl) ?_
          obtain ⟨v30, e31, h⟩ := gb h
          refine gw_getA hx hb hT hown hK hI (ci := 3) rfl i_3 3 (by decide) wd_136 (fun _ h9 => h9) e31 d_Me_sideDistance_87 ?_
          refine lv_iload_n hx hb d_Me_sideDistance_90 rfl (lv_at hl 1 rfl) ?_
          obtain ⟨v32, e33, h⟩ := gb h
          refine gw_aldJ hx hb hK hI e33 d_Me_sideDistance_91 ?_
          refine lv_lsub hx hb d_Me_sideDistance_92 ?_
          refine lv_lstore (lv' := [(14, .long (v28 - v32)), (0, .ref a0), (1, .int p1), (2, .ref a2), (3, .long p3), (6, .long (v6 - v10)), (8, .long (v14 - v18)), (10, .long (((v6 - v10) * (v6 - v10)) + ((v14 - v18) * (v14 - v18)))), (12, .int z21), (13, .int z22)]) hx hb d_Me_sideDistance_93 hl (by decide) rfl (fun ls hl => ?_)
          refine lv_aload_n hx hb d_Me_sideDistance_95 rfl (lv_at hl 3 rfl) ?_
          obtain ⟨v34, e35, h⟩ := gb h
          refine gw_getA hx hb hT hown hK hI (ci := 3) rfl i_3 4 (by decide) wd_138 (fun _ h9 => h9) e35 d_Me_sideDistance_96 ?_
          refine lv_iload hx hb d_Me_sideDistance_99 (lv_at hl 9 rfl) ?_
          obtain ⟨v36, e37, h⟩ := gb h
          refine gw_aldJ hx hb hK hI e37 d_Me_sideDistance_101 ?_
          refine lv_aload_n hx hb d_Me_sideDistance_102 rfl (lv_at hl 1 rfl) ?_
          obtain ⟨v38, e39, h⟩ := gb h
          refine gw_getA hx hb hT hown hK hI (ci := 3) rfl i_3 4 (by decide) wd_138 (fun _ h9 => h9) e39 d_Me_sideDistance_103 ?_
          refine lv_iload_n hx hb d_Me_sideDistance_106 rfl (lv_at hl 2 rfl) ?_
          obtain ⟨v40, e41, h⟩ := gb h
          refine gw_aldJ hx hb hK hI e41 d_Me_sideDistance_107 ?_
          refine lv_lsub hx hb d_Me_sideDistance_108 ?_
          refine lv_lstore (lv' := [(16, .long (v36 - v40)), (14, .long (v28 - v32)), (0, .ref a0), (1, .int p1), (2, .ref a2), (3, .long p3), (6, .long (v6 - v10)), (8, .long (v14 - v18)), (10, .long (((v6 - v10) * (v6 - v10)) + ((v14 - v18) * (v14 - v18)))), (12, .int z21), (13, .int z22)]) hx hb d_Me_sideDistance_109 hl (by decide) rfl (fun ls hl => ?_)
          refine lv_lload hx hb d_Me_sideDistance_111 (lv_at hl 6 rfl) ?_
          refine lv_lload hx hb d_Me_sideDistance_113 (lv_at hl 1 rfl) ?_
          refine lv_lmul hx hb d_Me_sideDistance_115 ?_
          refine lv_lload hx hb d_Me_sideDistance_116 (lv_at hl 7 rfl) ?_
          refine lv_lload hx hb d_Me_sideDistance_118 (lv_at hl 0 rfl) ?_
          refine lv_lmul hx hb d_Me_sideDistance_120 ?_
          refine lv_ladd hx hb d_Me_sideDistance_121 ?_
          refine lv_lstore (lv' := [(18, .long (((v6 - v10) * (v28 - v32)) + ((v14 - v18) * (v36 - v40)))), (16, .long (v36 - v40)), (14, .long (v28 - v32)), (0, .ref a0), (1, .int p1), (2, .ref a2), (3, .long p3), (6, .long (v6 - v10)), (8, .long (v14 - v18)), (10, .long (((v6 - v10) * (v6 - v10)) + ((v14 - v18) * (v14 - v18)))), (12, .int z21), (13, .int z22)]) hx hb d_Me_sideDistance_122 hl (by decide) rfl (fun ls hl => ?_)
          refine lv_lload hx hb d_Me_sideDistance_124 (lv_at hl 7 rfl) ?_
          refine lv_lload hx hb d_Me_sideDistance_126 (lv_at hl 1 rfl) ?_
          refine lv_lmul hx hb d_Me_sideDistance_128 ?_
          refine lv_lload hx hb d_Me_sideDistance_129 (lv_at hl 8 rfl) ?_
          refine lv_lload hx hb d_Me_sideDistance_131 (lv_at hl 2 rfl) ?_
          refine lv_lmul hx hb d_Me_sideDistance_133 ?_
          refine lv_lsub hx hb d_Me_sideDistance_134 ?_
          refine lv_lstore (lv' := [(20, .long (((v6 - v10) * (v36 - v40)) - ((v14 - v18) * (v28 - v32)))), (18, .long (((v6 - v10) * (v28 - v32)) + ((v14 - v18) * (v36 - v40)))), (16, .long (v36 - v40)), (14, .long (v28 - v32)), (0, .ref a0), (1, .int p1), (2, .ref a2), (3, .long p3), (6, .long (v6 - v10)), (8, .long (v14 - v18)), (10, .long (((v6 - v10) * (v6 - v10)) + ((v14 - v18) * (v14 - v18)))), (12, .int z21), (13, .int z22)]) hx hb d_Me_sideDistance_135 hl (by decide) rfl (fun ls hl => ?_)
          refine lv_lload hx hb d_Me_sideDistance_137 (lv_at hl 1 rfl) ?_
          refine lv_lconst (v := 0) hx hb d_Me_sideDistance_139 (by decide) ?_
          refine W.lcmp hx hb d_Me_sideDistance_140 ?_
          obtain ⟨K172, eK172, h⟩ := gj h
          have hK172 : ∀ (x42 : Int32) (w : gW) (H : Heap) (locs : List Loc) (ls : Array Slot), K172 x42 w = some r → gI D s A w H locs → lv_has ls 22 [(0, .ref a0), (1, .int p1), (2, .ref a2), (3, .long p3), (6, .long (v6 - v10)), (8, .long (v14 - v18)), (10, .long (((v6 - v10) * (v6 - v10)) + ((v14 - v18) * (v14 - v18)))), (12, .int x42), (13, .int z22)] → W p l e rm_Me_sideDistance s m args below meth c H locs 0 0 Q (F0 m 172 ls []) := by
            intro x42 w H locs ls h hI hl
            have h := gk2 eK172 h
            refine lv_iinc (v := z22 + 1) (lv' := [(13, .int (z22 + 1)), (0, .ref a0), (1, .int p1), (2, .ref a2), (3, .long p3), (6, .long (v6 - v10)), (8, .long (v14 - v18)), (10, .long (((v6 - v10) * (v6 - v10)) + ((v14 - v18) * (v14 - v18)))), (12, .int x42)]) hx hb d_Me_sideDistance_172 hl (k := 8) rfl rfl (by decide) rfl (fun ls hl => ?_)
            refine lv_goto (tgt := 70) hx hb d_Me_sideDistance_175 (by decide) ?_
            exact ih _ _ w H locs ls h hI (lv_sub hl [1, 2, 3, 4, 5, 6, 7, 8, 0] rfl)
          refine lv_if_le (tgt := 172) hx hb d_Me_sideDistance_141 (by decide) (fun c43 => ?_) (fun c43 => ?_)
          · have c43 := (lg_cmp_le _ _).mp c43
            have h := git c43 h
            exact hK172 _ w H locs ls h hI (lv_sub hl [4, 5, 6, 7, 8, 9, 10, 11, 12] rfl)
          · have c43 := mt (lg_cmp_le _ _).mpr c43
            have h := gie c43 h
            refine lv_lload hx hb d_Me_sideDistance_144 (lv_at hl 1 rfl) ?_
            refine lv_lload hx hb d_Me_sideDistance_146 (lv_at hl 10 rfl) ?_
            refine W.lcmp hx hb d_Me_sideDistance_148 ?_
            refine lv_if_ge (tgt := 172) hx hb d_Me_sideDistance_149 (by decide) (fun c44 => ?_) (fun c44 => ?_)
            · have c44 := (lg_cmp_ge _ _).mp c44
              have h := git c44 h
              exact hK172 _ w H locs ls h hI (lv_sub hl [4, 5, 6, 7, 8, 9, 10, 11, 12] rfl)
            · have c44 := mt (lg_cmp_ge _ _).mpr c44
              have h := gie c44 h
              refine lv_iload hx hb d_Me_sideDistance_152 (lv_at hl 11 rfl) ?_
              refine lv_lload hx hb d_Me_sideDistance_154 (lv_at hl 0 rfl) ?_
              refine lv_lload hx hb d_Me_sideDistance_156 (lv_at hl 0 rfl) ?_
              refine lv_lmul hx hb d_Me_sideDistance_158 ?_
              refine lv_lload_n hx hb d_Me_sideDistance_159 rfl (lv_at hl 7 rfl) ?_
              refine lv_lload hx hb d_Me_sideDistance_160 (lv_at hl 10 rfl) ?_
              refine lv_lmul hx hb d_Me_sideDistance_162 ?_
              refine lv_lsub hx hb d_Me_sideDistance_163 ?_
              obtain ⟨u45, e46⟩ := gsome h
              refine gw_callI e46 h (gw_runS (As := [.long (((((v6 - v10) * (v36 - v40)) - ((v14 - v18) * (v28 - v32))) * (((v6 - v10) * (v36 - v40)) - ((v14 - v18) * (v28 - v32)))) - (p3 * (((v6 - v10) * (v6 - v10)) + ((v14 - v18) * (v14 - v18)))))]) (rest := [.int z21]) hx hb hml hown hT hK hZ hA hI (m_Me_sign l hst D g0 (((((v6 - v10) * (v36 - v40)) - ((v14 - v18) * (v28 - v32))) * (((v6 - v10) * (v36 - v40)) - ((v14 - v18) * (v28 - v32)))) - (p3 * (((v6 - v10) * (v6 - v10)) + ((v14 - v18) * (v14 - v18))))) w u45 e46) ce_Me_sign wd_383 ⟨by decide, by decide⟩ rfl rfl hl.1 rfl (lv_room (Nat.le_of_ble_eq_true rfl)) d_Me_sideDistance_164 ⟨(show 0 + 0 ≤ 0 by omega), (show 0 + 0 ≤ 0 by omega)⟩) hI hA hexc (show 0 + 0 ≤ 0 by omega) (show 0 + 0 ≤ 0 by omega) (fun v47 w H locs h hI => ?_)
              obtain ⟨u48, e49⟩ := gsome h
              refine gw_callI e49 h (gw_runS (As := [.int z21, .int v47]) (rest := []) hx hb hml hown hT hK hZ hA hI (m_Ma_min l hst D g0 z21 v47 w u48 e49) ce_Ma_min wd_389 ⟨by decide, by decide⟩ rfl rfl hl.1 rfl (lv_room (Nat.le_of_ble_eq_true rfl)) d_Me_sideDistance_167 ⟨(show 0 + 0 ≤ 0 by omega), (show 0 + 0 ≤ 0 by omega)⟩) hI hA hexc (show 0 + 0 ≤ 0 by omega) (show 0 + 0 ≤ 0 by omega) (fun v50 w H locs h hI => ?_)
              refine lv_istore (lv' := [(12, .int v50), (20, .long (((v6 - v10) * (v36 - v40)) - ((v14 - v18) * (v28 - v32)))), (18, .long (((v6 - v10) * (v28 - v32)) + ((v14 - v18) * (v36 - v40)))), (16, .long (v36 - v40)), (14, .long (v28 - v32)), (0, .ref a0), (1, .int p1), (2, .ref a2), (3, .long p3), (6, .long (v6 - v10)), (8, .long (v14 - v18)), (10, .long (((v6 - v10) * (v6 - v10)) + ((v14 - v18) * (v14 - v18)))), (13, .int z22)]) hx hb d_Me_sideDistance_170 hl (by decide) rfl (fun ls hl => ?_)
              exact hK172 _ w H locs ls h hI (lv_sub hl [5, 6, 7, 8, 9, 10, 11, 0, 12] rfl)
    exact hL70 64 _ _ w H locs ls h hI (lv_sub hl [6, 7, 8, 9, 4, 3, 2, 1, 0] rfl)
  refine lv_icmp_ge (tgt := 16) hx hb d_Me_sideDistance_7 (by decide) (fun c51 => ?_) (fun c51 => ?_)
  · skip
    have h := git c51 h
    refine lv_iconst (v := 0) hx hb d_Me_sideDistance_16 (by decide) ?_
    exact hK17 _ w H locs ls h hI (lv_sub hl [0, 1, 2, 3] rfl)
  · skip
    have h := gie c51 h
    refine lv_iload_n hx hb d_Me_sideDistance_10 rfl (lv_at hl 1 rfl) ?_
    refine lv_iconst (v := 1) hx hb d_Me_sideDistance_11 (by decide) ?_
    refine lv_iadd hx hb d_Me_sideDistance_12 ?_
    refine lv_goto (tgt := 17) hx hb d_Me_sideDistance_13 (by decide) ?_
    exact hK17 _ w H locs ls h hI (lv_sub hl [0, 1, 2, 3] rfl)

abbrev b_Me_sidesDistance : ByteArray := prog_5_method_10_code
def y_Me_sidesDistance : MethodName := ⟨"BodySolids$Meeting", "sidesDistance", "(LBodySolids$Solid;LBodySolids$Solid;J)I"⟩
theorem d_Me_sidesDistance_0 : decode b_Me_sidesDistance 0 = .ok (.iconst 1, 1) := by decide +kernel
theorem d_Me_sidesDistance_1 : decode b_Me_sidesDistance 1 = .ok (.istore 4, 2) := by decide +kernel
theorem d_Me_sidesDistance_3 : decode b_Me_sidesDistance 3 = .ok (.iconst 0, 1) := by decide +kernel
theorem d_Me_sidesDistance_4 : decode b_Me_sidesDistance 4 = .ok (.istore 5, 2) := by decide +kernel
theorem d_Me_sidesDistance_6 : decode b_Me_sidesDistance 6 = .ok (.iload 5, 2) := by decide +kernel
theorem d_Me_sidesDistance_8 : decode b_Me_sidesDistance 8 = .ok (.aload_n 0, 1) := by decide +kernel
theorem d_Me_sidesDistance_9 : decode b_Me_sidesDistance 9 = .ok (.getfield 78, 3) := by decide +kernel
theorem d_Me_sidesDistance_12 : decode b_Me_sidesDistance 12 = .ok (.if_icmp .ge 24, 3) := by decide +kernel
theorem d_Me_sidesDistance_15 : decode b_Me_sidesDistance 15 = .ok (.iload 4, 2) := by decide +kernel
theorem d_Me_sidesDistance_17 : decode b_Me_sidesDistance 17 = .ok (.aload_n 0, 1) := by decide +kernel
theorem d_Me_sidesDistance_18 : decode b_Me_sidesDistance 18 = .ok (.iload 5, 2) := by decide +kernel
theorem d_Me_sidesDistance_20 : decode b_Me_sidesDistance 20 = .ok (.aload_n 1, 1) := by decide +kernel
theorem d_Me_sidesDistance_21 : decode b_Me_sidesDistance 21 = .ok (.lload_n 2, 1) := by decide +kernel
theorem d_Me_sidesDistance_22 : decode b_Me_sidesDistance 22 = .ok (.invokestatic 97, 3) := by decide +kernel
theorem d_Me_sidesDistance_25 : decode b_Me_sidesDistance 25 = .ok (.invokestatic 88, 3) := by decide +kernel
theorem d_Me_sidesDistance_28 : decode b_Me_sidesDistance 28 = .ok (.istore 4, 2) := by decide +kernel
theorem d_Me_sidesDistance_30 : decode b_Me_sidesDistance 30 = .ok (.iinc 5 1, 3) := by decide +kernel
theorem d_Me_sidesDistance_33 : decode b_Me_sidesDistance 33 = .ok (.goto (-27), 3) := by decide +kernel
theorem d_Me_sidesDistance_36 : decode b_Me_sidesDistance 36 = .ok (.iload 4, 2) := by decide +kernel
theorem d_Me_sidesDistance_38 : decode b_Me_sidesDistance 38 = .ok (.ireturn, 1) := by decide +kernel
abbrev rm_Me_sidesDistance : Room := { frames := 2, cells := 0, slots := 0, locals := 62 }
theorem ce_Me_sidesDistance : gCe y_Me_sidesDistance (.code y_Me_sidesDistance b_Me_sidesDistance 6 (some .int)) 6 3 true := gCe.code wd_402 wd_69 wd_401 (by decide) (by decide +kernel)
def f_Me_sidesDistance_L6 (g0 : gG) (c0 : Nat) (c1 : Nat) (c2 : Int64) (K36 : Int32 → gW → gX Int32) : Nat → Int32 → Int32 → gW → gX Int32
  | 0, _, _, _ => none
  | n + 1, z4, z5, w => (gfI w c0 3 5).bind fun v2 => if v2 ≤ z5 then (K36 z4 w) else (gbind (f_Me_sideDistance g0 c0 z5 c1 c2 w) fun v7 w => gbind (f_Ma_min g0 z4 v7 w) fun v10 w => f_Me_sidesDistance_L6 g0 c0 c1 c2 K36 n v10 (z5 + 1) w)
def f_Me_sidesDistance (g0 : gG) (a0 : Nat) (a1 : Nat) (p2 : Int64) (w : gW) : gX Int32 := gjoin (fun K36 => f_Me_sidesDistance_L6 g0 a0 a1 p2 K36 64 1 0 w) (fun (x1 : Int32) (w : gW) => some (.inr x1, w))
set_option maxHeartbeats 4000000 in
set_option maxRecDepth 100000 in
theorem m_Me_sidesDistance (l : Launch) (hst : l.stackTraces = false) (D : gD) (g0 : gG) (a0 : Nat) (a1 : Nat) (p2 : Int64) (w : gW) (r : (String ⊕ Int32) × gW) (h : f_Me_sidesDistance g0 a0 a1 p2 w = some r) : gMet l y_Me_sidesDistance (.code y_Me_sidesDistance b_Me_sidesDistance 6 (some .int)) rm_Me_sidesDistance D g0 [.ref a0, .ref a1, .long p2] w (goI r) := by
  refine gw_ofI (by decide +kernel) (Nat.le_of_ble_eq_true rfl) ?_
  intro p e s m below meth c ls args A Q hx hb hml hown hlocks hin hnt hT hK hZ hA hret hexc hthr hI hl
  obtain ⟨H, hH⟩ : ∃ H, H = s.heap := ⟨_, rfl⟩
  rw [← hH] at hI ⊢
  obtain ⟨locs, hlocs⟩ : ∃ z : List Loc, z = [] := ⟨_, rfl⟩
  rw [← hlocs] at hI ⊢
  have hl : lv_has ls 6 [(0, .ref a0), (1, .ref a1), (2, .long p2)] := hl
  unfold f_Me_sidesDistance at h
  refine lv_iconst (v := 1) hx hb d_Me_sidesDistance_0 (by decide) ?_
  refine lv_istore (lv' := [(4, .int 1), (0, .ref a0), (1, .ref a1), (2, .long p2)]) hx hb d_Me_sidesDistance_1 hl (by decide) rfl (fun ls hl => ?_)
  refine lv_iconst (v := 0) hx hb d_Me_sidesDistance_3 (by decide) ?_
  refine lv_istore (lv' := [(5, .int 0), (4, .int 1), (0, .ref a0), (1, .ref a1), (2, .long p2)]) hx hb d_Me_sidesDistance_4 hl (by decide) rfl (fun ls hl => ?_)
  obtain ⟨K36, eK36, h⟩ := gj h
  have hK36 : ∀ (x1 : Int32) (w : gW) (H : Heap) (locs : List Loc) (ls : Array Slot), K36 x1 w = some r → gI D s A w H locs → lv_has ls 6 [(4, .int x1)] → W p l e rm_Me_sidesDistance s m args below meth c H locs 0 0 Q (F0 m 36 ls []) := by
    intro x1 w H locs ls h hI hl
    have h := gk2 eK36 h
    refine lv_iload hx hb d_Me_sidesDistance_36 (lv_at hl 0 rfl) ?_
    exact W.widen (show 0 ≤ 0 by omega) (show 0 ≤ 0 by omega) (hret _ _ (Option.some.inj h).symm _ _ _ _ d_Me_sidesDistance_38 hI)
  have hL6 : ∀ (n : Nat), ∀ (z2 : Int32) (z3 : Int32) (w : gW) (H : Heap) (locs : List Loc) (ls : Array Slot), f_Me_sidesDistance_L6 g0 a0 a1 p2 K36 n z2 z3 w = some r → gI D s A w H locs → lv_has ls 6 [(0, .ref a0), (1, .ref a1), (2, .long p2), (4, .int z2), (5, .int z3)] → W p l e rm_Me_sidesDistance s m args below meth c H locs 0 0 Q (F0 m 6 ls []) := by
    intro n
    induction n with
    | zero => intro z2 z3 w H locs ls h hI hl; exact absurd h (by simp [f_Me_sidesDistance_L6])
    | succ n ih =>
      intro z2 z3 w H locs ls h hI hl
      rw [f_Me_sidesDistance_L6] at h
      refine lv_iload hx hb d_Me_sidesDistance_6 (lv_at hl 4 rfl) ?_
      refine lv_aload_n hx hb d_Me_sidesDistance_8 rfl (lv_at hl 0 rfl) ?_
      obtain ⟨v4, e5, h⟩ := gb h
      refine gw_getI hx hb hT hown hK hI (ci := 3) rfl i_3 5 (by decide) wd_140 (fun _ h9 => h9) e5 d_Me_sidesDistance_9 ?_
      refine lv_icmp_ge (tgt := 36) hx hb d_Me_sidesDistance_12 (by decide) (fun c6 => ?_) (fun c6 => ?_)
      · skip
        have h := git c6 h
        exact hK36 _ w H locs ls h hI (lv_sub hl [3] rfl)
      · skip
        have h := gie c6 h
        refine lv_iload hx hb d_Me_sidesDistance_15 (lv_at hl 3 rfl) ?_
        refine lv_aload_n hx hb d_Me_sidesDistance_17 rfl (lv_at hl 0 rfl) ?_
        refine lv_iload hx hb d_Me_sidesDistance_18 (lv_at hl 4 rfl) ?_
        refine lv_aload_n hx hb d_Me_sidesDistance_20 rfl (lv_at hl 1 rfl) ?_
        refine lv_lload_n hx hb d_Me_sidesDistance_21 rfl (lv_at hl 2 rfl) ?_
        obtain ⟨u7, e8⟩ := gsome h
        refine gw_callI e8 h (gw_runS (As := [.ref a0, .int z3, .ref a1, .long p2]) (rest := [.int z2]) hx hb hml hown hT hK hZ hA hI (m_Me_sideDistance l hst D g0 a0 z3 a1 p2 w u7 e8) ce_Me_sideDistance wd_403 ⟨by decide, by decide⟩ rfl rfl hl.1 rfl (lv_room (Nat.le_of_ble_eq_true rfl)) d_Me_sidesDistance_22 ⟨(show 0 + 0 ≤ 0 by omega), (show 0 + 0 ≤ 0 by omega)⟩) hI hA hexc (show 0 + 0 ≤ 0 by omega) (show 0 + 0 ≤ 0 by omega) (fun v9 w H locs h hI => ?_)
        obtain ⟨u10, e11⟩ := gsome h
        refine gw_callI e11 h (gw_runS (As := [.int z2, .int v9]) (rest := []) hx hb hml hown hT hK hZ hA hI (m_Ma_min l hst D g0 z2 v9 w u10 e11) ce_Ma_min wd_389 ⟨by decide, by decide⟩ rfl rfl hl.1 rfl (lv_room (Nat.le_of_ble_eq_true rfl)) d_Me_sidesDistance_25 ⟨(show 0 + 0 ≤ 0 by omega), (show 0 + 0 ≤ 0 by omega)⟩) hI hA hexc (show 0 + 0 ≤ 0 by omega) (show 0 + 0 ≤ 0 by omega) (fun v12 w H locs h hI => ?_)
        refine lv_istore (lv' := [(4, .int v12), (0, .ref a0), (1, .ref a1), (2, .long p2), (5, .int z3)]) hx hb d_Me_sidesDistance_28 hl (by decide) rfl (fun ls hl => ?_)
        refine lv_iinc (v := z3 + 1) (lv' := [(5, .int (z3 + 1)), (4, .int v12), (0, .ref a0), (1, .ref a1), (2, .long p2)]) hx hb d_Me_sidesDistance_30 hl (k := 4) rfl rfl (by decide) rfl (fun ls hl => ?_)
        refine lv_goto (tgt := 6) hx hb d_Me_sidesDistance_33 (by decide) ?_
        exact ih _ _ w H locs ls h hI (lv_sub hl [2, 3, 4, 1, 0] rfl)
  exact hL6 64 _ _ w H locs ls h hI (lv_sub hl [2, 3, 4, 1, 0] rfl)

abbrev b_Me_distance : ByteArray := prog_5_method_8_code
def y_Me_distance : MethodName := ⟨"BodySolids$Meeting", "distance", "(LBodySolids$Solid;LBodySolids$Solid;J)I"⟩
theorem d_Me_distance_0 : decode b_Me_distance 0 = .ok (.aload_n 0, 1) := by decide +kernel
theorem d_Me_distance_1 : decode b_Me_distance 1 = .ok (.aload_n 1, 1) := by decide +kernel
theorem d_Me_distance_2 : decode b_Me_distance 2 = .ok (.invokestatic 42, 3) := by decide +kernel
theorem d_Me_distance_5 : decode b_Me_distance 5 = .ok (.iconst 1, 1) := by decide +kernel
theorem d_Me_distance_6 : decode b_Me_distance 6 = .ok (.if_icmp .eq 9, 3) := by decide +kernel
theorem d_Me_distance_9 : decode b_Me_distance 9 = .ok (.lload_n 2, 1) := by decide +kernel
theorem d_Me_distance_10 : decode b_Me_distance 10 = .ok (.lneg, 1) := by decide +kernel
theorem d_Me_distance_11 : decode b_Me_distance 11 = .ok (.invokestatic 50, 3) := by decide +kernel
theorem d_Me_distance_14 : decode b_Me_distance 14 = .ok (.ireturn, 1) := by decide +kernel
theorem d_Me_distance_15 : decode b_Me_distance 15 = .ok (.aload_n 0, 1) := by decide +kernel
theorem d_Me_distance_16 : decode b_Me_distance 16 = .ok (.getfield 71, 3) := by decide +kernel
theorem d_Me_distance_19 : decode b_Me_distance 19 = .ok (.iconst 2, 1) := by decide +kernel
theorem d_Me_distance_20 : decode b_Me_distance 20 = .ok (.if_icmp .ne 19, 3) := by decide +kernel
theorem d_Me_distance_23 : decode b_Me_distance 23 = .ok (.aload_n 0, 1) := by decide +kernel
theorem d_Me_distance_24 : decode b_Me_distance 24 = .ok (.aload_n 1, 1) := by decide +kernel
theorem d_Me_distance_25 : decode b_Me_distance 25 = .ok (.lload_n 2, 1) := by decide +kernel
theorem d_Me_distance_26 : decode b_Me_distance 26 = .ok (.invokestatic 91, 3) := by decide +kernel
theorem d_Me_distance_29 : decode b_Me_distance 29 = .ok (.aload_n 0, 1) := by decide +kernel
theorem d_Me_distance_30 : decode b_Me_distance 30 = .ok (.aload_n 1, 1) := by decide +kernel
theorem d_Me_distance_31 : decode b_Me_distance 31 = .ok (.lload_n 2, 1) := by decide +kernel
theorem d_Me_distance_32 : decode b_Me_distance 32 = .ok (.invokestatic 94, 3) := by decide +kernel
theorem d_Me_distance_35 : decode b_Me_distance 35 = .ok (.invokestatic 88, 3) := by decide +kernel
theorem d_Me_distance_38 : decode b_Me_distance 38 = .ok (.ireturn, 1) := by decide +kernel
theorem d_Me_distance_39 : decode b_Me_distance 39 = .ok (.aload_n 1, 1) := by decide +kernel
theorem d_Me_distance_40 : decode b_Me_distance 40 = .ok (.getfield 71, 3) := by decide +kernel
theorem d_Me_distance_43 : decode b_Me_distance 43 = .ok (.iconst 2, 1) := by decide +kernel
theorem d_Me_distance_44 : decode b_Me_distance 44 = .ok (.if_icmp .ne 19, 3) := by decide +kernel
theorem d_Me_distance_47 : decode b_Me_distance 47 = .ok (.aload_n 1, 1) := by decide +kernel
theorem d_Me_distance_48 : decode b_Me_distance 48 = .ok (.aload_n 0, 1) := by decide +kernel
theorem d_Me_distance_49 : decode b_Me_distance 49 = .ok (.lload_n 2, 1) := by decide +kernel
theorem d_Me_distance_50 : decode b_Me_distance 50 = .ok (.invokestatic 91, 3) := by decide +kernel
theorem d_Me_distance_53 : decode b_Me_distance 53 = .ok (.aload_n 1, 1) := by decide +kernel
theorem d_Me_distance_54 : decode b_Me_distance 54 = .ok (.aload_n 0, 1) := by decide +kernel
theorem d_Me_distance_55 : decode b_Me_distance 55 = .ok (.lload_n 2, 1) := by decide +kernel
theorem d_Me_distance_56 : decode b_Me_distance 56 = .ok (.invokestatic 94, 3) := by decide +kernel
theorem d_Me_distance_59 : decode b_Me_distance 59 = .ok (.invokestatic 88, 3) := by decide +kernel
theorem d_Me_distance_62 : decode b_Me_distance 62 = .ok (.ireturn, 1) := by decide +kernel
theorem d_Me_distance_63 : decode b_Me_distance 63 = .ok (.aload_n 0, 1) := by decide +kernel
theorem d_Me_distance_64 : decode b_Me_distance 64 = .ok (.getfield 18, 3) := by decide +kernel
theorem d_Me_distance_67 : decode b_Me_distance 67 = .ok (.aload_n 0, 1) := by decide +kernel
theorem d_Me_distance_68 : decode b_Me_distance 68 = .ok (.getfield 21, 3) := by decide +kernel
theorem d_Me_distance_71 : decode b_Me_distance 71 = .ok (.aload_n 1, 1) := by decide +kernel
theorem d_Me_distance_72 : decode b_Me_distance 72 = .ok (.getfield 18, 3) := by decide +kernel
theorem d_Me_distance_75 : decode b_Me_distance 75 = .ok (.aload_n 1, 1) := by decide +kernel
theorem d_Me_distance_76 : decode b_Me_distance 76 = .ok (.getfield 21, 3) := by decide +kernel
theorem d_Me_distance_79 : decode b_Me_distance 79 = .ok (.invokestatic 24, 3) := by decide +kernel
theorem d_Me_distance_82 : decode b_Me_distance 82 = .ok (.lstore 4, 2) := by decide +kernel
theorem d_Me_distance_84 : decode b_Me_distance 84 = .ok (.aload_n 0, 1) := by decide +kernel
theorem d_Me_distance_85 : decode b_Me_distance 85 = .ok (.getfield 30, 3) := by decide +kernel
theorem d_Me_distance_88 : decode b_Me_distance 88 = .ok (.aload_n 0, 1) := by decide +kernel
theorem d_Me_distance_89 : decode b_Me_distance 89 = .ok (.getfield 33, 3) := by decide +kernel
theorem d_Me_distance_92 : decode b_Me_distance 92 = .ok (.aload_n 1, 1) := by decide +kernel
theorem d_Me_distance_93 : decode b_Me_distance 93 = .ok (.getfield 30, 3) := by decide +kernel
theorem d_Me_distance_96 : decode b_Me_distance 96 = .ok (.aload_n 1, 1) := by decide +kernel
theorem d_Me_distance_97 : decode b_Me_distance 97 = .ok (.getfield 33, 3) := by decide +kernel
theorem d_Me_distance_100 : decode b_Me_distance 100 = .ok (.invokestatic 24, 3) := by decide +kernel
theorem d_Me_distance_103 : decode b_Me_distance 103 = .ok (.lstore 6, 2) := by decide +kernel
theorem d_Me_distance_105 : decode b_Me_distance 105 = .ok (.lload 4, 2) := by decide +kernel
theorem d_Me_distance_107 : decode b_Me_distance 107 = .ok (.invokestatic 60, 3) := by decide +kernel
theorem d_Me_distance_110 : decode b_Me_distance 110 = .ok (.lload 6, 2) := by decide +kernel
theorem d_Me_distance_112 : decode b_Me_distance 112 = .ok (.invokestatic 60, 3) := by decide +kernel
theorem d_Me_distance_115 : decode b_Me_distance 115 = .ok (.ladd, 1) := by decide +kernel
theorem d_Me_distance_116 : decode b_Me_distance 116 = .ok (.lload_n 2, 1) := by decide +kernel
theorem d_Me_distance_117 : decode b_Me_distance 117 = .ok (.lsub, 1) := by decide +kernel
theorem d_Me_distance_118 : decode b_Me_distance 118 = .ok (.invokestatic 50, 3) := by decide +kernel
theorem d_Me_distance_121 : decode b_Me_distance 121 = .ok (.ireturn, 1) := by decide +kernel
abbrev rm_Me_distance : Room := { frames := 3, cells := 0, slots := 0, locals := 87 }
theorem ce_Me_distance : gCe y_Me_distance (.code y_Me_distance b_Me_distance 8 (some .int)) 8 3 true := gCe.code wd_393 wd_69 wd_392 (by decide) (by decide +kernel)
def f_Me_distance (g0 : gG) (a0 : Nat) (a1 : Nat) (p2 : Int64) (w : gW) : gX Int32 := gbind (f_Me_outlines g0 a0 a1 w) fun v3 w => if v3 = 1 then ((gfI w a0 3 0).bind fun v5 => if v5 = 2 then (gbind (f_Me_cornersDistance g0 a0 a1 p2 w) fun v53 w => gbind (f_Me_sidesDistance g0 a0 a1 p2 w) fun v56 w => gbind (f_Ma_min g0 v53 v56 w) fun v59 w => some (.inr v59, w)) else ((gfI w a1 3 0).bind fun v8 => if v8 = 2 then (gbind (f_Me_cornersDistance g0 a1 a0 p2 w) fun v44 w => gbind (f_Me_sidesDistance g0 a1 a0 p2 w) fun v47 w => gbind (f_Ma_min g0 v44 v47 w) fun v50 w => some (.inr v50, w)) else ((gfJ w a0 3 6).bind fun v11 => (gfJ w a0 3 9).bind fun v13 => (gfJ w a1 3 6).bind fun v15 => (gfJ w a1 3 9).bind fun v17 => gbind (f_Me_gap g0 v11 v13 v15 v17 w) fun v21 w => (gfJ w a0 3 7).bind fun v22 => (gfJ w a0 3 10).bind fun v24 => (gfJ w a1 3 7).bind fun v26 => (gfJ w a1 3 10).bind fun v28 => gbind (f_Me_gap g0 v22 v24 v26 v28 w) fun v32 w => gbind (f_Me_squareIfAbove g0 v21 w) fun v35 w => gbind (f_Me_squareIfAbove g0 v32 w) fun v38 w => gbind (f_Me_sign g0 ((v35 + v38) - p2) w) fun v41 w => some (.inr v41, w)))) else (gbind (f_Me_sign g0 (-p2) w) fun v62 w => some (.inr v62, w))
set_option maxHeartbeats 4000000 in
set_option maxRecDepth 100000 in
theorem m_Me_distance (l : Launch) (hst : l.stackTraces = false) (D : gD) (g0 : gG) (a0 : Nat) (a1 : Nat) (p2 : Int64) (w : gW) (r : (String ⊕ Int32) × gW) (h : f_Me_distance g0 a0 a1 p2 w = some r) : gMet l y_Me_distance (.code y_Me_distance b_Me_distance 8 (some .int)) rm_Me_distance D g0 [.ref a0, .ref a1, .long p2] w (goI r) := by
  refine gw_ofI (by decide +kernel) (Nat.le_of_ble_eq_true rfl) ?_
  intro p e s m below meth c ls args A Q hx hb hml hown hlocks hin hnt hT hK hZ hA hret hexc hthr hI hl
  obtain ⟨H, hH⟩ : ∃ H, H = s.heap := ⟨_, rfl⟩
  rw [← hH] at hI ⊢
  obtain ⟨locs, hlocs⟩ : ∃ z : List Loc, z = [] := ⟨_, rfl⟩
  rw [← hlocs] at hI ⊢
  have hl : lv_has ls 8 [(0, .ref a0), (1, .ref a1), (2, .long p2)] := hl
  unfold f_Me_distance at h
  refine lv_aload_n hx hb d_Me_distance_0 rfl (lv_at hl 0 rfl) ?_
  refine lv_aload_n hx hb d_Me_distance_1 rfl (lv_at hl 1 rfl) ?_
  obtain ⟨u1, e2⟩ := gsome h
  refine gw_callI e2 h (gw_runS (As := [.ref a0, .ref a1]) (rest := []) hx hb hml hown hT hK hZ hA hI (m_Me_outlines l hst D g0 a0 a1 w u1 e2) ce_Me_outlines wd_380 ⟨by decide, by decide⟩ rfl rfl hl.1 rfl (lv_room (Nat.le_of_ble_eq_true rfl)) d_Me_distance_2 ⟨(show 0 + 0 ≤ 0 by omega), (show 0 + 0 ≤ 0 by omega)⟩) hI hA hexc (show 0 + 0 ≤ 0 by omega) (show 0 + 0 ≤ 0 by omega) (fun v3 w H locs h hI => ?_)
  refine lv_iconst (v := 1) hx hb d_Me_distance_5 (by decide) ?_
  refine lv_icmp_eq (tgt := 15) hx hb d_Me_distance_6 (by decide) (fun c4 => ?_) (fun c4 => ?_)
  · skip
    have h := git c4 h
    refine lv_aload_n hx hb d_Me_distance_15 rfl (lv_at hl 0 rfl) ?_
    obtain ⟨v5, e6, h⟩ := gb h
    refine gw_getI hx hb hT hown hK hI (ci := 3) rfl i_3 0 (by decide) wd_130 (fun _ h9 => h9) e6 d_Me_distance_16 ?_
    refine lv_iconst (v := 2) hx hb d_Me_distance_19 (by decide) ?_
    refine lv_icmp_ne (tgt := 39) hx hb d_Me_distance_20 (by decide) (fun c7 => ?_) (fun c7 => ?_)
    · skip
      have h := gie c7 h
      refine lv_aload_n hx hb d_Me_distance_39 rfl (lv_at hl 1 rfl) ?_
      obtain ⟨v8, e9, h⟩ := gb h
      refine gw_getI hx hb hT hown hK hI (ci := 3) rfl i_3 0 (by decide) wd_130 (fun _ h9 => h9) e9 d_Me_distance_40 ?_
      refine lv_iconst (v := 2) hx hb d_Me_distance_43 (by decide) ?_
      refine lv_icmp_ne (tgt := 63) hx hb d_Me_distance_44 (by decide) (fun c10 => ?_) (fun c10 => ?_)
      · skip
        have h := gie c10 h
        refine lv_aload_n hx hb d_Me_distance_63 rfl (lv_at hl 0 rfl) ?_
        obtain ⟨v11, e12, h⟩ := gb h
        refine gw_getJ hx hb hT hown hK hI (ci := 3) rfl i_3 6 (by decide) wd_141 (fun _ h9 => h9) e12 d_Me_distance_64 ?_
        refine lv_aload_n hx hb d_Me_distance_67 rfl (lv_at hl 0 rfl) ?_
        obtain ⟨v13, e14, h⟩ := gb h
        refine gw_getJ hx hb hT hown hK hI (ci := 3) rfl i_3 9 (by decide) wd_147 (fun _ h9 => h9) e14 d_Me_distance_68 ?_
        refine lv_aload_n hx hb d_Me_distance_71 rfl (lv_at hl 1 rfl) ?_
        obtain ⟨v15, e16, h⟩ := gb h
        refine gw_getJ hx hb hT hown hK hI (ci := 3) rfl i_3 6 (by decide) wd_141 (fun _ h9 => h9) e16 d_Me_distance_72 ?_
        refine lv_aload_n hx hb d_Me_distance_75 rfl (lv_at hl 1 rfl) ?_
        obtain ⟨v17, e18, h⟩ := gb h
        refine gw_getJ hx hb hT hown hK hI (ci := 3) rfl i_3 9 (by decide) wd_147 (fun _ h9 => h9) e18 d_Me_distance_76 ?_
        obtain ⟨u19, e20⟩ := gsome h
        refine gw_callJ e20 h (gw_runS (As := [.long v11, .long v13, .long v15, .long v17]) (rest := []) hx hb hml hown hT hK hZ hA hI (m_Me_gap l hst D g0 v11 v13 v15 v17 w u19 e20) ce_Me_gap wd_376 ⟨by decide, by decide⟩ rfl rfl hl.1 rfl (lv_room (Nat.le_of_ble_eq_true rfl)) d_Me_distance_79 ⟨(show 0 + 0 ≤ 0 by omega), (show 0 + 0 ≤ 0 by omega)⟩) hI hA hexc (show 0 + 0 ≤ 0 by omega) (show 0 + 0 ≤ 0 by omega) (fun v21 w H locs h hI => ?_)
        refine lv_lstore (lv' := [(4, .long v21), (0, .ref a0), (1, .ref a1), (2, .long p2)]) hx hb d_Me_distance_82 hl (by decide) rfl (fun ls hl => ?_)
        refine lv_aload_n hx hb d_Me_distance_84 rfl (lv_at hl 1 rfl) ?_
        obtain ⟨v22, e23, h⟩ := gb h
        refine gw_getJ hx hb hT hown hK hI (ci := 3) rfl i_3 7 (by decide) wd_143 (fun _ h9 => h9) e23 d_Me_distance_85 ?_
        refine lv_aload_n hx hb d_Me_distance_88 rfl (lv_at hl 1 rfl) ?_
        obtain ⟨v24, e25, h⟩ := gb h
        refine gw_getJ hx hb hT hown hK hI (ci := 3) rfl i_3 10 (by decide) wd_149 (fun _ h9 => h9) e25 d_Me_distance_89 ?_
        refine lv_aload_n hx hb d_Me_distance_92 rfl (lv_at hl 2 rfl) ?_
        obtain ⟨v26, e27, h⟩ := gb h
        refine gw_getJ hx hb hT hown hK hI (ci := 3) rfl i_3 7 (by decide) wd_143 (fun _ h9 => h9) e27 d_Me_distance_93 ?_
        refine lv_aload_n hx hb d_Me_distance_96 rfl (lv_at hl 2 rfl) ?_
        obtain ⟨v28, e29, h⟩ := gb h
        refine gw_getJ hx hb hT hown hK hI (ci := 3) rfl i_3 10 (by decide) wd_149 (fun _ h9 => h9) e29 d_Me_distance_97 ?_
        obtain ⟨u30, e31⟩ := gsome h
        refine gw_callJ e31 h (gw_runS (As := [.long v22, .long v24, .long v26, .long v28]) (rest := []) hx hb hml hown hT hK hZ hA hI (m_Me_gap l hst D g0 v22 v24 v26 v28 w u30 e31) ce_Me_gap wd_376 ⟨by decide, by decide⟩ rfl rfl hl.1 rfl (lv_room (Nat.le_of_ble_eq_true rfl)) d_Me_distance_100 ⟨(show 0 + 0 ≤ 0 by omega), (show 0 + 0 ≤ 0 by omega)⟩) hI hA hexc (show 0 + 0 ≤ 0 by omega) (show 0 + 0 ≤ 0 by omega) (fun v32 w H locs h hI => ?_)
        refine lv_lstore (lv' := [(6, .long v32), (4, .long v21), (0, .ref a0), (1, .ref a1), (2, .long p2)]) hx hb d_Me_distance_103 hl (by decide) rfl (fun ls hl => ?_)
        refine lv_lload hx hb d_Me_distance_105 (lv_at hl 1 rfl) ?_
        obtain ⟨u33, e34⟩ := gsome h
        refine gw_callJ e34 h (gw_runS (As := [.long v21]) (rest := []) hx hb hml hown hT hK hZ hA hI (m_Me_squareIfAbove l hst D g0 v21 w u33 e34) ce_Me_squareIfAbove wd_397 ⟨by decide, by decide⟩ rfl rfl hl.1 rfl (lv_room (Nat.le_of_ble_eq_true rfl)) d_Me_distance_107 ⟨(show 0 + 0 ≤ 0 by omega), (show 0 + 0 ≤ 0 by omega)⟩) hI hA hexc (show 0 + 0 ≤ 0 by omega) (show 0 + 0 ≤ 0 by omega) (fun v35 w H locs h hI => ?_)
        refine lv_lload hx hb d_Me_distance_110 (lv_at hl 0 rfl) ?_
        obtain ⟨u36, e37⟩ := gsome h
        refine gw_callJ e37 h (gw_runS (As := [.long v32]) (rest := [.long v35]) hx hb hml hown hT hK hZ hA hI (m_Me_squareIfAbove l hst D g0 v32 w u36 e37) ce_Me_squareIfAbove wd_397 ⟨by decide, by decide⟩ rfl rfl hl.1 rfl (lv_room (Nat.le_of_ble_eq_true rfl)) d_Me_distance_112 ⟨(show 0 + 0 ≤ 0 by omega), (show 0 + 0 ≤ 0 by omega)⟩) hI hA hexc (show 0 + 0 ≤ 0 by omega) (show 0 + 0 ≤ 0 by omega) (fun v38 w H locs h hI => ?_)
        refine lv_ladd hx hb d_Me_distance_115 ?_
        refine lv_lload_n hx hb d_Me_distance_116 rfl (lv_at hl 4 rfl) ?_
        refine lv_lsub hx hb d_Me_distance_117 ?_
        obtain ⟨u39, e40⟩ := gsome h
        refine gw_callI e40 h (gw_runS (As := [.long ((v35 + v38) - p2)]) (rest := []) hx hb hml hown hT hK hZ hA hI (m_Me_sign l hst D g0 ((v35 + v38) - p2) w u39 e40) ce_Me_sign wd_383 ⟨by decide, by decide⟩ rfl rfl hl.1 rfl (lv_room (Nat.le_of_ble_eq_true rfl)) d_Me_distance_118 ⟨(show 0 + 0 ≤ 0 by omega), (show 0 + 0 ≤ 0 by omega)⟩) hI hA hexc (show 0 + 0 ≤ 0 by omega) (show 0 + 0 ≤ 0 by omega) (fun v41 w H locs h hI => ?_)
        exact W.widen (show 0 ≤ 0 by omega) (show 0 ≤ 0 by omega) (hret _ _ (Option.some.inj h).symm _ _ _ _ d_Me_distance_121 hI)
      · skip
        have h := git c10 h
        refine lv_aload_n hx hb d_Me_distance_47 rfl (lv_at hl 1 rfl) ?_
        refine lv_aload_n hx hb d_Me_distance_48 rfl (lv_at hl 0 rfl) ?_
        refine lv_lload_n hx hb d_Me_distance_49 rfl (lv_at hl 2 rfl) ?_
        obtain ⟨u42, e43⟩ := gsome h
        refine gw_callI e43 h (gw_runS (As := [.ref a1, .ref a0, .long p2]) (rest := []) hx hb hml hown hT hK hZ hA hI (m_Me_cornersDistance l hst D g0 a1 a0 p2 w u42 e43) ce_Me_cornersDistance wd_394 ⟨by decide, by decide⟩ rfl rfl hl.1 rfl (lv_room (Nat.le_of_ble_eq_true rfl)) d_Me_distance_50 ⟨(show 0 + 0 ≤ 0 by omega), (show 0 + 0 ≤ 0 by omega)⟩) hI hA hexc (show 0 + 0 ≤ 0 by omega) (show 0 + 0 ≤ 0 by omega) (fun v44 w H locs h hI => ?_)
        refine lv_aload_n hx hb d_Me_distance_53 rfl (lv_at hl 1 rfl) ?_
        refine lv_aload_n hx hb d_Me_distance_54 rfl (lv_at hl 0 rfl) ?_
        refine lv_lload_n hx hb d_Me_distance_55 rfl (lv_at hl 2 rfl) ?_
        obtain ⟨u45, e46⟩ := gsome h
        refine gw_callI e46 h (gw_runS (As := [.ref a1, .ref a0, .long p2]) (rest := [.int v44]) hx hb hml hown hT hK hZ hA hI (m_Me_sidesDistance l hst D g0 a1 a0 p2 w u45 e46) ce_Me_sidesDistance wd_400 ⟨by decide, by decide⟩ rfl rfl hl.1 rfl (lv_room (Nat.le_of_ble_eq_true rfl)) d_Me_distance_56 ⟨(show 0 + 0 ≤ 0 by omega), (show 0 + 0 ≤ 0 by omega)⟩) hI hA hexc (show 0 + 0 ≤ 0 by omega) (show 0 + 0 ≤ 0 by omega) (fun v47 w H locs h hI => ?_)
        obtain ⟨u48, e49⟩ := gsome h
        refine gw_callI e49 h (gw_runS (As := [.int v44, .int v47]) (rest := []) hx hb hml hown hT hK hZ hA hI (m_Ma_min l hst D g0 v44 v47 w u48 e49) ce_Ma_min wd_389 ⟨by decide, by decide⟩ rfl rfl hl.1 rfl (lv_room (Nat.le_of_ble_eq_true rfl)) d_Me_distance_59 ⟨(show 0 + 0 ≤ 0 by omega), (show 0 + 0 ≤ 0 by omega)⟩) hI hA hexc (show 0 + 0 ≤ 0 by omega) (show 0 + 0 ≤ 0 by omega) (fun v50 w H locs h hI => ?_)
        exact W.widen (show 0 ≤ 0 by omega) (show 0 ≤ 0 by omega) (hret _ _ (Option.some.inj h).symm _ _ _ _ d_Me_distance_62 hI)
    · skip
      have h := git c7 h
      refine lv_aload_n hx hb d_Me_distance_23 rfl (lv_at hl 0 rfl) ?_
      refine lv_aload_n hx hb d_Me_distance_24 rfl (lv_at hl 1 rfl) ?_
      refine lv_lload_n hx hb d_Me_distance_25 rfl (lv_at hl 2 rfl) ?_
      obtain ⟨u51, e52⟩ := gsome h
      refine gw_callI e52 h (gw_runS (As := [.ref a0, .ref a1, .long p2]) (rest := []) hx hb hml hown hT hK hZ hA hI (m_Me_cornersDistance l hst D g0 a0 a1 p2 w u51 e52) ce_Me_cornersDistance wd_394 ⟨by decide, by decide⟩ rfl rfl hl.1 rfl (lv_room (Nat.le_of_ble_eq_true rfl)) d_Me_distance_26 ⟨(show 0 + 0 ≤ 0 by omega), (show 0 + 0 ≤ 0 by omega)⟩) hI hA hexc (show 0 + 0 ≤ 0 by omega) (show 0 + 0 ≤ 0 by omega) (fun v53 w H locs h hI => ?_)
      refine lv_aload_n hx hb d_Me_distance_29 rfl (lv_at hl 0 rfl) ?_
      refine lv_aload_n hx hb d_Me_distance_30 rfl (lv_at hl 1 rfl) ?_
      refine lv_lload_n hx hb d_Me_distance_31 rfl (lv_at hl 2 rfl) ?_
      obtain ⟨u54, e55⟩ := gsome h
      refine gw_callI e55 h (gw_runS (As := [.ref a0, .ref a1, .long p2]) (rest := [.int v53]) hx hb hml hown hT hK hZ hA hI (m_Me_sidesDistance l hst D g0 a0 a1 p2 w u54 e55) ce_Me_sidesDistance wd_400 ⟨by decide, by decide⟩ rfl rfl hl.1 rfl (lv_room (Nat.le_of_ble_eq_true rfl)) d_Me_distance_32 ⟨(show 0 + 0 ≤ 0 by omega), (show 0 + 0 ≤ 0 by omega)⟩) hI hA hexc (show 0 + 0 ≤ 0 by omega) (show 0 + 0 ≤ 0 by omega) (fun v56 w H locs h hI => ?_)
      obtain ⟨u57, e58⟩ := gsome h
      refine gw_callI e58 h (gw_runS (As := [.int v53, .int v56]) (rest := []) hx hb hml hown hT hK hZ hA hI (m_Ma_min l hst D g0 v53 v56 w u57 e58) ce_Ma_min wd_389 ⟨by decide, by decide⟩ rfl rfl hl.1 rfl (lv_room (Nat.le_of_ble_eq_true rfl)) d_Me_distance_35 ⟨(show 0 + 0 ≤ 0 by omega), (show 0 + 0 ≤ 0 by omega)⟩) hI hA hexc (show 0 + 0 ≤ 0 by omega) (show 0 + 0 ≤ 0 by omega) (fun v59 w H locs h hI => ?_)
      exact W.widen (show 0 ≤ 0 by omega) (show 0 ≤ 0 by omega) (hret _ _ (Option.some.inj h).symm _ _ _ _ d_Me_distance_38 hI)
  · skip
    have h := gie c4 h
    refine lv_lload_n hx hb d_Me_distance_9 rfl (lv_at hl 2 rfl) ?_
    refine lv_lneg hx hb d_Me_distance_10 ?_
    obtain ⟨u60, e61⟩ := gsome h
    refine gw_callI e61 h (gw_runS (As := [.long (-p2)]) (rest := []) hx hb hml hown hT hK hZ hA hI (m_Me_sign l hst D g0 (-p2) w u60 e61) ce_Me_sign wd_383 ⟨by decide, by decide⟩ rfl rfl hl.1 rfl (lv_room (Nat.le_of_ble_eq_true rfl)) d_Me_distance_11 ⟨(show 0 + 0 ≤ 0 by omega), (show 0 + 0 ≤ 0 by omega)⟩) hI hA hexc (show 0 + 0 ≤ 0 by omega) (show 0 + 0 ≤ 0 by omega) (fun v62 w H locs h hI => ?_)
    exact W.widen (show 0 ≤ 0 by omega) (show 0 ≤ 0 by omega) (hret _ _ (Option.some.inj h).symm _ _ _ _ d_Me_distance_14 hI)

abbrev b_Me_discAndRound : ByteArray := prog_5_method_12_code
def y_Me_discAndRound : MethodName := ⟨"BodySolids$Meeting", "discAndRound", "(JJJ)I"⟩
theorem d_Me_discAndRound_0 : decode b_Me_discAndRound 0 = .ok (.lload_n 0, 1) := by decide +kernel
theorem d_Me_discAndRound_1 : decode b_Me_discAndRound 1 = .ok (.lload_n 2, 1) := by decide +kernel
theorem d_Me_discAndRound_2 : decode b_Me_discAndRound 2 = .ok (.lload_n 2, 1) := by decide +kernel
theorem d_Me_discAndRound_3 : decode b_Me_discAndRound 3 = .ok (.lmul, 1) := by decide +kernel
theorem d_Me_discAndRound_4 : decode b_Me_discAndRound 4 = .ok (.lcmp, 1) := by decide +kernel
theorem d_Me_discAndRound_5 : decode b_Me_discAndRound 5 = .ok (.ifCond .gt 10, 3) := by decide +kernel
theorem d_Me_discAndRound_8 : decode b_Me_discAndRound 8 = .ok (.lload 4, 2) := by decide +kernel
theorem d_Me_discAndRound_10 : decode b_Me_discAndRound 10 = .ok (.lneg, 1) := by decide +kernel
theorem d_Me_discAndRound_11 : decode b_Me_discAndRound 11 = .ok (.invokestatic 50, 3) := by decide +kernel
theorem d_Me_discAndRound_14 : decode b_Me_discAndRound 14 = .ok (.ireturn, 1) := by decide +kernel
theorem d_Me_discAndRound_15 : decode b_Me_discAndRound 15 = .ok (.lload_n 0, 1) := by decide +kernel
theorem d_Me_discAndRound_16 : decode b_Me_discAndRound 16 = .ok (.lload_n 2, 1) := by decide +kernel
theorem d_Me_discAndRound_17 : decode b_Me_discAndRound 17 = .ok (.lload_n 2, 1) := by decide +kernel
theorem d_Me_discAndRound_18 : decode b_Me_discAndRound 18 = .ok (.lmul, 1) := by decide +kernel
theorem d_Me_discAndRound_19 : decode b_Me_discAndRound 19 = .ok (.ladd, 1) := by decide +kernel
theorem d_Me_discAndRound_20 : decode b_Me_discAndRound 20 = .ok (.lload 4, 2) := by decide +kernel
theorem d_Me_discAndRound_22 : decode b_Me_discAndRound 22 = .ok (.lsub, 1) := by decide +kernel
theorem d_Me_discAndRound_23 : decode b_Me_discAndRound 23 = .ok (.lstore 6, 2) := by decide +kernel
theorem d_Me_discAndRound_25 : decode b_Me_discAndRound 25 = .ok (.lload 6, 2) := by decide +kernel
theorem d_Me_discAndRound_27 : decode b_Me_discAndRound 27 = .ok (.lconst 0, 1) := by decide +kernel
theorem d_Me_discAndRound_28 : decode b_Me_discAndRound 28 = .ok (.lcmp, 1) := by decide +kernel
theorem d_Me_discAndRound_29 : decode b_Me_discAndRound 29 = .ok (.ifCond .ge 5, 3) := by decide +kernel
theorem d_Me_discAndRound_32 : decode b_Me_discAndRound 32 = .ok (.iconst (-1), 1) := by decide +kernel
theorem d_Me_discAndRound_33 : decode b_Me_discAndRound 33 = .ok (.ireturn, 1) := by decide +kernel
theorem d_Me_discAndRound_34 : decode b_Me_discAndRound 34 = .ok (.lload 6, 2) := by decide +kernel
theorem d_Me_discAndRound_36 : decode b_Me_discAndRound 36 = .ok (.lload 6, 2) := by decide +kernel
theorem d_Me_discAndRound_38 : decode b_Me_discAndRound 38 = .ok (.lmul, 1) := by decide +kernel
theorem d_Me_discAndRound_39 : decode b_Me_discAndRound 39 = .ok (.ldc2_w 101, 3) := by decide +kernel
theorem d_Me_discAndRound_42 : decode b_Me_discAndRound 42 = .ok (.lload_n 2, 1) := by decide +kernel
theorem d_Me_discAndRound_43 : decode b_Me_discAndRound 43 = .ok (.lmul, 1) := by decide +kernel
theorem d_Me_discAndRound_44 : decode b_Me_discAndRound 44 = .ok (.lload_n 2, 1) := by decide +kernel
theorem d_Me_discAndRound_45 : decode b_Me_discAndRound 45 = .ok (.lmul, 1) := by decide +kernel
theorem d_Me_discAndRound_46 : decode b_Me_discAndRound 46 = .ok (.lload_n 0, 1) := by decide +kernel
theorem d_Me_discAndRound_47 : decode b_Me_discAndRound 47 = .ok (.lmul, 1) := by decide +kernel
theorem d_Me_discAndRound_48 : decode b_Me_discAndRound 48 = .ok (.lsub, 1) := by decide +kernel
theorem d_Me_discAndRound_49 : decode b_Me_discAndRound 49 = .ok (.invokestatic 50, 3) := by decide +kernel
theorem d_Me_discAndRound_52 : decode b_Me_discAndRound 52 = .ok (.ireturn, 1) := by decide +kernel
abbrev rm_Me_discAndRound : Room := { frames := 1, cells := 0, slots := 0, locals := 21 }
theorem ce_Me_discAndRound : gCe y_Me_discAndRound (.code y_Me_discAndRound b_Me_discAndRound 8 (some .int)) 8 3 true := gCe.code wd_408 wd_69 wd_407 (by decide) (by decide +kernel)
def f_Me_discAndRound (g0 : gG) (p0 : Int64) (p1 : Int64) (p2 : Int64) (w : gW) : gX Int32 := if (p1 * p1) < p0 then (if 0 ≤ ((p0 + (p1 * p1)) - p2) then (gbind (f_Me_sign g0 ((((p0 + (p1 * p1)) - p2) * ((p0 + (p1 * p1)) - p2)) - (((4 * p1) * p1) * p0)) w) fun v5 w => some (.inr v5, w)) else (some (.inr (-1), w))) else (gbind (f_Me_sign g0 (-p2) w) fun v8 w => some (.inr v8, w))
set_option maxHeartbeats 4000000 in
set_option maxRecDepth 100000 in
theorem m_Me_discAndRound (l : Launch) (hst : l.stackTraces = false) (D : gD) (g0 : gG) (p0 : Int64) (p1 : Int64) (p2 : Int64) (w : gW) (r : (String ⊕ Int32) × gW) (h : f_Me_discAndRound g0 p0 p1 p2 w = some r) : gMet l y_Me_discAndRound (.code y_Me_discAndRound b_Me_discAndRound 8 (some .int)) rm_Me_discAndRound D g0 [.long p0, .long p1, .long p2] w (goI r) := by
  refine gw_ofI (by decide +kernel) (Nat.le_of_ble_eq_true rfl) ?_
  intro p e s m below meth c ls args A Q hx hb hml hown hlocks hin hnt hT hK hZ hA hret hexc hthr hI hl
  obtain ⟨H, hH⟩ : ∃ H, H = s.heap := ⟨_, rfl⟩
  rw [← hH] at hI ⊢
  obtain ⟨locs, hlocs⟩ : ∃ z : List Loc, z = [] := ⟨_, rfl⟩
  rw [← hlocs] at hI ⊢
  have hl : lv_has ls 8 [(0, .long p0), (2, .long p1), (4, .long p2)] := hl
  unfold f_Me_discAndRound at h
  refine lv_lload_n hx hb d_Me_discAndRound_0 rfl (lv_at hl 0 rfl) ?_
  refine lv_lload_n hx hb d_Me_discAndRound_1 rfl (lv_at hl 1 rfl) ?_
  refine lv_lload_n hx hb d_Me_discAndRound_2 rfl (lv_at hl 1 rfl) ?_
  refine lv_lmul hx hb d_Me_discAndRound_3 ?_
  refine W.lcmp hx hb d_Me_discAndRound_4 ?_
  refine lv_if_gt (tgt := 15) hx hb d_Me_discAndRound_5 (by decide) (fun c1 => ?_) (fun c1 => ?_)
  · have c1 := (lg_cmp_gt _ _).mp c1
    have h := git c1 h
    refine lv_lload_n hx hb d_Me_discAndRound_15 rfl (lv_at hl 0 rfl) ?_
    refine lv_lload_n hx hb d_Me_discAndRound_16 rfl (lv_at hl 1 rfl) ?_
    refine lv_lload_n hx hb d_Me_discAndRound_17 rfl (lv_at hl 1 rfl) ?_
    refine lv_lmul hx hb d_Me_discAndRound_18 ?_
    refine lv_ladd hx hb d_Me_discAndRound_19 ?_
    refine lv_lload hx hb d_Me_discAndRound_20 (lv_at hl 2 rfl) ?_
    refine lv_lsub hx hb d_Me_discAndRound_22 ?_
    refine lv_lstore (lv' := [(6, .long ((p0 + (p1 * p1)) - p2)), (0, .long p0), (2, .long p1), (4, .long p2)]) hx hb d_Me_discAndRound_23 hl (by decide) rfl (fun ls hl => ?_)
    refine lv_lload hx hb d_Me_discAndRound_25 (lv_at hl 0 rfl) ?_
    refine lv_lconst (v := 0) hx hb d_Me_discAndRound_27 (by decide) ?_
    refine W.lcmp hx hb d_Me_discAndRound_28 ?_
    refine lv_if_ge (tgt := 34) hx hb d_Me_discAndRound_29 (by decide) (fun c2 => ?_) (fun c2 => ?_)
    · have c2 := (lg_cmp_ge _ _).mp c2
      have h := git c2 h
      refine lv_lload hx hb d_Me_discAndRound_34 (lv_at hl 0 rfl) ?_
      refine lv_lload hx hb d_Me_discAndRound_36 (lv_at hl 0 rfl) ?_
      refine lv_lmul hx hb d_Me_discAndRound_38 ?_
      refine lv_ldc2 (v := 4) hx hb hown (hT _ wd_409 args) d_Me_discAndRound_39 ?_
      refine lv_lload_n hx hb d_Me_discAndRound_42 rfl (lv_at hl 2 rfl) ?_
      refine lv_lmul hx hb d_Me_discAndRound_43 ?_
      refine lv_lload_n hx hb d_Me_discAndRound_44 rfl (lv_at hl 2 rfl) ?_
      refine lv_lmul hx hb d_Me_discAndRound_45 ?_
      refine lv_lload_n hx hb d_Me_discAndRound_46 rfl (lv_at hl 1 rfl) ?_
      refine lv_lmul hx hb d_Me_discAndRound_47 ?_
      refine lv_lsub hx hb d_Me_discAndRound_48 ?_
      obtain ⟨u3, e4⟩ := gsome h
      refine gw_callI e4 h (gw_runS (As := [.long ((((p0 + (p1 * p1)) - p2) * ((p0 + (p1 * p1)) - p2)) - (((4 * p1) * p1) * p0))]) (rest := []) hx hb hml hown hT hK hZ hA hI (m_Me_sign l hst D g0 ((((p0 + (p1 * p1)) - p2) * ((p0 + (p1 * p1)) - p2)) - (((4 * p1) * p1) * p0)) w u3 e4) ce_Me_sign wd_383 ⟨by decide, by decide⟩ rfl rfl hl.1 rfl (lv_room (Nat.le_of_ble_eq_true rfl)) d_Me_discAndRound_49 ⟨(show 0 + 0 ≤ 0 by omega), (show 0 + 0 ≤ 0 by omega)⟩) hI hA hexc (show 0 + 0 ≤ 0 by omega) (show 0 + 0 ≤ 0 by omega) (fun v5 w H locs h hI => ?_)
      exact W.widen (show 0 ≤ 0 by omega) (show 0 ≤ 0 by omega) (hret _ _ (Option.some.inj h).symm _ _ _ _ d_Me_discAndRound_52 hI)
    · have c2 := mt (lg_cmp_ge _ _).mpr c2
      have h := gie c2 h
      refine lv_iconst (v := -1) hx hb d_Me_discAndRound_32 (by decide) ?_
      exact W.widen (show 0 ≤ 0 by omega) (show 0 ≤ 0 by omega) (hret _ _ (Option.some.inj h).symm _ _ _ _ d_Me_discAndRound_33 hI)
  · have c1 := mt (lg_cmp_gt _ _).mpr c1
    have h := gie c1 h
    refine lv_lload hx hb d_Me_discAndRound_8 (lv_at hl 2 rfl) ?_
    refine lv_lneg hx hb d_Me_discAndRound_10 ?_
    obtain ⟨u6, e7⟩ := gsome h
    refine gw_callI e7 h (gw_runS (As := [.long (-p2)]) (rest := []) hx hb hml hown hT hK hZ hA hI (m_Me_sign l hst D g0 (-p2) w u6 e7) ce_Me_sign wd_383 ⟨by decide, by decide⟩ rfl rfl hl.1 rfl (lv_room (Nat.le_of_ble_eq_true rfl)) d_Me_discAndRound_11 ⟨(show 0 + 0 ≤ 0 by omega), (show 0 + 0 ≤ 0 by omega)⟩) hI hA hexc (show 0 + 0 ≤ 0 by omega) (show 0 + 0 ≤ 0 by omega) (fun v8 w H locs h hI => ?_)
    exact W.widen (show 0 ≤ 0 by omega) (show 0 ≤ 0 by omega) (hret _ _ (Option.some.inj h).symm _ _ _ _ d_Me_discAndRound_14 hI)
