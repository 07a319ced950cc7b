abbrev b_Me_distance : ByteArray := prog_5_method_8_code
def y_Me_distance : MethodName := ⟨"BodySolids$Meeting", "distance", "(LBodySolids$Solid;LBodySolids$Solid;J)I"⟩
theorem d_Me_distance_0 : decode b_Me_distance 0 = .ok (.aload_n 0, 1) := by decide +kernel
theorem d_Me_distance_1 : decode b_Me_distance 1 = .ok (.aload_n 1, 1) := by decide +kernel
theorem d_Me_distance_2 : decode b_Me_distance 2 = .ok (.invokestatic 42, 3) := by decide +kernel
theorem d_Me_distance_5 : decode b_Me_distance 5 = .ok (.iconst 1, 1) := by decide +kernel
theorem d_Me_distance_6 : decode b_Me_distance 6 = .ok (.if_icmp .eq 9, 3) := by decide +kernel
theorem d_Me_distance_9 : decode b_Me_distance 9 = .ok (.lload_n 2, 1) := by decide +kernel
theorem d_Me_distance_10 : decode b_Me_distance 10 = .ok (.lneg, 1) := by decide +kernel
theorem d_Me_distance_11 : decode b_Me_distance 11 = .ok (.invokestatic 50, 3) := by decide +kernel
theorem d_Me_distance_14 : decode b_Me_distance 14 = .ok (.ireturn, 1) := by decide +kernel
theorem d_Me_distance_15 : decode b_Me_distance 15 = .ok (.aload_n 0, 1) := by decide +kernel
theorem d_Me_distance_16 : decode b_Me_distance 16 = .ok (.getfield 71, 3) := by decide +kernel
theorem d_Me_distance_19 : decode b_Me_distance 19 = .ok (.iconst 2, 1) := by decide +kernel
theorem d_Me_distance_20 : decode b_Me_distance 20 = .ok (.if_icmp .ne 19, 3) := by decide +kernel
theorem d_Me_distance_23 : decode b_Me_distance 23 = .ok (.aload_n 0, 1) := by decide +kernel
theorem d_Me_distance_24 : decode b_Me_distance 24 = .ok (.aload_n 1, 1) := by decide +kernel
theorem d_Me_distance_25 : decode b_Me_distance 25 = .ok (.lload_n 2, 1) := by decide +kernel
theorem d_Me_distance_26 : decode b_Me_distance 26 = .ok (.invokestatic 91, 3) := by decide +kernel
theorem d_Me_distance_29 : decode b_Me_distance 29 = .ok (.aload_n 0, 1) := by decide +kernel
theorem d_Me_distance_30 : decode b_Me_distance 30 = .ok (.aload_n 1, 1) := by decide +kernel
theorem d_Me_distance_31 : decode b_Me_distance 31 = .ok (.lload_n 2, 1) := by decide +kernel
theorem d_Me_distance_32 : decode b_Me_distance 32 = .ok (.invokestatic 94, 3) := by decide +kernel
theorem d_Me_distance_35 : decode b_Me_distance 35 = .ok (.invokestatic 88, 3) := by decide +kernel
theorem d_Me_distance_38 : decode b_Me_distance 38 = .ok (.ireturn, 1) := by decide +kernel
theorem d_Me_distance_39 : decode b_Me_distance 39 = .ok (.aload_n 1, 1) := by decide +kernel
theorem d_Me_distance_40 : decode b_Me_distance 40 = .ok (.getfield 71, 3) := by decide +kernel
theorem d_Me_distance_43 : decode b_Me_distance 43 = .ok (.iconst 2, 1) := by decide +kernel
theorem d_Me_distance_44 : decode b_Me_distance 44 = .ok (.if_icmp .ne 19, 3) := by decide +kernel
theorem d_Me_distance_47 : decode b_Me_distance 47 = .ok (.aload_n 1, 1) := by decide +kernel
theorem d_Me_distance_48 : decode b_Me_distance 48 = .ok (.aload_n 0, 1) := by decide +kernel
theorem d_Me_distance_49 : decode b_Me_distance 49 = .ok (.lload_n 2, 1) := by decide +kernel
theorem d_Me_distance_50 : decode b_Me_distance 50 = .ok (.invokestatic 91, 3) := by decide +kernel
theorem d_Me_distance_53 : decode b_Me_distance 53 = .ok (.aload_n 1, 1) := by decide +kernel
theorem d_Me_distance_54 : decode b_Me_distance 54 = .ok (.aload_n 0, 1) := by decide +kernel
theorem d_Me_distance_55 : decode b_Me_distance 55 = .ok (.lload_n 2, 1) := by decide +kernel
theorem d_Me_distance_56 : decode b_Me_distance 56 = .ok (.invokestatic 94, 3) := by decide +kernel
theorem d_Me_distance_59 : decode b_Me_distance 59 = .ok (.invokestatic 88, 3) := by decide +kernel
theorem d_Me_distance_62 : decode b_Me_distance 62 = .ok (.ireturn, 1) := by decide +kernel
theorem d_Me_distance_63 : decode b_Me_distance 63 = .ok (.aload_n 0, 1) := by decide +kernel
theorem d_Me_distance_64 : decode b_Me_distance 64 = .ok (.getfield 18, 3) := by decide +kernel
theorem d_Me_distance_67 : decode b_Me_distance 67 = .ok (.aload_n 0, 1) := by decide +kernel
theorem d_Me_distance_68 : decode b_Me_distance 68 = .ok (.getfield 21, 3) := by decide +kernel
theorem d_Me_distance_71 : decode b_Me_distance 71 = .ok (.aload_n 1, 1) := by decide +kernel
theorem d_Me_distance_72 : decode b_Me_distance 72 = .ok (.getfield 18, 3) := by decide +kernel
theorem d_Me_distance_75 : decode b_Me_distance 75 = .ok (.aload_n 1, 1) := by decide +kernel
theorem d_Me_distance_76 : decode b_Me_distance 76 = .ok (.getfield 21, 3) := by decide +kernel
theorem d_Me_distance_79 : decode b_Me_distance 79 = .ok (.invokestatic 24, 3) := by decide +kernel
theorem d_Me_distance_82 : decode b_Me_distance 82 = .ok (.lstore 4, 2) := by decide +kernel
theorem d_Me_distance_84 : decode b_Me_distance 84 = .ok (.aload_n 0, 1) := by decide +kernel
theorem d_Me_distance_85 : decode b_Me_distance 85 = .ok (.getfield 30, 3) := by decide +kernel
theorem d_Me_distance_88 : decode b_Me_distance 88 = .ok (.aload_n 0, 1) := by decide +kernel
theorem d_Me_distance_89 : decode b_Me_distance 89 = .ok (.getfield 33, 3) := by decide +kernel
theorem d_Me_distance_92 : decode b_Me_distance 92 = .ok (.aload_n 1, 1) := by decide +kernel
theorem d_Me_distance_93 : decode b_Me_distance 93 = .ok (.getfield 30, 3) := by decide +kernel
theorem d_Me_distance_96 : decode b_Me_distance 96 = .ok (.aload_n 1, 1) := by decide +kernel
theorem d_Me_distance_97 : decode b_Me_distance 97 = .ok (.getfield 33, 3) := by decide +kernel
theorem d_Me_distance_100 : decode b_Me_distance 100 = .ok (.invokestatic 24, 3) := by decide +kernel
theorem d_Me_distance_103 : decode b_Me_distance 103 = .ok (.lstore 6, 2) := by decide +kernel
theorem d_Me_distance_105 : decode b_Me_distance 105 = .ok (.lload 4, 2) := by decide +kernel
theorem d_Me_distance_107 : decode b_Me_distance 107 = .ok (.invokestatic 60, 3) := by decide +kernel
theorem d_Me_distance_110 : decode b_Me_distance 110 = .ok (.lload 6, 2) := by decide +kernel
theorem d_Me_distance_112 : decode b_Me_distance 112 = .ok (.invokestatic 60, 3) := by decide +kernel
theorem d_Me_distance_115 : decode b_Me_distance 115 = .ok (.ladd, 1) := by decide +kernel
theorem d_Me_distance_116 : decode b_Me_distance 116 = .ok (.lload_n 2, 1) := by decide +kernel
theorem d_Me_distance_117 : decode b_Me_distance 117 = .ok (.lsub, 1) := by decide +kernel
theorem d_Me_distance_118 : decode b_Me_distance 118 = .ok (.invokestatic 50, 3) := by decide +kernel
theorem d_Me_distance_121 : decode b_Me_distance 121 = .ok (.ireturn, 1) := by decide +kernel
abbrev rm_Me_distance : Room := { frames := 3, cells := 0, slots := 0, locals := 87 }
theorem ce_Me_distance : gCe y_Me_distance (.code y_Me_distance b_Me_distance 8 (some .int)) 8 3 true := gCe.code wd_393 wd_69 wd_392 (by decide) (by decide +kernel)
def f_Me_distance (g0 : Nat) (a0 : Nat) (a1 : Nat) (p2 : Int64) (w : gW) : gX Int32 := gbind (f_Me_outlines g0 a0 a1 w) fun v3 w => if v3 = 1 then ((gfI w a0 3 0).bind fun v5 => if v5 = 2 then (gbind (f_Me_cornersDistance g0 a0 a1 p2 w) fun v53 w => gbind (f_Me_sidesDistance g0 a0 a1 p2 w) fun v56 w => gbind (f_Ma_min g0 v53 v56 w) fun v59 w => some (.inr v59, w)) else ((gfI w a1 3 0).bind fun v8 => if v8 = 2 then (gbind (f_Me_cornersDistance g0 a1 a0 p2 w) fun v44 w => gbind (f_Me_sidesDistance g0 a1 a0 p2 w) fun v47 w => gbind (f_Ma_min g0 v44 v47 w) fun v50 w => some (.inr v50, w)) else ((gfJ w a0 3 6).bind fun v11 => (gfJ w a0 3 9).bind fun v13 => (gfJ w a1 3 6).bind fun v15 => (gfJ w a1 3 9).bind fun v17 => gbind (f_Me_gap g0 v11 v13 v15 v17 w) fun v21 w => (gfJ w a0 3 7).bind fun v22 => (gfJ w a0 3 10).bind fun v24 => (gfJ w a1 3 7).bind fun v26 => (gfJ w a1 3 10).bind fun v28 => gbind (f_Me_gap g0 v22 v24 v26 v28 w) fun v32 w => gbind (f_Me_squareIfAbove g0 v21 w) fun v35 w => gbind (f_Me_squareIfAbove g0 v32 w) fun v38 w => gbind (f_Me_sign g0 ((v35 + v38) - p2) w) fun v41 w => some (.inr v41, w)))) else (gbind (f_Me_sign g0 (-p2) w) fun v62 w => some (.inr v62, w))
set_option maxHeartbeats 4000000 in
set_option maxRecDepth 100000 in
theorem m_Me_distance (l : Launch) (D : gD) (g0 : Nat) (a0 : Nat) (a1 : Nat) (p2 : Int64) (w : gW) (r : (String ⊕ Int32) × gW) (h : f_Me_distance g0 a0 a1 p2 w = some r) : gMet l y_Me_distance (.code y_Me_distance b_Me_distance 8 (some .int)) rm_Me_distance D g0 [.ref a0, .ref a1, .long p2] w (goI r) := by
  refine gw_ofI (by decide +kernel) (Nat.le_of_ble_eq_true rfl) ?_
  intro p e s m below meth c ls args A Q hx hb hml hown hlocks hin hnt hT hK hZ hA hret hexc hI hl
  obtain ⟨H, hH⟩ : ∃ H, H = s.heap := ⟨_, rfl⟩
  rw [← hH] at hI ⊢
  obtain ⟨locs, hlocs⟩ : ∃ z : List Loc, z = [] := ⟨_, rfl⟩
  rw [← hlocs] at hI ⊢
  have hl : lv_has ls 8 [(0, .ref a0), (1, .ref a1), (2, .long p2)] := hl
  unfold f_Me_distance at h
  refine lv_aload_n hx hb d_Me_distance_0 rfl (lv_at hl 0 rfl) ?_
  refine lv_aload_n hx hb d_Me_distance_1 rfl (lv_at hl 1 rfl) ?_
  obtain ⟨u1, e2⟩ := gsome h
  refine gw_callI e2 h (gw_runS (As := [.ref a0, .ref a1]) (rest := []) hx hb hml hown hT hK hZ hA hI (m_Me_outlines l D g0 a0 a1 w u1 e2) ce_Me_outlines wd_380 ⟨by decide, by decide⟩ rfl rfl hl.1 rfl (lv_room (Nat.le_of_ble_eq_true rfl)) d_Me_distance_2 ⟨(show 0 + 0 ≤ 0 by omega), (show 0 + 0 ≤ 0 by omega)⟩) hI hA hexc (show 0 + 0 ≤ 0 by omega) (show 0 + 0 ≤ 0 by omega) (fun v3 w H locs h hI => ?_)
  refine lv_iconst (v := 1) hx hb d_Me_distance_5 (by decide) ?_
  refine lv_icmp_eq (tgt := 15) hx hb d_Me_distance_6 (by decide) (fun c4 => ?_) (fun c4 => ?_)
  · skip
    have h := git c4 h
    refine lv_aload_n hx hb d_Me_distance_15 rfl (lv_at hl 0 rfl) ?_
    obtain ⟨v5, e6, h⟩ := gb h
    refine gw_getI hx hb hT hown hK hI (ci := 3) rfl i_3 0 (by decide) wd_130 (fun _ h9 => h9) e6 d_Me_distance_16 ?_
    refine lv_iconst (v := 2) hx hb d_Me_distance_19 (by decide) ?_
    refine lv_icmp_ne (tgt := 39) hx hb d_Me_distance_20 (by decide) (fun c7 => ?_) (fun c7 => ?_)
    · skip
      have h := gie c7 h
      refine lv_aload_n hx hb d_Me_distance_39 rfl (lv_at hl 1 rfl) ?_
      obtain ⟨v8, e9, h⟩ := gb h
      refine gw_getI hx hb hT hown hK hI (ci := 3) rfl i_3 0 (by decide) wd_130 (fun _ h9 => h9) e9 d_Me_distance_40 ?_
      refine lv_iconst (v := 2) hx hb d_Me_distance_43 (by decide) ?_
      refine lv_icmp_ne (tgt := 63) hx hb d_Me_distance_44 (by decide) (fun c10 => ?_) (fun c10 => ?_)
      · skip
        have h := gie c10 h
        refine lv_aload_n hx hb d_Me_distance_63 rfl (lv_at hl 0 rfl) ?_
        obtain ⟨v11, e12, h⟩ := gb h
        refine gw_getJ hx hb hT hown hK hI (ci := 3) rfl i_3 6 (by decide) wd_141 (fun _ h9 => h9) e12 d_Me_distance_64 ?_
        refine lv_aload_n hx hb d_Me_distance_67 rfl (lv_at hl 0 rfl) ?_
        obtain ⟨v13, e14, h⟩ := gb h
        refine gw_getJ hx hb hT hown hK hI (ci := 3) rfl i_3 9 (by decide) wd_147 (fun _ h9 => h9) e14 d_Me_distance_68 ?_
        refine lv_aload_n hx hb d_Me_distance_71 rfl (lv_at hl 1 rfl) ?_
        obtain ⟨v15, e16, h⟩ := gb h
        refine gw_getJ hx hb hT hown hK hI (ci := 3) rfl i_3 6 (by decide) wd_141 (fun _ h9 => h9) e16 d_Me_distance_72 ?_
        refine lv_aload_n hx hb d_Me_distance_75 rfl (lv_at hl 1 rfl) ?_
        obtain ⟨v17, e18, h⟩ := gb h
        refine gw_getJ hx hb hT hown hK hI (ci := 3) rfl i_3 9 (by decide) wd_147 (fun _ h9 => h9) e18 d_Me_distance_76 ?_
        obtain ⟨u19, e20⟩ := gsome h
        refine gw_callJ e20 h (gw_runS (As := [.long v11, .long v13, .long v15, .long v17]) (rest := []) hx hb hml hown hT hK hZ hA hI (m_Me_gap l D g0 v11 v13 v15 v17 w u19 e20) ce_Me_gap wd_376 ⟨by decide, by decide⟩ rfl rfl hl.1 rfl (lv_room (Nat.le_of_ble_eq_true rfl)) d_Me_distance_79 ⟨(show 0 + 0 ≤ 0 by omega), (show 0 + 0 ≤ 0 by omega)⟩) hI hA hexc (show 0 + 0 ≤ 0 by omega) (show 0 + 0 ≤ 0 by omega) (fun v21 w H locs h hI => ?_)
        refine lv_lstore (lv' := [(4, .long v21), (0, .ref a0), (1, .ref a1), (2, .long p2)]) hx hb d_Me_distance_82 hl (by decide) rfl (fun ls hl => ?_)
        refine lv_aload_n hx hb d_Me_distance_84 rfl (lv_at hl 1 rfl) ?_
        obtain ⟨v22, e23, h⟩ := gb h
        refine gw_getJ hx hb hT hown hK hI (ci := 3) rfl i_3 7 (by decide) wd_143 (fun _ h9 => h9) e23 d_Me_distance_85 ?_
        refine lv_aload_n hx hb d_Me_distance_88 rfl (lv_at hl 1 rfl) ?_
        obtain ⟨v24, e25, h⟩ := gb h
        refine gw_getJ hx hb hT hown hK hI (ci := 3) rfl i_3 10 (by decide) wd_149 (fun _ h9 => h9) e25 d_Me_distance_89 ?_
        refine lv_aload_n hx hb d_Me_distance_92 rfl (lv_at hl 2 rfl) ?_
        obtain ⟨v26, e27, h⟩ := gb h
        refine gw_getJ hx hb hT hown hK hI (ci := 3) rfl i_3 7 (by decide) wd_143 (fun _ h9 => h9) e27 d_Me_distance_93 ?_
        refine lv_aload_n hx hb d_Me_distance_96 rfl (lv_at hl 2 rfl) ?_
        obtain ⟨v28, e29, h⟩ := gb h
        refine gw_getJ hx hb hT hown hK hI (ci := 3) rfl i_3 10 (by decide) wd_149 (fun _ h9 => h9) e29 d_Me_distance_97 ?_
        obtain ⟨u30, e31⟩ := gsome h
        refine gw_callJ e31 h (gw_runS (As := [.long v22, .long v24, .long v26, .long v28]) (rest := []) hx hb hml hown hT hK hZ hA hI (m_Me_gap l D g0 v22 v24 v26 v28 w u30 e31) ce_Me_gap wd_376 ⟨by decide, by decide⟩ rfl rfl hl.1 rfl (lv_room (Nat.le_of_ble_eq_true rfl)) d_Me_distance_100 ⟨(show 0 + 0 ≤ 0 by omega), (show 0 + 0 ≤ 0 by omega)⟩) hI hA hexc (show 0 + 0 ≤ 0 by omega) (show 0 + 0 ≤ 0 by omega) (fun v32 w H locs h hI => ?_)
        refine lv_lstore (lv' := [(6, .long v32), (4, .long v21), (0, .ref a0), (1, .ref a1), (2, .long p2)]) hx hb d_Me_distance_103 hl (by decide) rfl (fun ls hl => ?_)
        refine lv_lload hx hb d_Me_distance_105 (lv_at hl 1 rfl) ?_
        obtain ⟨u33, e34⟩ := gsome h
        refine gw_callJ e34 h (gw_runS (As := [.long v21]) (rest := []) hx hb hml hown hT hK hZ hA hI (m_Me_squareIfAbove l D g0 v21 w u33 e34) ce_Me_squareIfAbove wd_397 ⟨by decide, by decide⟩ rfl rfl hl.1 rfl (lv_room (Nat.le_of_ble_eq_true rfl)) d_Me_distance_107 ⟨(show 0 + 0 ≤ 0 by omega), (show 0 + 0 ≤ 0 by omega)⟩) hI hA hexc (show 0 + 0 ≤ 0 by omega) (show 0 + 0 ≤ 0 by omega) (fun v35 w H locs h hI => ?_)
        refine lv_lload hx hb d_Me_distance_110 (lv_at hl 0 rfl) ?_
        obtain ⟨u36, e37⟩ := gsome h
        refine gw_callJ e37 h (gw_runS (As := [.long v32]) (rest := [.long v35]) hx hb hml hown hT hK hZ hA hI (m_Me_squareIfAbove l D g0 v32 w u36 e37) ce_Me_squareIfAbove wd_397 ⟨by decide, by decide⟩ rfl rfl hl.1 rfl (lv_room (Nat.le_of_ble_eq_true rfl)) d_Me_distance_112 ⟨(show 0 + 0 ≤ 0 by omega), (show 0 + 0 ≤ 0 by omega)⟩) hI hA hexc (show 0 + 0 ≤ 0 by omega) (show 0 + 0 ≤ 0 by omega) (fun v38 w H locs h hI => ?_)
        refine lv_ladd hx hb d_Me_distance_115 ?_
        refine lv_lload_n hx hb d_Me_distance_116 rfl (lv_at hl 4 rfl) ?_
        refine lv_lsub hx hb d_Me_distance_117 ?_
        obtain ⟨u39, e40⟩ := gsome h
        refine gw_callI e40 h (gw_runS (As := [.long ((v35 + v38) - p2)]) (rest := []) hx hb hml hown hT hK hZ hA hI (m_Me_sign l D g0 ((v35 + v38) - p2) w u39 e40) ce_Me_sign wd_383 ⟨by decide, by decide⟩ rfl rfl hl.1 rfl (lv_room (Nat.le_of_ble_eq_true rfl)) d_Me_distance_118 ⟨(show 0 + 0 ≤ 0 by omega), (show 0 + 0 ≤ 0 by omega)⟩) hI hA hexc (show 0 + 0 ≤ 0 by omega) (show 0 + 0 ≤ 0 by omega) (fun v41 w H locs h hI => ?_)
        exact W.widen (show 0 ≤ 0 by omega) (show 0 ≤ 0 by omega) (hret _ _ (Option.some.inj h).symm _ _ _ _ d_Me_distance_121 hI)
      · skip
        have h := git c10 h
        refine lv_aload_n hx hb d_Me_distance_47 rfl (lv_at hl 1 rfl) ?_
        refine lv_aload_n hx hb d_Me_distance_48 rfl (lv_at hl 0 rfl) ?_
        refine lv_lload_n hx hb d_Me_distance_49 rfl (lv_at hl 2 rfl) ?_
        obtain ⟨u42, e43⟩ := gsome h
        refine gw_callI e43 h (gw_runS (As := [.ref a1, .ref a0, .long p2]) (rest := []) hx hb hml hown hT hK hZ hA hI (m_Me_cornersDistance l D g0 a1 a0 p2 w u42 e43) ce_Me_cornersDistance wd_394 ⟨by decide, by decide⟩ rfl rfl hl.1 rfl (lv_room (Nat.le_of_ble_eq_true rfl)) d_Me_distance_50 ⟨(show 0 + 0 ≤ 0 by omega), (show 0 + 0 ≤ 0 by omega)⟩) hI hA hexc (show 0 + 0 ≤ 0 by omega) (show 0 + 0 ≤ 0 by omega) (fun v44 w H locs h hI => ?_)
        refine lv_aload_n hx hb d_Me_distance_53 rfl (lv_at hl 1 rfl) ?_
        refine lv_aload_n hx hb d_Me_distance_54 rfl (lv_at hl 0 rfl) ?_
        refine lv_lload_n hx hb d_Me_distance_55 rfl (lv_at hl 2 rfl) ?_
        obtain ⟨u45, e46⟩ := gsome h
        refine gw_callI e46 h (gw_runS (As := [.ref a1, .ref a0, .long p2]) (rest := [.int v44]) hx hb hml hown hT hK hZ hA hI (m_Me_sidesDistance l D g0 a1 a0 p2 w u45 e46) ce_Me_sidesDistance wd_400 ⟨by decide, by decide⟩ rfl rfl hl.1 rfl (lv_room (Nat.le_of_ble_eq_true rfl)) d_Me_distance_56 ⟨(show 0 + 0 ≤ 0 by omega), (show 0 + 0 ≤ 0 by omega)⟩) hI hA hexc (show 0 + 0 ≤ 0 by omega) (show 0 + 0 ≤ 0 by omega) (fun v47 w H locs h hI => ?_)
        obtain ⟨u48, e49⟩ := gsome h
        refine gw_callI e49 h (gw_runS (As := [.int v44, .int v47]) (rest := []) hx hb hml hown hT hK hZ hA hI (m_Ma_min l D g0 v44 v47 w u48 e49) ce_Ma_min wd_389 ⟨by decide, by decide⟩ rfl rfl hl.1 rfl (lv_room (Nat.le_of_ble_eq_true rfl)) d_Me_distance_59 ⟨(show 0 + 0 ≤ 0 by omega), (show 0 + 0 ≤ 0 by omega)⟩) hI hA hexc (show 0 + 0 ≤ 0 by omega) (show 0 + 0 ≤ 0 by omega) (fun v50 w H locs h hI => ?_)
        exact W.widen (show 0 ≤ 0 by omega) (show 0 ≤ 0 by omega) (hret _ _ (Option.some.inj h).symm _ _ _ _ d_Me_distance_62 hI)
    · skip
      have h := git c7 h
      refine lv_aload_n hx hb d_Me_distance_23 rfl (lv_at hl 0 rfl) ?_
      refine lv_aload_n hx hb d_Me_distance_24 rfl (lv_at hl 1 rfl) ?_
      refine lv_lload_n hx hb d_Me_distance_25 rfl (lv_at hl 2 rfl) ?_
      obtain ⟨u51, e52⟩ := gsome h
      refine gw_callI e52 h (gw_runS (As := [.ref a0, .ref a1, .long p2]) (rest := []) hx hb hml hown hT hK hZ hA hI (m_Me_cornersDistance l D g0 a0 a1 p2 w u51 e52) ce_Me_cornersDistance wd_394 ⟨by decide, by decide⟩ rfl rfl hl.1 rfl (lv_room (Nat.le_of_ble_eq_true rfl)) d_Me_distance_26 ⟨(show 0 + 0 ≤ 0 by omega), (show 0 + 0 ≤ 0 by omega)⟩) hI hA hexc (show 0 + 0 ≤ 0 by omega) (show 0 + 0 ≤ 0 by omega) (fun v53 w H locs h hI => ?_)
      refine lv_aload_n hx hb d_Me_distance_29 rfl (lv_at hl 0 rfl) ?_
      refine lv_aload_n hx hb d_Me_distance_30 rfl (lv_at hl 1 rfl) ?_
      refine lv_lload_n hx hb d_Me_distance_31 rfl (lv_at hl 2 rfl) ?_
      obtain ⟨u54, e55⟩ := gsome h
      refine gw_callI e55 h (gw_runS (As := [.ref a0, .ref a1, .long p2]) (rest := [.int v53]) hx hb hml hown hT hK hZ hA hI (m_Me_sidesDistance l D g0 a0 a1 p2 w u54 e55) ce_Me_sidesDistance wd_400 ⟨by decide, by decide⟩ rfl rfl hl.1 rfl (lv_room (Nat.le_of_ble_eq_true rfl)) d_Me_distance_32 ⟨(show 0 + 0 ≤ 0 by omega), (show 0 + 0 ≤ 0 by omega)⟩) hI hA hexc (show 0 + 0 ≤ 0 by omega) (show 0 + 0 ≤ 0 by omega) (fun v56 w H locs h hI => ?_)
      obtain ⟨u57, e58⟩ := gsome h
      refine gw_callI e58 h (gw_runS (As := [.int v53, .int v56]) (rest := []) hx hb hml hown hT hK hZ hA hI (m_Ma_min l D g0 v53 v56 w u57 e58) ce_Ma_min wd_389 ⟨by decide, by decide⟩ rfl rfl hl.1 rfl (lv_room (Nat.le_of_ble_eq_true rfl)) d_Me_distance_35 ⟨(show 0 + 0 ≤ 0 by omega), (show 0 + 0 ≤ 0 by omega)⟩) hI hA hexc (show 0 + 0 ≤ 0 by omega) (show 0 + 0 ≤ 0 by omega) (fun v59 w H locs h hI => ?_)
      exact W.widen (show 0 ≤ 0 by omega) (show 0 ≤ 0 by omega) (hret _ _ (Option.some.inj h).symm _ _ _ _ d_Me_distance_38 hI)
  · skip
    have h := gie c4 h
    refine lv_lload_n hx hb d_Me_distance_9 rfl (lv_at hl 2 rfl) ?_
    refine lv_lneg hx hb d_Me_distance_10 ?_
    obtain ⟨u60, e61⟩ := gsome h
    refine gw_callI e61 h (gw_runS (As := [.long (-p2)]) (rest := []) hx hb hml hown hT hK hZ hA hI (m_Me_sign l D g0 (-p2) w u60 e61) ce_Me_sign wd_383 ⟨by decide, by decide⟩ rfl rfl hl.1 rfl (lv_room (Nat.le_of_ble_eq_true rfl)) d_Me_distance_11 ⟨(show 0 + 0 ≤ 0 by omega), (show 0 + 0 ≤ 0 by omega)⟩) hI hA hexc (show 0 + 0 ≤ 0 by omega) (show 0 + 0 ≤ 0 by omega) (fun v62 w H locs h hI => ?_)
    exact W.widen (show 0 ≤ 0 by omega) (show 0 ≤ 0 by omega) (hret _ _ (Option.some.inj h).symm _ _ _ _ d_Me_distance_14 hI)

abbrev b_Me_of : ByteArray := prog_5_method_2_code
def y_Me_of : MethodName := ⟨"BodySolids$Meeting", "of", "(LBodySolids$Solid;LBodySolids$Solid;)I"⟩
theorem d_Me_of_0 : decode b_Me_of 0 = .ok (.aload_n 0, 1) := by decide +kernel
theorem d_Me_of_1 : decode b_Me_of 1 = .ok (.getfield 9, 3) := by decide +kernel
theorem d_Me_of_4 : decode b_Me_of 4 = .ok (.aload_n 1, 1) := by decide +kernel
theorem d_Me_of_5 : decode b_Me_of 5 = .ok (.getfield 9, 3) := by decide +kernel
theorem d_Me_of_8 : decode b_Me_of 8 = .ok (.ladd, 1) := by decide +kernel
theorem d_Me_of_9 : decode b_Me_of 9 = .ok (.lstore_n 2, 1) := by decide +kernel
theorem d_Me_of_10 : decode b_Me_of 10 = .ok (.aload_n 0, 1) := by decide +kernel
theorem d_Me_of_11 : decode b_Me_of 11 = .ok (.getfield 15, 3) := by decide +kernel
theorem d_Me_of_14 : decode b_Me_of 14 = .ok (.aload_n 1, 1) := by decide +kernel
theorem d_Me_of_15 : decode b_Me_of 15 = .ok (.getfield 15, 3) := by decide +kernel
theorem d_Me_of_18 : decode b_Me_of 18 = .ok (.ladd, 1) := by decide +kernel
theorem d_Me_of_19 : decode b_Me_of 19 = .ok (.lstore 4, 2) := by decide +kernel
theorem d_Me_of_21 : decode b_Me_of 21 = .ok (.aload_n 0, 1) := by decide +kernel
theorem d_Me_of_22 : decode b_Me_of 22 = .ok (.getfield 18, 3) := by decide +kernel
theorem d_Me_of_25 : decode b_Me_of 25 = .ok (.aload_n 0, 1) := by decide +kernel
theorem d_Me_of_26 : decode b_Me_of 26 = .ok (.getfield 21, 3) := by decide +kernel
theorem d_Me_of_29 : decode b_Me_of 29 = .ok (.aload_n 1, 1) := by decide +kernel
theorem d_Me_of_30 : decode b_Me_of 30 = .ok (.getfield 18, 3) := by decide +kernel
theorem d_Me_of_33 : decode b_Me_of 33 = .ok (.aload_n 1, 1) := by decide +kernel
theorem d_Me_of_34 : decode b_Me_of 34 = .ok (.getfield 21, 3) := by decide +kernel
theorem d_Me_of_37 : decode b_Me_of 37 = .ok (.invokestatic 24, 3) := by decide +kernel
theorem d_Me_of_40 : decode b_Me_of 40 = .ok (.lstore 6, 2) := by decide +kernel
theorem d_Me_of_42 : decode b_Me_of 42 = .ok (.aload_n 0, 1) := by decide +kernel
theorem d_Me_of_43 : decode b_Me_of 43 = .ok (.getfield 30, 3) := by decide +kernel
theorem d_Me_of_46 : decode b_Me_of 46 = .ok (.aload_n 0, 1) := by decide +kernel
theorem d_Me_of_47 : decode b_Me_of 47 = .ok (.getfield 33, 3) := by decide +kernel
theorem d_Me_of_50 : decode b_Me_of 50 = .ok (.aload_n 1, 1) := by decide +kernel
theorem d_Me_of_51 : decode b_Me_of 51 = .ok (.getfield 30, 3) := by decide +kernel
theorem d_Me_of_54 : decode b_Me_of 54 = .ok (.aload_n 1, 1) := by decide +kernel
theorem d_Me_of_55 : decode b_Me_of 55 = .ok (.getfield 33, 3) := by decide +kernel
theorem d_Me_of_58 : decode b_Me_of 58 = .ok (.invokestatic 24, 3) := by decide +kernel
theorem d_Me_of_61 : decode b_Me_of 61 = .ok (.lstore 8, 2) := by decide +kernel
theorem d_Me_of_63 : decode b_Me_of 63 = .ok (.aload_n 0, 1) := by decide +kernel
theorem d_Me_of_64 : decode b_Me_of 64 = .ok (.getfield 36, 3) := by decide +kernel
theorem d_Me_of_67 : decode b_Me_of 67 = .ok (.aload_n 0, 1) := by decide +kernel
theorem d_Me_of_68 : decode b_Me_of 68 = .ok (.getfield 39, 3) := by decide +kernel
theorem d_Me_of_71 : decode b_Me_of 71 = .ok (.aload_n 1, 1) := by decide +kernel
theorem d_Me_of_72 : decode b_Me_of 72 = .ok (.getfield 36, 3) := by decide +kernel
theorem d_Me_of_75 : decode b_Me_of 75 = .ok (.aload_n 1, 1) := by decide +kernel
theorem d_Me_of_76 : decode b_Me_of 76 = .ok (.getfield 39, 3) := by decide +kernel
theorem d_Me_of_79 : decode b_Me_of 79 = .ok (.invokestatic 24, 3) := by decide +kernel
theorem d_Me_of_82 : decode b_Me_of 82 = .ok (.lstore 10, 2) := by decide +kernel
theorem d_Me_of_84 : decode b_Me_of 84 = .ok (.lload 6, 2) := by decide +kernel
theorem d_Me_of_86 : decode b_Me_of 86 = .ok (.lload_n 2, 1) := by decide +kernel
theorem d_Me_of_87 : decode b_Me_of 87 = .ok (.lload 4, 2) := by decide +kernel
theorem d_Me_of_89 : decode b_Me_of 89 = .ok (.ladd, 1) := by decide +kernel
theorem d_Me_of_90 : decode b_Me_of 90 = .ok (.lcmp, 1) := by decide +kernel
theorem d_Me_of_91 : decode b_Me_of 91 = .ok (.ifCond .gt 21, 3) := by decide +kernel
theorem d_Me_of_94 : decode b_Me_of 94 = .ok (.lload 8, 2) := by decide +kernel
theorem d_Me_of_96 : decode b_Me_of 96 = .ok (.lload_n 2, 1) := by decide +kernel
theorem d_Me_of_97 : decode b_Me_of 97 = .ok (.lload 4, 2) := by decide +kernel
theorem d_Me_of_99 : decode b_Me_of 99 = .ok (.ladd, 1) := by decide +kernel
theorem d_Me_of_100 : decode b_Me_of 100 = .ok (.lcmp, 1) := by decide +kernel
theorem d_Me_of_101 : decode b_Me_of 101 = .ok (.ifCond .gt 11, 3) := by decide +kernel
theorem d_Me_of_104 : decode b_Me_of 104 = .ok (.lload 10, 2) := by decide +kernel
theorem d_Me_of_106 : decode b_Me_of 106 = .ok (.lload 4, 2) := by decide +kernel
theorem d_Me_of_108 : decode b_Me_of 108 = .ok (.lcmp, 1) := by decide +kernel
theorem d_Me_of_109 : decode b_Me_of 109 = .ok (.ifCond .le 5, 3) := by decide +kernel
theorem d_Me_of_112 : decode b_Me_of 112 = .ok (.iconst 1, 1) := by decide +kernel
theorem d_Me_of_113 : decode b_Me_of 113 = .ok (.ireturn, 1) := by decide +kernel
theorem d_Me_of_114 : decode b_Me_of 114 = .ok (.lload 4, 2) := by decide +kernel
theorem d_Me_of_116 : decode b_Me_of 116 = .ok (.lconst 0, 1) := by decide +kernel
theorem d_Me_of_117 : decode b_Me_of 117 = .ok (.lcmp, 1) := by decide +kernel
theorem d_Me_of_118 : decode b_Me_of 118 = .ok (.ifCond .ne 38, 3) := by decide +kernel
theorem d_Me_of_121 : decode b_Me_of 121 = .ok (.lload_n 2, 1) := by decide +kernel
theorem d_Me_of_122 : decode b_Me_of 122 = .ok (.lconst 0, 1) := by decide +kernel
theorem d_Me_of_123 : decode b_Me_of 123 = .ok (.lcmp, 1) := by decide +kernel
theorem d_Me_of_124 : decode b_Me_of 124 = .ok (.ifCond .ne 11, 3) := by decide +kernel
theorem d_Me_of_127 : decode b_Me_of 127 = .ok (.aload_n 0, 1) := by decide +kernel
theorem d_Me_of_128 : decode b_Me_of 128 = .ok (.aload_n 1, 1) := by decide +kernel
theorem d_Me_of_129 : decode b_Me_of 129 = .ok (.invokestatic 42, 3) := by decide +kernel
theorem d_Me_of_132 : decode b_Me_of 132 = .ok (.goto 11, 3) := by decide +kernel
theorem d_Me_of_135 : decode b_Me_of 135 = .ok (.aload_n 0, 1) := by decide +kernel
theorem d_Me_of_136 : decode b_Me_of 136 = .ok (.aload_n 1, 1) := by decide +kernel
theorem d_Me_of_137 : decode b_Me_of 137 = .ok (.lload_n 2, 1) := by decide +kernel
theorem d_Me_of_138 : decode b_Me_of 138 = .ok (.lload_n 2, 1) := by decide +kernel
theorem d_Me_of_139 : decode b_Me_of 139 = .ok (.lmul, 1) := by decide +kernel
theorem d_Me_of_140 : decode b_Me_of 140 = .ok (.invokestatic 46, 3) := by decide +kernel
theorem d_Me_of_143 : decode b_Me_of 143 = .ok (.istore 12, 2) := by decide +kernel
theorem d_Me_of_145 : decode b_Me_of 145 = .ok (.iload 12, 2) := by decide +kernel
theorem d_Me_of_147 : decode b_Me_of 147 = .ok (.lload 10, 2) := by decide +kernel
theorem d_Me_of_149 : decode b_Me_of 149 = .ok (.invokestatic 50, 3) := by decide +kernel
theorem d_Me_of_152 : decode b_Me_of 152 = .ok (.invokestatic 54, 3) := by decide +kernel
theorem d_Me_of_155 : decode b_Me_of 155 = .ok (.ireturn, 1) := by decide +kernel
theorem d_Me_of_156 : decode b_Me_of 156 = .ok (.lload 4, 2) := by decide +kernel
theorem d_Me_of_158 : decode b_Me_of 158 = .ok (.lload 4, 2) := by decide +kernel
theorem d_Me_of_160 : decode b_Me_of 160 = .ok (.lmul, 1) := by decide +kernel
theorem d_Me_of_161 : decode b_Me_of 161 = .ok (.lload 10, 2) := by decide +kernel
theorem d_Me_of_163 : decode b_Me_of 163 = .ok (.invokestatic 60, 3) := by decide +kernel
theorem d_Me_of_166 : decode b_Me_of 166 = .ok (.lsub, 1) := by decide +kernel
theorem d_Me_of_167 : decode b_Me_of 167 = .ok (.lstore 12, 2) := by decide +kernel
theorem d_Me_of_169 : decode b_Me_of 169 = .ok (.lload_n 2, 1) := by decide +kernel
theorem d_Me_of_170 : decode b_Me_of 170 = .ok (.lconst 0, 1) := by decide +kernel
theorem d_Me_of_171 : decode b_Me_of 171 = .ok (.lcmp, 1) := by decide +kernel
theorem d_Me_of_172 : decode b_Me_of 172 = .ok (.ifCond .ne 11, 3) := by decide +kernel
theorem d_Me_of_175 : decode b_Me_of 175 = .ok (.aload_n 0, 1) := by decide +kernel
theorem d_Me_of_176 : decode b_Me_of 176 = .ok (.aload_n 1, 1) := by decide +kernel
theorem d_Me_of_177 : decode b_Me_of 177 = .ok (.lload 12, 2) := by decide +kernel
theorem d_Me_of_179 : decode b_Me_of 179 = .ok (.invokestatic 46, 3) := by decide +kernel
theorem d_Me_of_182 : decode b_Me_of 182 = .ok (.ireturn, 1) := by decide +kernel
theorem d_Me_of_183 : decode b_Me_of 183 = .ok (.lload 6, 2) := by decide +kernel
theorem d_Me_of_185 : decode b_Me_of 185 = .ok (.invokestatic 60, 3) := by decide +kernel
theorem d_Me_of_188 : decode b_Me_of 188 = .ok (.lload 8, 2) := by decide +kernel
theorem d_Me_of_190 : decode b_Me_of 190 = .ok (.invokestatic 60, 3) := by decide +kernel
theorem d_Me_of_193 : decode b_Me_of 193 = .ok (.ladd, 1) := by decide +kernel
theorem d_Me_of_194 : decode b_Me_of 194 = .ok (.lload_n 2, 1) := by decide +kernel
theorem d_Me_of_195 : decode b_Me_of 195 = .ok (.lload 12, 2) := by decide +kernel
theorem d_Me_of_197 : decode b_Me_of 197 = .ok (.invokestatic 64, 3) := by decide +kernel
theorem d_Me_of_200 : decode b_Me_of 200 = .ok (.ireturn, 1) := by decide +kernel
abbrev rm_Me_of : Room := { frames := 4, cells := 0, slots := 0, locals := 114 }
theorem ce_Me_of : gCe y_Me_of (.code y_Me_of b_Me_of 14 (some .int)) 14 2 true := gCe.code wd_375 wd_69 wd_374 (by decide) (by decide +kernel)
def f_Me_of (g0 : Nat) (a0 : Nat) (a1 : Nat) (w : gW) : gX Int32 := (gfJ w a0 3 1).bind fun v1 => (gfJ w a1 3 1).bind fun v3 => (gfJ w a0 3 2).bind fun v5 => (gfJ w a1 3 2).bind fun v7 => (gfJ w a0 3 6).bind fun v9 => (gfJ w a0 3 9).bind fun v11 => (gfJ w a1 3 6).bind fun v13 => (gfJ w a1 3 9).bind fun v15 => gbind (f_Me_gap g0 v9 v11 v13 v15 w) fun v19 w => (gfJ w a0 3 7).bind fun v20 => (gfJ w a0 3 10).bind fun v22 => (gfJ w a1 3 7).bind fun v24 => (gfJ w a1 3 10).bind fun v26 => gbind (f_Me_gap g0 v20 v22 v24 v26 w) fun v30 w => (gfJ w a0 3 8).bind fun v31 => (gfJ w a0 3 11).bind fun v33 => (gfJ w a1 3 8).bind fun v35 => (gfJ w a1 3 11).bind fun v37 => gbind (f_Me_gap g0 v31 v33 v35 v37 w) fun v41 w => gjoin (fun K112 => if ((v1 + v3) + (v5 + v7)) < v19 then (K112 w) else (if ((v1 + v3) + (v5 + v7)) < v30 then (K112 w) else (if v41 ≤ (v5 + v7) then (if (v5 + v7) = 0 then (gjoin (fun K143 => if (v1 + v3) = 0 then (gbind (f_Me_outlines g0 a0 a1 w) fun v75 w => K143 v75 w) else (gbind (f_Me_distance g0 a0 a1 ((v1 + v3) * (v1 + v3)) w) fun v72 w => K143 v72 w)) (fun (y62 : Int32) (w : gW) => gbind (f_Me_sign g0 v41 w) fun v65 w => gbind (f_Ma_max g0 y62 v65 w) fun v68 w => some (.inr v68, w))) else (gbind (f_Me_squareIfAbove g0 v41 w) fun v48 w => if (v1 + v3) = 0 then (gbind (f_Me_distance g0 a0 a1 (((v5 + v7) * (v5 + v7)) - v48) w) fun v61 w => some (.inr v61, w)) else (gbind (f_Me_squareIfAbove g0 v19 w) fun v52 w => gbind (f_Me_squareIfAbove g0 v30 w) fun v55 w => gbind (f_Me_discAndRound g0 (v52 + v55) (v1 + v3) (((v5 + v7) * (v5 + v7)) - v48) w) fun v58 w => some (.inr v58, w)))) else (K112 w)))) (fun (w : gW) => some (.inr 1, w))
set_option maxHeartbeats 4000000 in
set_option maxRecDepth 100000 in
theorem m_Me_of (l : Launch) (D : gD) (g0 : Nat) (a0 : Nat) (a1 : Nat) (w : gW) (r : (String ⊕ Int32) × gW) (h : f_Me_of g0 a0 a1 w = some r) : gMet l y_Me_of (.code y_Me_of b_Me_of 14 (some .int)) rm_Me_of D g0 [.ref a0, .ref a1] w (goI r) := by
  refine gw_ofI (by decide +kernel) (Nat.le_of_ble_eq_true rfl) ?_
  intro p e s m below meth c ls args A Q hx hb hml hown hlocks hin hnt hT hK hZ hA hret hexc hI hl
  obtain ⟨H, hH⟩ : ∃ H, H = s.heap := ⟨_, rfl⟩
  rw [← hH] at hI ⊢
  obtain ⟨locs, hlocs⟩ : ∃ z : List Loc, z = [] := ⟨_, rfl⟩
  rw [← hlocs] at hI ⊢
  have hl : lv_has ls 14 [(0, .ref a0), (1, .ref a1)] := hl
  unfold f_Me_of at h
  refine lv_aload_n hx hb d_Me_of_0 rfl (lv_at hl 0 rfl) ?_
  obtain ⟨v1, e2, h⟩ := gb h
  refine gw_getJ hx hb hT hown hK hI (ci := 3) rfl i_3 1 (by decide) wd_131 (fun _ h9 => h9) e2 d_Me_of_1 ?_
  refine lv_aload_n hx hb d_Me_of_4 rfl (lv_at hl 1 rfl) ?_
  obtain ⟨v3, e4, h⟩ := gb h
  refine gw_getJ hx hb hT hown hK hI (ci := 3) rfl i_3 1 (by decide) wd_131 (fun _ h9 => h9) e4 d_Me_of_5 ?_
  refine lv_ladd hx hb d_Me_of_8 ?_
  refine lv_lstore_n (lv' := [(2, .long (v1 + v3)), (0, .ref a0), (1, .ref a1)]) hx hb d_Me_of_9 rfl hl (by decide) rfl (fun ls hl => ?_)
  refine lv_aload_n hx hb d_Me_of_10 rfl (lv_at hl 1 rfl) ?_
  obtain ⟨v5, e6, h⟩ := gb h
  refine gw_getJ hx hb hT hown hK hI (ci := 3) rfl i_3 2 (by decide) wd_133 (fun _ h9 => h9) e6 d_Me_of_11 ?_
  refine lv_aload_n hx hb d_Me_of_14 rfl (lv_at hl 2 rfl) ?_
  obtain ⟨v7, e8, h⟩ := gb h
  refine gw_getJ hx hb hT hown hK hI (ci := 3) rfl i_3 2 (by decide) wd_133 (fun _ h9 => h9) e8 d_Me_of_15 ?_
  refine lv_ladd hx hb d_Me_of_18 ?_
  refine lv_lstore (lv' := [(4, .long (v5 + v7)), (2, .long (v1 + v3)), (0, .ref a0), (1, .ref a1)]) hx hb d_Me_of_19 hl (by decide) rfl (fun ls hl => ?_)
  refine lv_aload_n hx hb d_Me_of_21 rfl (lv_at hl 2 rfl) ?_
  obtain ⟨v9, e10, h⟩ := gb h
  refine gw_getJ hx hb hT hown hK hI (ci := 3) rfl i_3 6 (by decide) wd_141 (fun _ h9 => h9) e10 d_Me_of_22 ?_
  refine lv_aload_n hx hb d_Me_of_25 rfl (lv_at hl 2 rfl) ?_
  obtain ⟨v11, e12, h⟩ := gb h
  refine gw_getJ hx hb hT hown hK hI (ci := 3) rfl i_3 9 (by decide) wd_147 (fun _ h9 => h9) e12 d_Me_of_26 ?_
  refine lv_aload_n hx hb d_Me_of_29 rfl (lv_at hl 3 rfl) ?_
  obtain ⟨v13, e14, h⟩ := gb h
  refine gw_getJ hx hb hT hown hK hI (ci := 3) rfl i_3 6 (by decide) wd_141 (fun _ h9 => h9) e14 d_Me_of_30 ?_
  refine lv_aload_n hx hb d_Me_of_33 rfl (lv_at hl 3 rfl) ?_
  obtain ⟨v15, e16, h⟩ := gb h
  refine gw_getJ hx hb hT hown hK hI (ci := 3) rfl i_3 9 (by decide) wd_147 (fun _ h9 => h9) e16 d_Me_of_34 ?_
  obtain ⟨u17, e18⟩ := gsome h
  refine gw_callJ e18 h (gw_runS (As := [.long v9, .long v11, .long v13, .long v15]) (rest := []) hx hb hml hown hT hK hZ hA hI (m_Me_gap l D g0 v9 v11 v13 v15 w u17 e18) ce_Me_gap wd_376 ⟨by decide, by decide⟩ rfl rfl hl.1 rfl (lv_room (Nat.le_of_ble_eq_true rfl)) d_Me_of_37 ⟨(show 0 + 0 ≤ 0 by omega), (show 0 + 0 ≤ 0 by omega)⟩) hI hA hexc (show 0 + 0 ≤ 0 by omega) (show 0 + 0 ≤ 0 by omega) (fun v19 w H locs h hI => ?_)
  refine lv_lstore (lv' := [(6, .long v19), (4, .long (v5 + v7)), (2, .long (v1 + v3)), (0, .ref a0), (1, .ref a1)]) hx hb d_Me_of_40 hl (by decide) rfl (fun ls hl => ?_)
  refine lv_aload_n hx hb d_Me_of_42 rfl (lv_at hl 3 rfl) ?_
  obtain ⟨v20, e21, h⟩ := gb h
  refine gw_getJ hx hb hT hown hK hI (ci := 3) rfl i_3 7 (by decide) wd_143 (fun _ h9 => h9) e21 d_Me_of_43 ?_
  refine lv_aload_n hx hb d_Me_of_46 rfl (lv_at hl 3 rfl) ?_
  obtain ⟨v22, e23, h⟩ := gb h
  refine gw_getJ hx hb hT hown hK hI (ci := 3) rfl i_3 10 (by decide) wd_149 (fun _ h9 => h9) e23 d_Me_of_47 ?_
  refine lv_aload_n hx hb d_Me_of_50 rfl (lv_at hl 4 rfl) ?_
  obtain ⟨v24, e25, h⟩ := gb h
  refine gw_getJ hx hb hT hown hK hI (ci := 3) rfl i_3 7 (by decide) wd_143 (fun _ h9 => h9) e25 d_Me_of_51 ?_
  refine lv_aload_n hx hb d_Me_of_54 rfl (lv_at hl 4 rfl) ?_
  obtain ⟨v26, e27, h⟩ := gb h
  refine gw_getJ hx hb hT hown hK hI (ci := 3) rfl i_3 10 (by decide) wd_149 (fun _ h9 => h9) e27 d_Me_of_55 ?_
  obtain ⟨u28, e29⟩ := gsome h
  refine gw_callJ e29 h (gw_runS (As := [.long v20, .long v22, .long v24, .long v26]) (rest := []) hx hb hml hown hT hK hZ hA hI (m_Me_gap l D g0 v20 v22 v24 v26 w u28 e29) ce_Me_gap wd_376 ⟨by decide, by decide⟩ rfl rfl hl.1 rfl (lv_room (Nat.le_of_ble_eq_true rfl)) d_Me_of_58 ⟨(show 0 + 0 ≤ 0 by omega), (show 0 + 0 ≤ 0 by omega)⟩) hI hA hexc (show 0 + 0 ≤ 0 by omega) (show 0 + 0 ≤ 0 by omega) (fun v30 w H locs h hI => ?_)
  refine lv_lstore (lv' := [(8, .long v30), (6, .long v19), (4, .long (v5 + v7)), (2, .long (v1 + v3)), (0, .ref a0), (1, .ref a1)]) hx hb d_Me_of_61 hl (by decide) rfl (fun ls hl => ?_)
  refine lv_aload_n hx hb d_Me_of_63 rfl (lv_at hl 4 rfl) ?_
  obtain ⟨v31, e32, h⟩ := gb h
  refine gw_getJ hx hb hT hown hK hI (ci := 3) rfl i_3 8 (by decide) wd_145 (fun _ h9 => h9) e32 d_Me_of_64 ?_
  refine lv_aload_n hx hb d_Me_of_67 rfl (lv_at hl 4 rfl) ?_
  obtain ⟨v33, e34, h⟩ := gb h
  refine gw_getJ hx hb hT hown hK hI (ci := 3) rfl i_3 11 (by decide) wd_151 (fun _ h9 => h9) e34 d_Me_of_68 ?_
  refine lv_aload_n hx hb d_Me_of_71 rfl (lv_at hl 5 rfl) ?_
  obtain ⟨v35, e36, h⟩ := gb h
  refine gw_getJ hx hb hT hown hK hI (ci := 3) rfl i_3 8 (by decide) wd_145 (fun _ h9 => h9) e36 d_Me_of_72 ?_
  refine lv_aload_n hx hb d_Me_of_75 rfl (lv_at hl 5 rfl) ?_
  obtain ⟨v37, e38, h⟩ := gb h
  refine gw_getJ hx hb hT hown hK hI (ci := 3) rfl i_3 11 (by decide) wd_151 (fun _ h9 => h9) e38 d_Me_of_76 ?_
  obtain ⟨u39, e40⟩ := gsome h
  refine gw_callJ e40 h (gw_runS (As := [.long v31, .long v33, .long v35, .long v37]) (rest := []) hx hb hml hown hT hK hZ hA hI (m_Me_gap l D g0 v31 v33 v35 v37 w u39 e40) ce_Me_gap wd_376 ⟨by decide, by decide⟩ rfl rfl hl.1 rfl (lv_room (Nat.le_of_ble_eq_true rfl)) d_Me_of_79 ⟨(show 0 + 0 ≤ 0 by omega), (show 0 + 0 ≤ 0 by omega)⟩) hI hA hexc (show 0 + 0 ≤ 0 by omega) (show 0 + 0 ≤ 0 by omega) (fun v41 w H locs h hI => ?_)
  refine lv_lstore (lv' := [(10, .long v41), (8, .long v30), (6, .long v19), (4, .long (v5 + v7)), (2, .long (v1 + v3)), (0, .ref a0), (1, .ref a1)]) hx hb d_Me_of_82 hl (by decide) rfl (fun ls hl => ?_)
  refine lv_lload hx hb d_Me_of_84 (lv_at hl 2 rfl) ?_
  refine lv_lload_n hx hb d_Me_of_86 rfl (lv_at hl 4 rfl) ?_
  refine lv_lload hx hb d_Me_of_87 (lv_at hl 3 rfl) ?_
  refine lv_ladd hx hb d_Me_of_89 ?_
  refine W.lcmp hx hb d_Me_of_90 ?_
  obtain ⟨K112, eK112, h⟩ := gj h
  have hK112 : ∀ (w : gW) (H : Heap) (locs : List Loc) (ls : Array Slot), K112 w = some r → gI D s A w H locs → lv_has ls 14 [] → W p l e rm_Me_of s m args below meth c H locs 0 0 Q (F0 m 112 ls []) := by
    intro w H locs ls h hI hl
    have h := gk1 eK112 h
    refine lv_iconst (v := 1) hx hb d_Me_of_112 (by decide) ?_
    exact W.widen (show 0 ≤ 0 by omega) (show 0 ≤ 0 by omega) (hret _ _ (Option.some.inj h).symm _ _ _ _ d_Me_of_113 hI)
  refine lv_if_gt (tgt := 112) hx hb d_Me_of_91 (by decide) (fun c42 => ?_) (fun c42 => ?_)
  · have c42 := (lg_cmp_gt _ _).mp c42
    have h := git c42 h
    exact hK112 w H locs ls h hI (lv_sub hl [] rfl)
  · have c42 := mt (lg_cmp_gt _ _).mpr c42
    have h := gie c42 h
    refine lv_lload hx hb d_Me_of_94 (lv_at hl 1 rfl) ?_
    refine lv_lload_n hx hb d_Me_of_96 rfl (lv_at hl 4 rfl) ?_
    refine lv_lload hx hb d_Me_of_97 (lv_at hl 3 rfl) ?_
    refine lv_ladd hx hb d_Me_of_99 ?_
    refine W.lcmp hx hb d_Me_of_100 ?_
    refine lv_if_gt (tgt := 112) hx hb d_Me_of_101 (by decide) (fun c43 => ?_) (fun c43 => ?_)
    · have c43 := (lg_cmp_gt _ _).mp c43
      have h := git c43 h
      exact hK112 w H locs ls h hI (lv_sub hl [] rfl)
    · have c43 := mt (lg_cmp_gt _ _).mpr c43
      have h := gie c43 h
      refine lv_lload hx hb d_Me_of_104 (lv_at hl 0 rfl) ?_
      refine lv_lload hx hb d_Me_of_106 (lv_at hl 3 rfl) ?_
      refine W.lcmp hx hb d_Me_of_108 ?_
      refine lv_if_le (tgt := 114) hx hb d_Me_of_109 (by decide) (fun c44 => ?_) (fun c44 => ?_)
      · have c44 := (lg_cmp_le _ _).mp c44
        have h := git c44 h
        refine lv_lload hx hb d_Me_of_114 (lv_at hl 3 rfl) ?_
        refine lv_lconst (v := 0) hx hb d_Me_of_116 (by decide) ?_
        refine W.lcmp hx hb d_Me_of_117 ?_
        refine lv_if_ne (tgt := 156) hx hb d_Me_of_118 (by decide) (fun c45 => ?_) (fun c45 => ?_)
        · have c45 := mt (lg_cmp_eq _ _).mpr c45
          have h := gie c45 h
          refine lv_lload hx hb d_Me_of_156 (lv_at hl 3 rfl) ?_
          refine lv_lload hx hb d_Me_of_158 (lv_at hl 3 rfl) ?_
          refine lv_lmul hx hb d_Me_of_160 ?_
          refine lv_lload hx hb d_Me_of_161 (lv_at hl 0 rfl) ?_
          obtain ⟨u46, e47⟩ := gsome h
          refine gw_callJ e47 h (gw_runS (As := [.long v41]) (rest := [.long ((v5 + v7) * (v5 + v7))]) hx hb hml hown hT hK hZ hA hI (m_Me_squareIfAbove l D g0 v41 w u46 e47) ce_Me_squareIfAbove wd_397 ⟨by decide, by decide⟩ rfl rfl hl.1 rfl (lv_room (Nat.le_of_ble_eq_true rfl)) d_Me_of_163 ⟨(show 0 + 0 ≤ 0 by omega), (show 0 + 0 ≤ 0 by omega)⟩) hI hA hexc (show 0 + 0 ≤ 0 by omega) (show 0 + 0 ≤ 0 by omega) (fun v48 w H locs h hI => ?_)
          refine lv_lsub hx hb d_Me_of_166 ?_
          refine lv_lstore (lv' := [(12, .long (((v5 + v7) * (v5 + v7)) - v48)), (10, .long v41), (8, .long v30), (6, .long v19), (4, .long (v5 + v7)), (2, .long (v1 + v3)), (0, .ref a0), (1, .ref a1)]) hx hb d_Me_of_167 hl (by decide) rfl (fun ls hl => ?_)
          refine lv_lload_n hx hb d_Me_of_169 rfl (lv_at hl 5 rfl) ?_
          refine lv_lconst (v := 0) hx hb d_Me_of_170 (by decide) ?_
          refine W.lcmp hx hb d_Me_of_171 ?_
          refine lv_if_ne (tgt := 183) hx hb d_Me_of_172 (by decide) (fun c49 => ?_) (fun c49 => ?_)
          · have c49 := mt (lg_cmp_eq _ _).mpr c49
            have h := gie c49 h
            refine lv_lload hx hb d_Me_of_183 (lv_at hl 3 rfl) ?_
            obtain ⟨u50, e51⟩ := gsome h
            refine gw_callJ e51 h (gw_runS (As := [.long v19]) (rest := []) hx hb hml hown hT hK hZ hA hI (m_Me_squareIfAbove l D g0 v19 w u50 e51) ce_Me_squareIfAbove wd_397 ⟨by decide, by decide⟩ rfl rfl hl.1 rfl (lv_room (Nat.le_of_ble_eq_true rfl)) d_Me_of_185 ⟨(show 0 + 0 ≤ 0 by omega), (show 0 + 0 ≤ 0 by omega)⟩) hI hA hexc (show 0 + 0 ≤ 0 by omega) (show 0 + 0 ≤ 0 by omega) (fun v52 w H locs h hI => ?_)
            refine lv_lload hx hb d_Me_of_188 (lv_at hl 2 rfl) ?_
            obtain ⟨u53, e54⟩ := gsome h
            refine gw_callJ e54 h (gw_runS (As := [.long v30]) (rest := [.long v52]) hx hb hml hown hT hK hZ hA hI (m_Me_squareIfAbove l D g0 v30 w u53 e54) ce_Me_squareIfAbove wd_397 ⟨by decide, by decide⟩ rfl rfl hl.1 rfl (lv_room (Nat.le_of_ble_eq_true rfl)) d_Me_of_190 ⟨(show 0 + 0 ≤ 0 by omega), (show 0 + 0 ≤ 0 by omega)⟩) hI hA hexc (show 0 + 0 ≤ 0 by omega) (show 0 + 0 ≤ 0 by omega) (fun v55 w H locs h hI => ?_)
            refine lv_ladd hx hb d_Me_of_193 ?_
            refine lv_lload_n hx hb d_Me_of_194 rfl (lv_at hl 5 rfl) ?_
            refine lv_lload hx hb d_Me_of_195 (lv_at hl 0 rfl) ?_
            obtain ⟨u56, e57⟩ := gsome h
            refine gw_callI e57 h (gw_runS (As := [.long (v52 + v55), .long (v1 + v3), .long (((v5 + v7) * (v5 + v7)) - v48)]) (rest := []) hx hb hml hown hT hK hZ hA hI (m_Me_discAndRound l D g0 (v52 + v55) (v1 + v3) (((v5 + v7) * (v5 + v7)) - v48) w u56 e57) ce_Me_discAndRound wd_406 ⟨by decide, by decide⟩ rfl rfl hl.1 rfl (lv_room (Nat.le_of_ble_eq_true rfl)) d_Me_of_197 ⟨(show 0 + 0 ≤ 0 by omega), (show 0 + 0 ≤ 0 by omega)⟩) hI hA hexc (show 0 + 0 ≤ 0 by omega) (show 0 + 0 ≤ 0 by omega) (fun v58 w H locs h hI => ?_)
            exact W.widen (show 0 ≤ 0 by omega) (show 0 ≤ 0 by omega) (hret _ _ (Option.some.inj h).symm _ _ _ _ d_Me_of_200 hI)
          · have c49 := (lg_cmp_eq _ _).mp c49
            have h := git c49 h
            refine lv_aload_n hx hb d_Me_of_175 rfl (lv_at hl 6 rfl) ?_
            refine lv_aload_n hx hb d_Me_of_176 rfl (lv_at hl 7 rfl) ?_
            refine lv_lload hx hb d_Me_of_177 (lv_at hl 0 rfl) ?_
            obtain ⟨u59, e60⟩ := gsome h
            refine gw_callI e60 h (gw_runS (As := [.ref a0, .ref a1, .long (((v5 + v7) * (v5 + v7)) - v48)]) (rest := []) hx hb hml hown hT hK hZ hA hI (m_Me_distance l D g0 a0 a1 (((v5 + v7) * (v5 + v7)) - v48) w u59 e60) ce_Me_distance wd_391 ⟨by decide, by decide⟩ rfl rfl hl.1 rfl (lv_room (Nat.le_of_ble_eq_true rfl)) d_Me_of_179 ⟨(show 0 + 0 ≤ 0 by omega), (show 0 + 0 ≤ 0 by omega)⟩) hI hA hexc (show 0 + 0 ≤ 0 by omega) (show 0 + 0 ≤ 0 by omega) (fun v61 w H locs h hI => ?_)
            exact W.widen (show 0 ≤ 0 by omega) (show 0 ≤ 0 by omega) (hret _ _ (Option.some.inj h).symm _ _ _ _ d_Me_of_182 hI)
        · have c45 := (lg_cmp_eq _ _).mp c45
          have h := git c45 h
          refine lv_lload_n hx hb d_Me_of_121 rfl (lv_at hl 4 rfl) ?_
          refine lv_lconst (v := 0) hx hb d_Me_of_122 (by decide) ?_
          refine W.lcmp hx hb d_Me_of_123 ?_
          obtain ⟨K143, eK143, h⟩ := gj h
          have hK143 : ∀ (y62 : Int32) (w : gW) (H : Heap) (locs : List Loc) (ls : Array Slot), K143 y62 w = some r → gI D s A w H locs → lv_has ls 14 [(10, .long v41)] → W p l e rm_Me_of s m args below meth c H locs 0 0 Q (F0 m 143 ls [.int y62]) := by
            intro y62 w H locs ls h hI hl
            have h := gk2 eK143 h
            refine lv_istore (lv' := [(12, .int y62), (10, .long v41)]) hx hb d_Me_of_143 hl (by decide) rfl (fun ls hl => ?_)
            refine lv_iload hx hb d_Me_of_145 (lv_at hl 0 rfl) ?_
            refine lv_lload hx hb d_Me_of_147 (lv_at hl 1 rfl) ?_
            obtain ⟨u63, e64⟩ := gsome h
            refine gw_callI e64 h (gw_runS (As := [.long v41]) (rest := [.int y62]) hx hb hml hown hT hK hZ hA hI (m_Me_sign l D g0 v41 w u63 e64) ce_Me_sign wd_383 ⟨by decide, by decide⟩ rfl rfl hl.1 rfl (lv_room (Nat.le_of_ble_eq_true rfl)) d_Me_of_149 ⟨(show 0 + 0 ≤ 0 by omega), (show 0 + 0 ≤ 0 by omega)⟩) hI hA hexc (show 0 + 0 ≤ 0 by omega) (show 0 + 0 ≤ 0 by omega) (fun v65 w H locs h hI => ?_)
            obtain ⟨u66, e67⟩ := gsome h
            refine gw_callI e67 h (gw_runS (As := [.int y62, .int v65]) (rest := []) hx hb hml hown hT hK hZ hA hI (m_Ma_max l D g0 y62 v65 w u66 e67) ce_Ma_max wd_390 ⟨by decide, by decide⟩ rfl rfl hl.1 rfl (lv_room (Nat.le_of_ble_eq_true rfl)) d_Me_of_152 ⟨(show 0 + 0 ≤ 0 by omega), (show 0 + 0 ≤ 0 by omega)⟩) hI hA hexc (show 0 + 0 ≤ 0 by omega) (show 0 + 0 ≤ 0 by omega) (fun v68 w H locs h hI => ?_)
            exact W.widen (show 0 ≤ 0 by omega) (show 0 ≤ 0 by omega) (hret _ _ (Option.some.inj h).symm _ _ _ _ d_Me_of_155 hI)
          refine lv_if_ne (tgt := 135) hx hb d_Me_of_124 (by decide) (fun c69 => ?_) (fun c69 => ?_)
          · have c69 := mt (lg_cmp_eq _ _).mpr c69
            have h := gie c69 h
            refine lv_aload_n hx hb d_Me_of_135 rfl (lv_at hl 5 rfl) ?_
            refine lv_aload_n hx hb d_Me_of_136 rfl (lv_at hl 6 rfl) ?_
            refine lv_lload_n hx hb d_Me_of_137 rfl (lv_at hl 4 rfl) ?_
            refine lv_lload_n hx hb d_Me_of_138 rfl (lv_at hl 4 rfl) ?_
            refine lv_lmul hx hb d_Me_of_139 ?_
            obtain ⟨u70, e71⟩ := gsome h
            refine gw_callI e71 h (gw_runS (As := [.ref a0, .ref a1, .long ((v1 + v3) * (v1 + v3))]) (rest := []) hx hb hml hown hT hK hZ hA hI (m_Me_distance l D g0 a0 a1 ((v1 + v3) * (v1 + v3)) w u70 e71) ce_Me_distance wd_391 ⟨by decide, by decide⟩ rfl rfl hl.1 rfl (lv_room (Nat.le_of_ble_eq_true rfl)) d_Me_of_140 ⟨(show 0 + 0 ≤ 0 by omega), (show 0 + 0 ≤ 0 by omega)⟩) hI hA hexc (show 0 + 0 ≤ 0 by omega) (show 0 + 0 ≤ 0 by omega) (fun v72 w H locs h hI => ?_)
            exact hK143 _ w H locs ls h hI (lv_sub hl [0] rfl)
          · have c69 := (lg_cmp_eq _ _).mp c69
            have h := git c69 h
            refine lv_aload_n hx hb d_Me_of_127 rfl (lv_at hl 5 rfl) ?_
            refine lv_aload_n hx hb d_Me_of_128 rfl (lv_at hl 6 rfl) ?_
            obtain ⟨u73, e74⟩ := gsome h
            refine gw_callI e74 h (gw_runS (As := [.ref a0, .ref a1]) (rest := []) hx hb hml hown hT hK hZ hA hI (m_Me_outlines l D g0 a0 a1 w u73 e74) ce_Me_outlines wd_380 ⟨by decide, by decide⟩ rfl rfl hl.1 rfl (lv_room (Nat.le_of_ble_eq_true rfl)) d_Me_of_129 ⟨(show 0 + 0 ≤ 0 by omega), (show 0 + 0 ≤ 0 by omega)⟩) hI hA hexc (show 0 + 0 ≤ 0 by omega) (show 0 + 0 ≤ 0 by omega) (fun v75 w H locs h hI => ?_)
            refine lv_goto (tgt := 143) hx hb d_Me_of_132 (by decide) ?_
            exact hK143 _ w H locs ls h hI (lv_sub hl [0] rfl)
      · have c44 := mt (lg_cmp_le _ _).mpr c44
        have h := gie c44 h
        exact hK112 w H locs ls h hI (lv_sub hl [] rfl)

abbrev b_M_init : ByteArray := prog_9_method_1_code
def y_M_init : MethodName := ⟨"BodySolidsModel", "<init>", "(J)V"⟩
theorem d_M_init_0 : decode b_M_init 0 = .ok (.aload_n 0, 1) := by decide +kernel
theorem d_M_init_1 : decode b_M_init 1 = .ok (.invokespecial 1, 3) := by decide +kernel
theorem d_M_init_4 : decode b_M_init 4 = .ok (.aload_n 0, 1) := by decide +kernel
theorem d_M_init_5 : decode b_M_init 5 = .ok (.bipush 30, 2) := by decide +kernel
theorem d_M_init_7 : decode b_M_init 7 = .ok (.newarray .int, 2) := by decide +kernel
theorem d_M_init_9 : decode b_M_init 9 = .ok (.putfield 7, 3) := by decide +kernel
theorem d_M_init_12 : decode b_M_init 12 = .ok (.aload_n 0, 1) := by decide +kernel
theorem d_M_init_13 : decode b_M_init 13 = .ok (.sipush 360, 3) := by decide +kernel
theorem d_M_init_16 : decode b_M_init 16 = .ok (.newarray .int, 2) := by decide +kernel
theorem d_M_init_18 : decode b_M_init 18 = .ok (.putfield 13, 3) := by decide +kernel
theorem d_M_init_21 : decode b_M_init 21 = .ok (.aload_n 0, 1) := by decide +kernel
theorem d_M_init_22 : decode b_M_init 22 = .ok (.sipush 2160, 3) := by decide +kernel
theorem d_M_init_25 : decode b_M_init 25 = .ok (.newarray .long, 2) := by decide +kernel
theorem d_M_init_27 : decode b_M_init 27 = .ok (.putfield 16, 3) := by decide +kernel
theorem d_M_init_30 : decode b_M_init 30 = .ok (.aload_n 0, 1) := by decide +kernel
theorem d_M_init_31 : decode b_M_init 31 = .ok (.sipush 360, 3) := by decide +kernel
theorem d_M_init_34 : decode b_M_init 34 = .ok (.newarray .int, 2) := by decide +kernel
theorem d_M_init_36 : decode b_M_init 36 = .ok (.putfield 20, 3) := by decide +kernel
theorem d_M_init_39 : decode b_M_init 39 = .ok (.aload_n 0, 1) := by decide +kernel
theorem d_M_init_40 : decode b_M_init 40 = .ok (.sipush 2880, 3) := by decide +kernel
theorem d_M_init_43 : decode b_M_init 43 = .ok (.newarray .long, 2) := by decide +kernel
theorem d_M_init_45 : decode b_M_init 45 = .ok (.putfield 23, 3) := by decide +kernel
theorem d_M_init_48 : decode b_M_init 48 = .ok (.aload_n 0, 1) := by decide +kernel
theorem d_M_init_49 : decode b_M_init 49 = .ok (.sipush 2880, 3) := by decide +kernel
theorem d_M_init_52 : decode b_M_init 52 = .ok (.newarray .long, 2) := by decide +kernel
theorem d_M_init_54 : decode b_M_init 54 = .ok (.putfield 26, 3) := by decide +kernel
theorem d_M_init_57 : decode b_M_init 57 = .ok (.aload_n 0, 1) := by decide +kernel
theorem d_M_init_58 : decode b_M_init 58 = .ok (.bipush 8, 2) := by decide +kernel
theorem d_M_init_60 : decode b_M_init 60 = .ok (.newarray .long, 2) := by decide +kernel
theorem d_M_init_62 : decode b_M_init 62 = .ok (.putfield 29, 3) := by decide +kernel
theorem d_M_init_65 : decode b_M_init 65 = .ok (.aload_n 0, 1) := by decide +kernel
theorem d_M_init_66 : decode b_M_init 66 = .ok (.bipush 8, 2) := by decide +kernel
theorem d_M_init_68 : decode b_M_init 68 = .ok (.newarray .long, 2) := by decide +kernel
theorem d_M_init_70 : decode b_M_init 70 = .ok (.putfield 32, 3) := by decide +kernel
theorem d_M_init_73 : decode b_M_init 73 = .ok (.aload_n 0, 1) := by decide +kernel
theorem d_M_init_74 : decode b_M_init 74 = .ok (.bipush 30, 2) := by decide +kernel
theorem d_M_init_76 : decode b_M_init 76 = .ok (.newarray .int, 2) := by decide +kernel
theorem d_M_init_78 : decode b_M_init 78 = .ok (.putfield 35, 3) := by decide +kernel
theorem d_M_init_81 : decode b_M_init 81 = .ok (.aload_n 0, 1) := by decide +kernel
theorem d_M_init_82 : decode b_M_init 82 = .ok (.bipush 30, 2) := by decide +kernel
theorem d_M_init_84 : decode b_M_init 84 = .ok (.newarray .long, 2) := by decide +kernel
theorem d_M_init_86 : decode b_M_init 86 = .ok (.putfield 38, 3) := by decide +kernel
theorem d_M_init_89 : decode b_M_init 89 = .ok (.aload_n 0, 1) := by decide +kernel
theorem d_M_init_90 : decode b_M_init 90 = .ok (.bipush 30, 2) := by decide +kernel
theorem d_M_init_92 : decode b_M_init 92 = .ok (.newarray .long, 2) := by decide +kernel
theorem d_M_init_94 : decode b_M_init 94 = .ok (.putfield 41, 3) := by decide +kernel
theorem d_M_init_97 : decode b_M_init 97 = .ok (.aload_n 0, 1) := by decide +kernel
theorem d_M_init_98 : decode b_M_init 98 = .ok (.bipush 30, 2) := by decide +kernel
theorem d_M_init_100 : decode b_M_init 100 = .ok (.newarray .int, 2) := by decide +kernel
theorem d_M_init_102 : decode b_M_init 102 = .ok (.putfield 44, 3) := by decide +kernel
theorem d_M_init_105 : decode b_M_init 105 = .ok (.aload_n 0, 1) := by decide +kernel
theorem d_M_init_106 : decode b_M_init 106 = .ok (.bipush 30, 2) := by decide +kernel
theorem d_M_init_108 : decode b_M_init 108 = .ok (.newarray .int, 2) := by decide +kernel
theorem d_M_init_110 : decode b_M_init 110 = .ok (.putfield 47, 3) := by decide +kernel
theorem d_M_init_113 : decode b_M_init 113 = .ok (.aload_n 0, 1) := by decide +kernel
theorem d_M_init_114 : decode b_M_init 114 = .ok (.bipush 60, 2) := by decide +kernel
theorem d_M_init_116 : decode b_M_init 116 = .ok (.newarray .long, 2) := by decide +kernel
theorem d_M_init_118 : decode b_M_init 118 = .ok (.putfield 50, 3) := by decide +kernel
theorem d_M_init_121 : decode b_M_init 121 = .ok (.aload_n 0, 1) := by decide +kernel
theorem d_M_init_122 : decode b_M_init 122 = .ok (.iconst 2, 1) := by decide +kernel
theorem d_M_init_123 : decode b_M_init 123 = .ok (.newarray .int, 2) := by decide +kernel
theorem d_M_init_125 : decode b_M_init 125 = .ok (.putfield 53, 3) := by decide +kernel
theorem d_M_init_128 : decode b_M_init 128 = .ok (.aload_n 0, 1) := by decide +kernel
theorem d_M_init_129 : decode b_M_init 129 = .ok (.iconst 2, 1) := by decide +kernel
theorem d_M_init_130 : decode b_M_init 130 = .ok (.newarray .int, 2) := by decide +kernel
theorem d_M_init_132 : decode b_M_init 132 = .ok (.putfield 56, 3) := by decide +kernel
theorem d_M_init_135 : decode b_M_init 135 = .ok (.aload_n 0, 1) := by decide +kernel
theorem d_M_init_136 : decode b_M_init 136 = .ok (.bipush 16, 2) := by decide +kernel
theorem d_M_init_138 : decode b_M_init 138 = .ok (.newarray .long, 2) := by decide +kernel
theorem d_M_init_140 : decode b_M_init 140 = .ok (.putfield 59, 3) := by decide +kernel
theorem d_M_init_143 : decode b_M_init 143 = .ok (.aload_n 0, 1) := by decide +kernel
theorem d_M_init_144 : decode b_M_init 144 = .ok (.bipush 16, 2) := by decide +kernel
theorem d_M_init_146 : decode b_M_init 146 = .ok (.newarray .long, 2) := by decide +kernel
theorem d_M_init_148 : decode b_M_init 148 = .ok (.putfield 62, 3) := by decide +kernel
theorem d_M_init_151 : decode b_M_init 151 = .ok (.aload_n 0, 1) := by decide +kernel
theorem d_M_init_152 : decode b_M_init 152 = .ok (.iconst 2, 1) := by decide +kernel
theorem d_M_init_153 : decode b_M_init 153 = .ok (.newarray .long, 2) := by decide +kernel
theorem d_M_init_155 : decode b_M_init 155 = .ok (.putfield 65, 3) := by decide +kernel
theorem d_M_init_158 : decode b_M_init 158 = .ok (.aload_n 0, 1) := by decide +kernel
theorem d_M_init_159 : decode b_M_init 159 = .ok (.iconst 2, 1) := by decide +kernel
theorem d_M_init_160 : decode b_M_init 160 = .ok (.newarray .long, 2) := by decide +kernel
theorem d_M_init_162 : decode b_M_init 162 = .ok (.putfield 68, 3) := by decide +kernel
theorem d_M_init_165 : decode b_M_init 165 = .ok (.aload_n 0, 1) := by decide +kernel
theorem d_M_init_166 : decode b_M_init 166 = .ok (.iconst 2, 1) := by decide +kernel
theorem d_M_init_167 : decode b_M_init 167 = .ok (.newarray .long, 2) := by decide +kernel
theorem d_M_init_169 : decode b_M_init 169 = .ok (.putfield 71, 3) := by decide +kernel
theorem d_M_init_172 : decode b_M_init 172 = .ok (.aload_n 0, 1) := by decide +kernel
theorem d_M_init_173 : decode b_M_init 173 = .ok (.lload_n 1, 1) := by decide +kernel
theorem d_M_init_174 : decode b_M_init 174 = .ok (.lconst 0, 1) := by decide +kernel
theorem d_M_init_175 : decode b_M_init 175 = .ok (.lcmp, 1) := by decide +kernel
theorem d_M_init_176 : decode b_M_init 176 = .ok (.ifCond .ge 7, 3) := by decide +kernel
theorem d_M_init_179 : decode b_M_init 179 = .ok (.lconst 0, 1) := by decide +kernel
theorem d_M_init_180 : decode b_M_init 180 = .ok (.goto 18, 3) := by decide +kernel
theorem d_M_init_183 : decode b_M_init 183 = .ok (.lload_n 1, 1) := by decide +kernel
theorem d_M_init_184 : decode b_M_init 184 = .ok (.ldc2_w 74, 3) := by decide +kernel
theorem d_M_init_187 : decode b_M_init 187 = .ok (.lcmp, 1) := by decide +kernel
theorem d_M_init_188 : decode b_M_init 188 = .ok (.ifCond .le 9, 3) := by decide +kernel
theorem d_M_init_191 : decode b_M_init 191 = .ok (.ldc2_w 74, 3) := by decide +kernel
theorem d_M_init_194 : decode b_M_init 194 = .ok (.goto 4, 3) := by decide +kernel
theorem d_M_init_197 : decode b_M_init 197 = .ok (.lload_n 1, 1) := by decide +kernel
theorem d_M_init_198 : decode b_M_init 198 = .ok (.putfield 76, 3) := by decide +kernel
theorem d_M_init_201 : decode b_M_init 201 = .ok (.return_, 1) := by decide +kernel
abbrev rm_M_init : Room := { frames := 1, cells := 21, slots := 8938, locals := 20 }
theorem ce_M_init : gCe y_M_init (.code y_M_init b_M_init 3 none) 3 1 false := gCe.code wd_783 wd_57 wd_782 (by decide) (by decide +kernel)
def f_M_init (g0 : Nat) (a0 : Nat) (p1 : Int64) (w : gW) : gX Unit := gb2f (gna w 0 30 30 (.int 0)) fun o1 w => (gp w a0 7 3 (.ref o1)).bind fun w => gb2f (gna w 0 360 360 (.int 0)) fun o4 w => (gp w a0 7 4 (.ref o4)).bind fun w => gb2f (gna w 1 2160 2160 (.long 0)) fun o7 w => (gp w a0 7 5 (.ref o7)).bind fun w => gb2f (gna w 0 360 360 (.int 0)) fun o10 w => (gp w a0 7 6 (.ref o10)).bind fun w => gb2f (gna w 1 2880 2880 (.long 0)) fun o13 w => (gp w a0 7 7 (.ref o13)).bind fun w => gb2f (gna w 1 2880 2880 (.long 0)) fun o16 w => (gp w a0 7 8 (.ref o16)).bind fun w => gb2f (gna w 1 8 8 (.long 0)) fun o19 w => (gp w a0 7 10 (.ref o19)).bind fun w => gb2f (gna w 1 8 8 (.long 0)) fun o22 w => (gp w a0 7 11 (.ref o22)).bind fun w => gb2f (gna w 0 30 30 (.int 0)) fun o25 w => (gp w a0 7 13 (.ref o25)).bind fun w => gb2f (gna w 1 30 30 (.long 0)) fun o28 w => (gp w a0 7 14 (.ref o28)).bind fun w => gb2f (gna w 1 30 30 (.long 0)) fun o31 w => (gp w a0 7 15 (.ref o31)).bind fun w => gb2f (gna w 0 30 30 (.int 0)) fun o34 w => (gp w a0 7 16 (.ref o34)).bind fun w => gb2f (gna w 0 30 30 (.int 0)) fun o37 w => (gp w a0 7 17 (.ref o37)).bind fun w => gb2f (gna w 1 60 60 (.long 0)) fun o40 w => (gp w a0 7 19 (.ref o40)).bind fun w => gb2f (gna w 0 2 2 (.int 0)) fun o43 w => (gp w a0 7 20 (.ref o43)).bind fun w => gb2f (gna w 0 2 2 (.int 0)) fun o46 w => (gp w a0 7 21 (.ref o46)).bind fun w => gb2f (gna w 1 16 16 (.long 0)) fun o49 w => (gp w a0 7 22 (.ref o49)).bind fun w => gb2f (gna w 1 16 16 (.long 0)) fun o52 w => (gp w a0 7 23 (.ref o52)).bind fun w => gb2f (gna w 1 2 2 (.long 0)) fun o55 w => (gp w a0 7 24 (.ref o55)).bind fun w => gb2f (gna w 1 2 2 (.long 0)) fun o58 w => (gp w a0 7 25 (.ref o58)).bind fun w => gb2f (gna w 1 2 2 (.long 0)) fun o61 w => (gp w a0 7 26 (.ref o61)).bind fun w => gjoin (fun K198 => if 0 ≤ p1 then (if p1 ≤ 1000 then (K198 p1 w) else (K198 1000 w)) else (K198 0 w)) (fun (y64 : Int64) (w : gW) => (gp w a0 7 1 (.long y64)).bind fun w => some (.inr (), w))
set_option maxHeartbeats 4000000 in
set_option maxRecDepth 100000 in
theorem m_M_init (l : Launch) (D : gD) (g0 : Nat) (a0 : Nat) (p1 : Int64) (w : gW) (r : (String ⊕ Unit) × gW) (h : f_M_init g0 a0 p1 w = some r) : gMet l y_M_init (.code y_M_init b_M_init 3 none) rm_M_init D g0 [.ref a0, .long p1] w (goV r) := by
  refine gw_ofV (by decide +kernel) (Nat.le_of_ble_eq_true rfl) ?_
  intro p e s m below meth c ls args A Q hx hb hml hown hlocks hin hnt hT hK hZ hA hret hexc hI hl
  obtain ⟨H, hH⟩ : ∃ H, H = s.heap := ⟨_, rfl⟩
  rw [← hH] at hI ⊢
  obtain ⟨locs, hlocs⟩ : ∃ z : List Loc, z = [] := ⟨_, rfl⟩
  rw [← hlocs] at hI ⊢
  have hl : lv_has ls 3 [(0, .ref a0), (1, .long p1)] := hl
  unfold f_M_init at h
  refine lv_aload_n hx hb d_M_init_0 rfl (lv_at hl 0 rfl) ?_
  refine W.objInit hx hb hown (hT _ wd_784 args) (hT _ wd_78 args) (hT _ wd_79 args) rfl (by rw [hml]; exact hl.1) rfl d_M_init_1 (Nat.le_of_ble_eq_true rfl) (Nat.le_of_ble_eq_true rfl) ?_
  refine W.eq (g2 := F0 m 4 ls []) rfl ?_
  refine lv_aload_n hx hb d_M_init_4 rfl (lv_at hl 0 rfl) ?_
  refine lv_bipush (v := 30) hx hb d_M_init_5 (by decide) ?_
  obtain ⟨o1, w, e2, h⟩ := gb2 h
  refine gw_newa (atype := .int) (ty := .int) (M := 30) hx hb hK hI hA (hT _ wd_179 args) rfl (k := 0) rfl (fun h9 => h9) e2 (show 0 + 1 ≤ 21 by omega) (show 0 + 30 ≤ 8938 by omega) (show 30 * 4 ≤ 536870912 by omega) d_M_init_7 (fun H hI => ?_)
  refine W.widen (k := 1) (n := 30) (by omega) (by omega) ?_
  obtain ⟨w, e3, h⟩ := gb h
  refine gw_putF hx hb hT hown hK hI (ci := 7) rfl i_7 t_7 t_7_ok n_7 3 (by decide) wd_789 (fun _ h9 => h9) rfl hin rfl (ty := .array .int) (by decide +kernel) rfl rfl e3 d_M_init_9 (fun H locs hI => ?_)
  refine lv_aload_n hx hb d_M_init_12 rfl (lv_at hl 0 rfl) ?_
  refine lv_sipush (v := 360) hx hb d_M_init_13 (by decide) ?_
  obtain ⟨o4, w, e5, h⟩ := gb2 h
  refine gw_newa (atype := .int) (ty := .int) (M := 360) hx hb hK hI hA (hT _ wd_179 args) rfl (k := 0) rfl (fun h9 => h9) e5 (show 1 + 1 ≤ 21 by omega) (show 30 + 360 ≤ 8938 by omega) (show 360 * 4 ≤ 536870912 by omega) d_M_init_16 (fun H hI => ?_)
  refine W.widen (k := 2) (n := 390) (by omega) (by omega) ?_
  obtain ⟨w, e6, h⟩ := gb h
  refine gw_putF hx hb hT hown hK hI (ci := 7) rfl i_7 t_7 t_7_ok n_7 4 (by decide) wd_790 (fun _ h9 => h9) rfl hin rfl (ty := .array .int) (by decide +kernel) rfl rfl e6 d_M_init_18 (fun H locs hI => ?_)
  refine lv_aload_n hx hb d_M_init_21 rfl (lv_at hl 0 rfl) ?_
  refine lv_sipush (v := 2160) hx hb d_M_init_22 (by decide) ?_
  obtain ⟨o7, w, e8, h⟩ := gb2 h
  refine gw_newa (atype := .long) (ty := .long) (M := 2160) hx hb hK hI hA (hT _ wd_178 args) rfl (k := 1) rfl (fun h9 => h9) e8 (show 2 + 1 ≤ 21 by omega) (show 390 + 2160 ≤ 8938 by omega) (show 2160 * 8 ≤ 536870912 by omega) d_M_init_25 (fun H hI => ?_)
  refine W.widen (k := 3) (n := 2550) (by omega) (by omega) ?_
  obtain ⟨w, e9, h⟩ := gb h
  refine gw_putF hx hb hT hown hK hI (ci := 7) rfl i_7 t_7 t_7_ok n_7 5 (by decide) wd_791 (fun _ h9 => h9) rfl hin rfl (ty := .array .long) (by decide +kernel) rfl rfl e9 d_M_init_27 (fun H locs hI => ?_)
  refine lv_aload_n hx hb d_M_init_30 rfl (lv_at hl 0 rfl) ?_
  refine lv_sipush (v := 360) hx hb d_M_init_31 (by decide) ?_
  obtain ⟨o10, w, e11, h⟩ := gb2 h
  refine gw_newa (atype := .int) (ty := .int) (M := 360) hx hb hK hI hA (hT _ wd_179 args) rfl (k := 0) rfl (fun h9 => h9) e11 (show 3 + 1 ≤ 21 by omega) (show 2550 + 360 ≤ 8938 by omega) (show 360 * 4 ≤ 536870912 by omega) d_M_init_34 (fun H hI => ?_)
  refine W.widen (k := 4) (n := 2910) (by omega) (by omega) ?_
  obtain ⟨w, e12, h⟩ := gb h
  refine gw_putF hx hb hT hown hK hI (ci := 7) rfl i_7 t_7 t_7_ok n_7 6 (by decide) wd_792 (fun _ h9 => h9) rfl hin rfl (ty := .array .int) (by decide +kernel) rfl rfl e12 d_M_init_36 (fun H locs hI => ?_)
  refine lv_aload_n hx hb d_M_init_39 rfl (lv_at hl 0 rfl) ?_
  refine lv_sipush (v := 2880) hx hb d_M_init_40 (by decide) ?_
  obtain ⟨o13, w, e14, h⟩ := gb2 h
  refine gw_newa (atype := .long) (ty := .long) (M := 2880) hx hb hK hI hA (hT _ wd_178 args) rfl (k := 1) rfl (fun h9 => h9) e14 (show 4 + 1 ≤ 21 by omega) (show 2910 + 2880 ≤ 8938 by omega) (show 2880 * 8 ≤ 536870912 by omega) d_M_init_43 (fun H hI => ?_)
  refine W.widen (k := 5) (n := 5790) (by omega) (by omega) ?_
  obtain ⟨w, e15, h⟩ := gb h
  refine gw_putF hx hb hT hown hK hI (ci := 7) rfl i_7 t_7 t_7_ok n_7 7 (by decide) wd_793 (fun _ h9 => h9) rfl hin rfl (ty := .array .long) (by decide +kernel) rfl rfl e15 d_M_init_45 (fun H locs hI => ?_)
  refine lv_aload_n hx hb d_M_init_48 rfl (lv_at hl 0 rfl) ?_
  refine lv_sipush (v := 2880) hx hb d_M_init_49 (by decide) ?_
  obtain ⟨o16, w, e17, h⟩ := gb2 h
  refine gw_newa (atype := .long) (ty := .long) (M := 2880) hx hb hK hI hA (hT _ wd_178 args) rfl (k := 1) rfl (fun h9 => h9) e17 (show 5 + 1 ≤ 21 by omega) (show 5790 + 2880 ≤ 8938 by omega) (show 2880 * 8 ≤ 536870912 by omega) d_M_init_52 (fun H hI => ?_)
  refine W.widen (k := 6) (n := 8670) (by omega) (by omega) ?_
  obtain ⟨w, e18, h⟩ := gb h
  refine gw_putF hx hb hT hown hK hI (ci := 7) rfl i_7 t_7 t_7_ok n_7 8 (by decide) wd_794 (fun _ h9 => h9) rfl hin rfl (ty := .array .long) (by decide +kernel) rfl rfl e18 d_M_init_54 (fun H locs hI => ?_)
  refine lv_aload_n hx hb d_M_init_57 rfl (lv_at hl 0 rfl) ?_
  refine lv_bipush (v := 8) hx hb d_M_init_58 (by decide) ?_
  obtain ⟨o19, w, e20, h⟩ := gb2 h
  refine gw_newa (atype := .long) (ty := .long) (M := 8) hx hb hK hI hA (hT _ wd_178 args) rfl (k := 1) rfl (fun h9 => h9) e20 (show 6 + 1 ≤ 21 by omega) (show 8670 + 8 ≤ 8938 by omega) (show 8 * 8 ≤ 536870912 by omega) d_M_init_60 (fun H hI => ?_)
  refine W.widen (k := 7) (n := 8678) (by omega) (by omega) ?_
  obtain ⟨w, e21, h⟩ := gb h
  refine gw_putF hx hb hT hown hK hI (ci := 7) rfl i_7 t_7 t_7_ok n_7 10 (by decide) wd_796 (fun _ h9 => h9) rfl hin rfl (ty := .array .long) (by decide +kernel) rfl rfl e21 d_M_init_62 (fun H locs hI => ?_)
  refine lv_aload_n hx hb d_M_init_65 rfl (lv_at hl 0 rfl) ?_
  refine lv_bipush (v := 8) hx hb d_M_init_66 (by decide) ?_
  obtain ⟨o22, w, e23, h⟩ := gb2 h
  refine gw_newa (atype := .long) (ty := .long) (M := 8) hx hb hK hI hA (hT _ wd_178 args) rfl (k := 1) rfl (fun h9 => h9) e23 (show 7 + 1 ≤ 21 by omega) (show 8678 + 8 ≤ 8938 by omega) (show 8 * 8 ≤ 536870912 by omega) d_M_init_68 (fun H hI => ?_)
  refine W.widen (k := 8) (n := 8686) (by omega) (by omega) ?_
  obtain ⟨w, e24, h⟩ := gb h
  refine gw_putF hx hb hT hown hK hI (ci := 7) rfl i_7 t_7 t_7_ok n_7 11 (by decide) wd_797 (fun _ h9 => h9) rfl hin rfl (ty := .array .long) (by decide +kernel) rfl rfl e24 d_M_init_70 (fun H locs hI => ?_)
  refine lv_aload_n hx hb d_M_init_73 rfl (lv_at hl 0 rfl) ?_
  refine lv_bipush (v := 30) hx hb d_M_init_74 (by decide) ?_
  obtain ⟨o25, w, e26, h⟩ := gb2 h
  refine gw_newa (atype := .int) (ty := .int) (M := 30) hx hb hK hI hA (hT _ wd_179 args) rfl (k := 0) rfl (fun h9 => h9) e26 (show 8 + 1 ≤ 21 by omega) (show 8686 + 30 ≤ 8938 by omega) (show 30 * 4 ≤ 536870912 by omega) d_M_init_76 (fun H hI => ?_)
  refine W.widen (k := 9) (n := 8716) (by omega) (by omega) ?_
  obtain ⟨w, e27, h⟩ := gb h
  refine gw_putF hx hb hT hown hK hI (ci := 7) rfl i_7 t_7 t_7_ok n_7 13 (by decide) wd_799 (fun _ h9 => h9) rfl hin rfl (ty := .array .int) (by decide +kernel) rfl rfl e27 d_M_init_78 (fun H locs hI => ?_)
  refine lv_aload_n hx hb d_M_init_81 rfl (lv_at hl 0 rfl) ?_
  refine lv_bipush (v := 30) hx hb d_M_init_82 (by decide) ?_
  obtain ⟨o28, w, e29, h⟩ := gb2 h
  refine gw_newa (atype := .long) (ty := .long) (M := 30) hx hb hK hI hA (hT _ wd_178 args) rfl (k := 1) rfl (fun h9 => h9) e29 (show 9 + 1 ≤ 21 by omega) (show 8716 + 30 ≤ 8938 by omega) (show 30 * 8 ≤ 536870912 by omega) d_M_init_84 (fun H hI => ?_)
  refine W.widen (k := 10) (n := 8746) (by omega) (by omega) ?_
  obtain ⟨w, e30, h⟩ := gb h
  refine gw_putF hx hb hT hown hK hI (ci := 7) rfl i_7 t_7 t_7_ok n_7 14 (by decide) wd_800 (fun _ h9 => h9) rfl hin rfl (ty := .array .long) (by decide +kernel) rfl rfl e30 d_M_init_86 (fun H locs hI => ?_)
  refine lv_aload_n hx hb d_M_init_89 rfl (lv_at hl 0 rfl) ?_
  refine lv_bipush (v := 30) hx hb d_M_init_90 (by decide) ?_
  obtain ⟨o31, w, e32, h⟩ := gb2 h
  refine gw_newa (atype := .long) (ty := .long) (M := 30) hx hb hK hI hA (hT _ wd_178 args) rfl (k := 1) rfl (fun h9 => h9) e32 (show 10 + 1 ≤ 21 by omega) (show 8746 + 30 ≤ 8938 by omega) (show 30 * 8 ≤ 536870912 by omega) d_M_init_92 (fun H hI => ?_)
  refine W.widen (k := 11) (n := 8776) (by omega) (by omega) ?_
  obtain ⟨w, e33, h⟩ := gb h
  refine gw_putF hx hb hT hown hK hI (ci := 7) rfl i_7 t_7 t_7_ok n_7 15 (by decide) wd_801 (fun _ h9 => h9) rfl hin rfl (ty := .array .long) (by decide +kernel) rfl rfl e33 d_M_init_94 (fun H locs hI => ?_)
  refine lv_aload_n hx hb d_M_init_97 rfl (lv_at hl 0 rfl) ?_
  refine lv_bipush (v := 30) hx hb d_M_init_98 (by decide) ?_
  obtain ⟨o34, w, e35, h⟩ := gb2 h
  refine gw_newa (atype := .int) (ty := .int) (M := 30) hx hb hK hI hA (hT _ wd_179 args) rfl (k := 0) rfl (fun h9 => h9) e35 (show 11 + 1 ≤ 21 by omega) (show 8776 + 30 ≤ 8938 by omega) (show 30 * 4 ≤ 536870912 by omega) d_M_init_100 (fun H hI => ?_)
  refine W.widen (k := 12) (n := 8806) (by omega) (by omega) ?_
  obtain ⟨w, e36, h⟩ := gb h
  refine gw_putF hx hb hT hown hK hI (ci := 7) rfl i_7 t_7 t_7_ok n_7 16 (by decide) wd_802 (fun _ h9 => h9) rfl hin rfl (ty := .array .int) (by decide +kernel) rfl rfl e36 d_M_init_102 (fun H locs hI => ?_)
  refine lv_aload_n hx hb d_M_init_105 rfl (lv_at hl 0 rfl) ?_
  refine lv_bipush (v := 30) hx hb d_M_init_106 (by decide) ?_
  obtain ⟨o37, w, e38, h⟩ := gb2 h
  refine gw_newa (atype := .int) (ty := .int) (M := 30) hx hb hK hI hA (hT _ wd_179 args) rfl (k := 0) rfl (fun h9 => h9) e38 (show 12 + 1 ≤ 21 by omega) (show 8806 + 30 ≤ 8938 by omega) (show 30 * 4 ≤ 536870912 by omega) d_M_init_108 (fun H hI => ?_)
  refine W.widen (k := 13) (n := 8836) (by omega) (by omega) ?_
  obtain ⟨w, e39, h⟩ := gb h
  refine gw_putF hx hb hT hown hK hI (ci := 7) rfl i_7 t_7 t_7_ok n_7 17 (by decide) wd_803 (fun _ h9 => h9) rfl hin rfl (ty := .array .int) (by decide +kernel) rfl rfl e39 d_M_init_110 (fun H locs hI => ?_)
  refine lv_aload_n hx hb d_M_init_113 rfl (lv_at hl 0 rfl) ?_
  refine lv_bipush (v := 60) hx hb d_M_init_114 (by decide) ?_
  obtain ⟨o40, w, e41, h⟩ := gb2 h
  refine gw_newa (atype := .long) (ty := .long) (M := 60) hx hb hK hI hA (hT _ wd_178 args) rfl (k := 1) rfl (fun h9 => h9) e41 (show 13 + 1 ≤ 21 by omega) (show 8836 + 60 ≤ 8938 by omega) (show 60 * 8 ≤ 536870912 by omega) d_M_init_116 (fun H hI => ?_)
  refine W.widen (k := 14) (n := 8896) (by omega) (by omega) ?_
  obtain ⟨w, e42, h⟩ := gb h
  refine gw_putF hx hb hT hown hK hI (ci := 7) rfl i_7 t_7 t_7_ok n_7 19 (by decide) wd_805 (fun _ h9 => h9) rfl hin rfl (ty := .array .long) (by decide +kernel) rfl rfl e42 d_M_init_118 (fun H locs hI => ?_)
  refine lv_aload_n hx hb d_M_init_121 rfl (lv_at hl 0 rfl) ?_
  refine lv_iconst (v := 2) hx hb d_M_init_122 (by decide) ?_
  obtain ⟨o43, w, e44, h⟩ := gb2 h
  refine gw_newa (atype := .int) (ty := .int) (M := 2) hx hb hK hI hA (hT _ wd_179 args) rfl (k := 0) rfl (fun h9 => h9) e44 (show 14 + 1 ≤ 21 by omega) (show 8896 + 2 ≤ 8938 by omega) (show 2 * 4 ≤ 536870912 by omega) d_M_init_123 (fun H hI => ?_)
  refine W.widen (k := 15) (n := 8898) (by omega) (by omega) ?_
  obtain ⟨w, e45, h⟩ := gb h
  refine gw_putF hx hb hT hown hK hI (ci := 7) rfl i_7 t_7 t_7_ok n_7 20 (by decide) wd_806 (fun _ h9 => h9) rfl hin rfl (ty := .array .int) (by decide +kernel) rfl rfl e45 d_M_init_125 (fun H locs hI => ?_)
  refine lv_aload_n hx hb d_M_init_128 rfl (lv_at hl 0 rfl) ?_
  refine lv_iconst (v := 2) hx hb d_M_init_129 (by decide) ?_
  obtain ⟨o46, w, e47, h⟩ := gb2 h
  refine gw_newa (atype := .int) (ty := .int) (M := 2) hx hb hK hI hA (hT _ wd_179 args) rfl (k := 0) rfl (fun h9 => h9) e47 (show 15 + 1 ≤ 21 by omega) (show 8898 + 2 ≤ 8938 by omega) (show 2 * 4 ≤ 536870912 by omega) d_M_init_130 (fun H hI => ?_)
  refine W.widen (k := 16) (n := 8900) (by omega) (by omega) ?_
  obtain ⟨w, e48, h⟩ := gb h
  refine gw_putF hx hb hT hown hK hI (ci := 7) rfl i_7 t_7 t_7_ok n_7 21 (by decide) wd_807 (fun _ h9 => h9) rfl hin rfl (ty := .array .int) (by decide +kernel) rfl rfl e48 d_M_init_132 (fun H locs hI => ?_)
  refine lv_aload_n hx hb d_M_init_135 rfl (lv_at hl 0 rfl) ?_
  refine lv_bipush (v := 16) hx hb d_M_init_136 (by decide) ?_
  obtain ⟨o49, w, e50, h⟩ := gb2 h
  refine gw_newa (atype := .long) (ty := .long) (M := 16) hx hb hK hI hA (hT _ wd_178 args) rfl (k := 1) rfl (fun h9 => h9) e50 (show 16 + 1 ≤ 21 by omega) (show 8900 + 16 ≤ 8938 by omega) (show 16 * 8 ≤ 536870912 by omega) d_M_init_138 (fun H hI => ?_)
  refine W.widen (k := 17) (n := 8916) (by omega) (by omega) ?_
  obtain ⟨w, e51, h⟩ := gb h
  refine gw_putF hx hb hT hown hK hI (ci := 7) rfl i_7 t_7 t_7_ok n_7 22 (by decide) wd_808 (fun _ h9 => h9) rfl hin rfl (ty := .array .long) (by decide +kernel) rfl rfl e51 d_M_init_140 (fun H locs hI => ?_)
  refine lv_aload_n hx hb d_M_init_143 rfl (lv_at hl 0 rfl) ?_
  refine lv_bipush (v := 16) hx hb d_M_init_144 (by decide) ?_
  obtain ⟨o52, w, e53, h⟩ := gb2 h
  refine gw_newa (atype := .long) (ty := .long) (M := 16) hx hb hK hI hA (hT _ wd_178 args) rfl (k := 1) rfl (fun h9 => h9) e53 (show 17 + 1 ≤ 21 by omega) (show 8916 + 16 ≤ 8938 by omega) (show 16 * 8 ≤ 536870912 by omega) d_M_init_146 (fun H hI => ?_)
  refine W.widen (k := 18) (n := 8932) (by omega) (by omega) ?_
  obtain ⟨w, e54, h⟩ := gb h
  refine gw_putF hx hb hT hown hK hI (ci := 7) rfl i_7 t_7 t_7_ok n_7 23 (by decide) wd_809 (fun _ h9 => h9) rfl hin rfl (ty := .array .long) (by decide +kernel) rfl rfl e54 d_M_init_148 (fun H locs hI => ?_)
  refine lv_aload_n hx hb d_M_init_151 rfl (lv_at hl 0 rfl) ?_
  refine lv_iconst (v := 2) hx hb d_M_init_152 (by decide) ?_
  obtain ⟨o55, w, e56, h⟩ := gb2 h
  refine gw_newa (atype := .long) (ty := .long) (M := 2) hx hb hK hI hA (hT _ wd_178 args) rfl (k := 1) rfl (fun h9 => h9) e56 (show 18 + 1 ≤ 21 by omega) (show 8932 + 2 ≤ 8938 by omega) (show 2 * 8 ≤ 536870912 by omega) d_M_init_153 (fun H hI => ?_)
  refine W.widen (k := 19) (n := 8934) (by omega) (by omega) ?_
  obtain ⟨w, e57, h⟩ := gb h
  refine gw_putF hx hb hT hown hK hI (ci := 7) rfl i_7 t_7 t_7_ok n_7 24 (by decide) wd_810 (fun _ h9 => h9) rfl hin rfl (ty := .array .long) (by decide +kernel) rfl rfl e57 d_M_init_155 (fun H locs hI => ?_)
  refine lv_aload_n hx hb d_M_init_158 rfl (lv_at hl 0 rfl) ?_
  refine lv_iconst (v := 2) hx hb d_M_init_159 (by decide) ?_
  obtain ⟨o58, w, e59, h⟩ := gb2 h
  refine gw_newa (atype := .long) (ty := .long) (M := 2) hx hb hK hI hA (hT _ wd_178 args) rfl (k := 1) rfl (fun h9 => h9) e59 (show 19 + 1 ≤ 21 by omega) (show 8934 + 2 ≤ 8938 by omega) (show 2 * 8 ≤ 536870912 by omega) d_M_init_160 (fun H hI => ?_)
  refine W.widen (k := 20) (n := 8936) (by omega) (by omega) ?_
  obtain ⟨w, e60, h⟩ := gb h
  refine gw_putF hx hb hT hown hK hI (ci := 7) rfl i_7 t_7 t_7_ok n_7 25 (by decide) wd_811 (fun _ h9 => h9) rfl hin rfl (ty := .array .long) (by decide +kernel) rfl rfl e60 d_M_init_162 (fun H locs hI => ?_)
  refine lv_aload_n hx hb d_M_init_165 rfl (lv_at hl 0 rfl) ?_
  refine lv_iconst (v := 2) hx hb d_M_init_166 (by decide) ?_
  obtain ⟨o61, w, e62, h⟩ := gb2 h
  refine gw_newa (atype := .long) (ty := .long) (M := 2) hx hb hK hI hA (hT _ wd_178 args) rfl (k := 1) rfl (fun h9 => h9) e62 (show 20 + 1 ≤ 21 by omega) (show 8936 + 2 ≤ 8938 by omega) (show 2 * 8 ≤ 536870912 by omega) d_M_init_167 (fun H hI => ?_)
  refine W.widen (k := 21) (n := 8938) (by omega) (by omega) ?_
  obtain ⟨w, e63, h⟩ := gb h
  refine gw_putF hx hb hT hown hK hI (ci := 7) rfl i_7 t_7 t_7_ok n_7 26 (by decide) wd_812 (fun _ h9 => h9) rfl hin rfl (ty := .array .long) (by decide +kernel) rfl rfl e63 d_M_init_169 (fun H locs hI => ?_)
  refine lv_aload_n hx hb d_M_init_172 rfl (lv_at hl 0 rfl) ?_
  refine lv_lload_n hx hb d_M_init_173 rfl (lv_at hl 1 rfl) ?_
  refine lv_lconst (v := 0) hx hb d_M_init_174 (by decide) ?_
  refine W.lcmp hx hb d_M_init_175 ?_
  obtain ⟨K198, eK198, h⟩ := gj h
  have hK198 : ∀ (y64 : Int64) (w : gW) (H : Heap) (locs : List Loc) (ls : Array Slot), K198 y64 w = some r → gI D s A w H locs → lv_has ls 3 [] → W p l e rm_M_init s m args below meth c H locs 21 8938 Q (F0 m 198 ls [.long y64, .ref a0]) := by
    intro y64 w H locs ls h hI hl
    have h := gk2 eK198 h
    obtain ⟨w, e65, h⟩ := gb h
    refine gw_putF hx hb hT hown hK hI (ci := 7) rfl i_7 t_7 t_7_ok n_7 1 (by decide) wd_787 (fun _ h9 => h9) rfl hin rfl (ty := .long) (by decide +kernel) rfl rfl e65 d_M_init_198 (fun H locs hI => ?_)
    exact W.widen (show 21 ≤ 21 by omega) (show 8938 ≤ 8938 by omega) (hret _ _ (Option.some.inj h).symm _ _ _ _ d_M_init_201 hI)
  refine lv_if_ge (tgt := 183) hx hb d_M_init_176 (by decide) (fun c66 => ?_) (fun c66 => ?_)
  · have c66 := (lg_cmp_ge _ _).mp c66
    have h := git c66 h
    refine lv_lload_n hx hb d_M_init_183 rfl (lv_at hl 1 rfl) ?_
    refine lv_ldc2 (v := 1000) hx hb hown (hT _ wd_785 args) d_M_init_184 ?_
    refine W.lcmp hx hb d_M_init_187 ?_
    refine lv_if_le (tgt := 197) hx hb d_M_init_188 (by decide) (fun c67 => ?_) (fun c67 => ?_)
    · have c67 := (lg_cmp_le _ _).mp c67
      have h := git c67 h
      refine lv_lload_n hx hb d_M_init_197 rfl (lv_at hl 1 rfl) ?_
      exact hK198 _ w H locs ls h hI (lv_sub hl [] rfl)
    · have c67 := mt (lg_cmp_le _ _).mpr c67
      have h := gie c67 h
      refine lv_ldc2 (v := 1000) hx hb hown (hT _ wd_785 args) d_M_init_191 ?_
      refine lv_goto (tgt := 198) hx hb d_M_init_194 (by decide) ?_
      exact hK198 _ w H locs ls h hI (lv_sub hl [] rfl)
  · have c66 := mt (lg_cmp_ge _ _).mpr c66
    have h := gie c66 h
    refine lv_lconst (v := 0) hx hb d_M_init_179 (by decide) ?_
    refine lv_goto (tgt := 198) hx hb d_M_init_180 (by decide) ?_
    exact hK198 _ w H locs ls h hI (lv_sub hl [] rfl)

abbrev b_M_common : ByteArray := prog_9_method_34_code
def y_M_common : MethodName := ⟨"BodySolidsModel", "common", "(J)I"⟩
theorem d_M_common_0 : decode b_M_common 0 = .ok (.lload_n 0, 1) := by decide +kernel
theorem d_M_common_1 : decode b_M_common 1 = .ok (.lconst 0, 1) := by decide +kernel
theorem d_M_common_2 : decode b_M_common 2 = .ok (.lcmp, 1) := by decide +kernel
theorem d_M_common_3 : decode b_M_common 3 = .ok (.ifCond .ge 7, 3) := by decide +kernel
theorem d_M_common_6 : decode b_M_common 6 = .ok (.iconst 2, 1) := by decide +kernel
theorem d_M_common_7 : decode b_M_common 7 = .ok (.goto 14, 3) := by decide +kernel
theorem d_M_common_10 : decode b_M_common 10 = .ok (.lload_n 0, 1) := by decide +kernel
theorem d_M_common_11 : decode b_M_common 11 = .ok (.lconst 0, 1) := by decide +kernel
theorem d_M_common_12 : decode b_M_common 12 = .ok (.lcmp, 1) := by decide +kernel
theorem d_M_common_13 : decode b_M_common 13 = .ok (.ifCond .ne 7, 3) := by decide +kernel
theorem d_M_common_16 : decode b_M_common 16 = .ok (.iconst 1, 1) := by decide +kernel
theorem d_M_common_17 : decode b_M_common 17 = .ok (.goto 4, 3) := by decide +kernel
theorem d_M_common_20 : decode b_M_common 20 = .ok (.iconst 0, 1) := by decide +kernel
theorem d_M_common_21 : decode b_M_common 21 = .ok (.ireturn, 1) := by decide +kernel
abbrev rm_M_common : Room := { frames := 0, cells := 0, slots := 0, locals := 0 }
theorem ce_M_common : gCe y_M_common (.code y_M_common b_M_common 2 (some .int)) 2 1 true := gCe.code wd_1026 wd_57 wd_1025 (by decide) (by decide +kernel)
def f_M_common (g0 : Nat) (p0 : Int64) (w : gW) : gX Int32 := gjoin (fun K21 => if 0 ≤ p0 then (if p0 = 0 then (K21 1 w) else (K21 0 w)) else (K21 2 w)) (fun (y1 : Int32) (w : gW) => some (.inr y1, w))
set_option maxHeartbeats 4000000 in
set_option maxRecDepth 100000 in
theorem m_M_common (l : Launch) (D : gD) (g0 : Nat) (p0 : Int64) (w : gW) (r : (String ⊕ Int32) × gW) (h : f_M_common g0 p0 w = some r) : gMet l y_M_common (.code y_M_common b_M_common 2 (some .int)) rm_M_common D g0 [.long p0] w (goI r) := by
  refine gw_ofI (by decide +kernel) (Nat.le_of_ble_eq_true rfl) ?_
  intro p e s m below meth c ls args A Q hx hb hml hown hlocks hin hnt hT hK hZ hA hret hexc hI hl
  obtain ⟨H, hH⟩ : ∃ H, H = s.heap := ⟨_, rfl⟩
  rw [← hH] at hI ⊢
  obtain ⟨locs, hlocs⟩ : ∃ z : List Loc, z = [] := ⟨_, rfl⟩
  rw [← hlocs] at hI ⊢
  have hl : lv_has ls 2 [(0, .long p0)] := hl
  unfold f_M_common at h
  refine lv_lload_n hx hb d_M_common_0 rfl (lv_at hl 0 rfl) ?_
  refine lv_lconst (v := 0) hx hb d_M_common_1 (by decide) ?_
  refine W.lcmp hx hb d_M_common_2 ?_
  obtain ⟨K21, eK21, h⟩ := gj h
  have hK21 : ∀ (y1 : Int32) (w : gW) (H : Heap) (locs : List Loc) (ls : Array Slot), K21 y1 w = some r → gI D s A w H locs → lv_has ls 2 [] → W p l e rm_M_common s m args below meth c H locs 0 0 Q (F0 m 21 ls [.int y1]) := by
    intro y1 w H locs ls h hI hl
    have h := gk2 eK21 h
    exact W.widen (show 0 ≤ 0 by omega) (show 0 ≤ 0 by omega) (hret _ _ (Option.some.inj h).symm _ _ _ _ d_M_common_21 hI)
  refine lv_if_ge (tgt := 10) hx hb d_M_common_3 (by decide) (fun c2 => ?_) (fun c2 => ?_)
  · have c2 := (lg_cmp_ge _ _).mp c2
    have h := git c2 h
    refine lv_lload_n hx hb d_M_common_10 rfl (lv_at hl 0 rfl) ?_
    refine lv_lconst (v := 0) hx hb d_M_common_11 (by decide) ?_
    refine W.lcmp hx hb d_M_common_12 ?_
    refine lv_if_ne (tgt := 20) hx hb d_M_common_13 (by decide) (fun c3 => ?_) (fun c3 => ?_)
    · have c3 := mt (lg_cmp_eq _ _).mpr c3
      have h := gie c3 h
      refine lv_iconst (v := 0) hx hb d_M_common_20 (by decide) ?_
      exact hK21 _ w H locs ls h hI (lv_sub hl [] rfl)
    · have c3 := (lg_cmp_eq _ _).mp c3
      have h := git c3 h
      refine lv_iconst (v := 1) hx hb d_M_common_16 (by decide) ?_
      refine lv_goto (tgt := 21) hx hb d_M_common_17 (by decide) ?_
      exact hK21 _ w H locs ls h hI (lv_sub hl [] rfl)
  · have c2 := mt (lg_cmp_ge _ _).mpr c2
    have h := gie c2 h
    refine lv_iconst (v := 2) hx hb d_M_common_6 (by decide) ?_
    refine lv_goto (tgt := 21) hx hb d_M_common_7 (by decide) ?_
    exact hK21 _ w H locs ls h hI (lv_sub hl [] rfl)
