abbrev b_B_sectionAnswer : ByteArray := prog_1_method_38_code
def y_B_sectionAnswer : MethodName := ⟨"BodySolids", "sectionAnswer", "(III)J"⟩
theorem d_B_sectionAnswer_0 : decode b_B_sectionAnswer 0 = .ok (.iload_n 3, 1) := by decide +kernel
theorem d_B_sectionAnswer_1 : decode b_B_sectionAnswer 1 = .ok (.tableswitch 83 0 4 #[35, 38, 41, 55, 69], 35) := by decide +kernel
theorem d_B_sectionAnswer_36 : decode b_B_sectionAnswer 36 = .ok (.iload_n 1, 1) := by decide +kernel
theorem d_B_sectionAnswer_37 : decode b_B_sectionAnswer 37 = .ok (.i2l, 1) := by decide +kernel
theorem d_B_sectionAnswer_38 : decode b_B_sectionAnswer 38 = .ok (.lreturn, 1) := by decide +kernel
theorem d_B_sectionAnswer_39 : decode b_B_sectionAnswer 39 = .ok (.iload_n 2, 1) := by decide +kernel
theorem d_B_sectionAnswer_40 : decode b_B_sectionAnswer 40 = .ok (.i2l, 1) := by decide +kernel
theorem d_B_sectionAnswer_41 : decode b_B_sectionAnswer 41 = .ok (.lreturn, 1) := by decide +kernel
theorem d_B_sectionAnswer_42 : decode b_B_sectionAnswer 42 = .ok (.aload_n 0, 1) := by decide +kernel
theorem d_B_sectionAnswer_43 : decode b_B_sectionAnswer 43 = .ok (.getfield 61, 3) := by decide +kernel
theorem d_B_sectionAnswer_46 : decode b_B_sectionAnswer 46 = .ok (.getfield 227, 3) := by decide +kernel
theorem d_B_sectionAnswer_49 : decode b_B_sectionAnswer 49 = .ok (.iload_n 2, 1) := by decide +kernel
theorem d_B_sectionAnswer_50 : decode b_B_sectionAnswer 50 = .ok (.aaload, 1) := by decide +kernel
theorem d_B_sectionAnswer_51 : decode b_B_sectionAnswer 51 = .ok (.iconst 0, 1) := by decide +kernel
theorem d_B_sectionAnswer_52 : decode b_B_sectionAnswer 52 = .ok (.invokevirtual 230, 3) := by decide +kernel
theorem d_B_sectionAnswer_55 : decode b_B_sectionAnswer 55 = .ok (.lreturn, 1) := by decide +kernel
theorem d_B_sectionAnswer_56 : decode b_B_sectionAnswer 56 = .ok (.aload_n 0, 1) := by decide +kernel
theorem d_B_sectionAnswer_57 : decode b_B_sectionAnswer 57 = .ok (.getfield 61, 3) := by decide +kernel
theorem d_B_sectionAnswer_60 : decode b_B_sectionAnswer 60 = .ok (.getfield 227, 3) := by decide +kernel
theorem d_B_sectionAnswer_63 : decode b_B_sectionAnswer 63 = .ok (.iload_n 2, 1) := by decide +kernel
theorem d_B_sectionAnswer_64 : decode b_B_sectionAnswer 64 = .ok (.aaload, 1) := by decide +kernel
theorem d_B_sectionAnswer_65 : decode b_B_sectionAnswer 65 = .ok (.iconst 1, 1) := by decide +kernel
theorem d_B_sectionAnswer_66 : decode b_B_sectionAnswer 66 = .ok (.invokevirtual 230, 3) := by decide +kernel
theorem d_B_sectionAnswer_69 : decode b_B_sectionAnswer 69 = .ok (.lreturn, 1) := by decide +kernel
theorem d_B_sectionAnswer_70 : decode b_B_sectionAnswer 70 = .ok (.aload_n 0, 1) := by decide +kernel
theorem d_B_sectionAnswer_71 : decode b_B_sectionAnswer 71 = .ok (.getfield 61, 3) := by decide +kernel
theorem d_B_sectionAnswer_74 : decode b_B_sectionAnswer 74 = .ok (.getfield 227, 3) := by decide +kernel
theorem d_B_sectionAnswer_77 : decode b_B_sectionAnswer 77 = .ok (.iload_n 2, 1) := by decide +kernel
theorem d_B_sectionAnswer_78 : decode b_B_sectionAnswer 78 = .ok (.aaload, 1) := by decide +kernel
theorem d_B_sectionAnswer_79 : decode b_B_sectionAnswer 79 = .ok (.iconst 3, 1) := by decide +kernel
theorem d_B_sectionAnswer_80 : decode b_B_sectionAnswer 80 = .ok (.invokevirtual 230, 3) := by decide +kernel
theorem d_B_sectionAnswer_83 : decode b_B_sectionAnswer 83 = .ok (.lreturn, 1) := by decide +kernel
theorem d_B_sectionAnswer_84 : decode b_B_sectionAnswer 84 = .ok (.aload_n 0, 1) := by decide +kernel
theorem d_B_sectionAnswer_85 : decode b_B_sectionAnswer 85 = .ok (.getfield 61, 3) := by decide +kernel
theorem d_B_sectionAnswer_88 : decode b_B_sectionAnswer 88 = .ok (.getfield 227, 3) := by decide +kernel
theorem d_B_sectionAnswer_91 : decode b_B_sectionAnswer 91 = .ok (.iload_n 2, 1) := by decide +kernel
theorem d_B_sectionAnswer_92 : decode b_B_sectionAnswer 92 = .ok (.aaload, 1) := by decide +kernel
theorem d_B_sectionAnswer_93 : decode b_B_sectionAnswer 93 = .ok (.iconst 4, 1) := by decide +kernel
theorem d_B_sectionAnswer_94 : decode b_B_sectionAnswer 94 = .ok (.invokevirtual 230, 3) := by decide +kernel
theorem d_B_sectionAnswer_97 : decode b_B_sectionAnswer 97 = .ok (.lreturn, 1) := by decide +kernel
abbrev rm_B_sectionAnswer : Room := { frames := 1, cells := 0, slots := 0, locals := 21 }
theorem ce_B_sectionAnswer : gCe y_B_sectionAnswer (.code y_B_sectionAnswer b_B_sectionAnswer 4 (some .long)) 4 3 false := gCe.code wd_770 wd_49 wd_769 (by decide) (by decide +kernel)
def f_B_sectionAnswer (g0 : gG) (a0 : Nat) (p1 : Int32) (p2 : Int32) (p3 : Int32) (w : gW) : gX Int64 := if p3 = 0 then (some (.inr (p1.toInt64), w)) else (if p3 = 1 then (some (.inr (p2.toInt64), w)) else (if p3 = 2 then ((gfA w a0 0 8).bind fun v4 => (gfA w v4 2 0).bind fun v6 => (gaA w v6 p2).bind fun v8 => (gck w v8 3).bind fun _ => gbind (f_So_limit g0 v8 0 w) fun v14 w => some (.inr v14, w)) else (if p3 = 3 then ((gfA w a0 0 8).bind fun v16 => (gfA w v16 2 0).bind fun v18 => (gaA w v18 p2).bind fun v20 => (gck w v20 3).bind fun _ => gbind (f_So_limit g0 v20 1 w) fun v26 w => some (.inr v26, w)) else (if p3 = 4 then ((gfA w a0 0 8).bind fun v28 => (gfA w v28 2 0).bind fun v30 => (gaA w v30 p2).bind fun v32 => (gck w v32 3).bind fun _ => gbind (f_So_limit g0 v32 3 w) fun v38 w => some (.inr v38, w)) else ((gfA w a0 0 8).bind fun v39 => (gfA w v39 2 0).bind fun v41 => (gaA w v41 p2).bind fun v43 => (gck w v43 3).bind fun _ => gbind (f_So_limit g0 v43 4 w) fun v49 w => some (.inr v49, w))))))
set_option maxHeartbeats 4000000 in
set_option maxRecDepth 100000 in
theorem m_B_sectionAnswer (l : Launch) (hst : l.stackTraces = false) (D : gD) (g0 : gG) (a0 : Nat) (p1 : Int32) (p2 : Int32) (p3 : Int32) (w : gW) (r : (String ⊕ Int64) × gW) (h : f_B_sectionAnswer g0 a0 p1 p2 p3 w = some r) : gMet l y_B_sectionAnswer (.code y_B_sectionAnswer b_B_sectionAnswer 4 (some .long)) rm_B_sectionAnswer D g0 [.ref a0, .int p1, .int p2, .int p3] w (goJ r) := by
  refine gw_ofJ (by decide +kernel) (Nat.le_of_ble_eq_true rfl) ?_
  intro p e s m below meth c ls args A Q hx hb hml hown hlocks hin hnt hT hK hZ hA hret hexc hthr hI hl
  obtain ⟨H, hH⟩ : ∃ H, H = s.heap := ⟨_, rfl⟩
  rw [← hH] at hI ⊢
  obtain ⟨locs, hlocs⟩ : ∃ z : List Loc, z = [] := ⟨_, rfl⟩
  rw [← hlocs] at hI ⊢
  have hl : lv_has ls 4 [(0, .ref a0), (1, .int p1), (2, .int p2), (3, .int p3)] := hl
  unfold f_B_sectionAnswer at h
  refine lv_iload_n hx hb d_B_sectionAnswer_0 rfl (lv_at hl 3 rfl) ?_
  rcases Decidable.em (p3 = 0) with c1 | c1
  · have h := git c1 h
    refine lv_tableIn (off := 35) (tgt := 36) hx hb d_B_sectionAnswer_1 (by rw [c1]; decide) (by rw [c1]; decide) (by rw [c1]; decide) (by decide) ?_
    refine lv_iload_n hx hb d_B_sectionAnswer_36 rfl (lv_at hl 1 rfl) ?_
    refine lv_i2l (v := p1.toInt64) hx hb d_B_sectionAnswer_37 rfl ?_
    exact W.widen (show 0 ≤ 0 by omega) (show 0 ≤ 0 by omega) (hret _ _ (Option.some.inj h).symm _ _ _ _ d_B_sectionAnswer_38 hI)
  have h := gie c1 h
  rcases Decidable.em (p3 = 1) with c2 | c2
  · have h := git c2 h
    refine lv_tableIn (off := 38) (tgt := 39) hx hb d_B_sectionAnswer_1 (by rw [c2]; decide) (by rw [c2]; decide) (by rw [c2]; decide) (by decide) ?_
    refine lv_iload_n hx hb d_B_sectionAnswer_39 rfl (lv_at hl 2 rfl) ?_
    refine lv_i2l (v := p2.toInt64) hx hb d_B_sectionAnswer_40 rfl ?_
    exact W.widen (show 0 ≤ 0 by omega) (show 0 ≤ 0 by omega) (hret _ _ (Option.some.inj h).symm _ _ _ _ d_B_sectionAnswer_41 hI)
  have h := gie c2 h
  rcases Decidable.em (p3 = 2) with c3 | c3
  · have h := git c3 h
    refine lv_tableIn (off := 41) (tgt := 42) hx hb d_B_sectionAnswer_1 (by rw [c3]; decide) (by rw [c3]; decide) (by rw [c3]; decide) (by decide) ?_
    refine lv_aload_n hx hb d_B_sectionAnswer_42 rfl (lv_at hl 0 rfl) ?_
    obtain ⟨v4, e5, h⟩ := gb h
    refine gw_getA hx hb hT hown hK hI (ci := 0) rfl i_0 8 (by decide) wd_197 (fun _ h9 => h9) e5 d_B_sectionAnswer_43 ?_
    obtain ⟨v6, e7, h⟩ := gb h
    refine gw_getA hx hb hT hown hK hI (ci := 2) rfl i_2 0 (by decide) wd_181 (fun _ h9 => h9) e7 d_B_sectionAnswer_46 ?_
    refine lv_iload_n hx hb d_B_sectionAnswer_49 rfl (lv_at hl 2 rfl) ?_
    obtain ⟨v8, e9, h⟩ := gb h
    refine gw_aldA hx hb hK hI e9 d_B_sectionAnswer_50 ?_
    refine lv_iconst (v := 0) hx hb d_B_sectionAnswer_51 (by decide) ?_
    obtain ⟨q12, e13, h⟩ := gb h
    obtain ⟨u10, e11⟩ := gsome h
    refine gw_callJ e11 h (gw_runV (As := [.int 0]) (rest := []) hx hb hml hown hT hK hZ hA hI (ci := 3) rfl e13 (m_So_limit l hst D g0 v8 0 w u10 e11) ce_So_limit wd_752 wd_754 ⟨by decide, by decide⟩ rfl rfl hl.1 rfl (lv_room (Nat.le_of_ble_eq_true rfl)) d_B_sectionAnswer_52 ⟨(show 0 + 0 ≤ 0 by omega), (show 0 + 0 ≤ 0 by omega)⟩) hI hA hexc (show 0 + 0 ≤ 0 by omega) (show 0 + 0 ≤ 0 by omega) (fun v14 w H locs h hI => ?_)
    exact W.widen (show 0 ≤ 0 by omega) (show 0 ≤ 0 by omega) (hret _ _ (Option.some.inj h).symm _ _ _ _ d_B_sectionAnswer_55 hI)
  have h := gie c3 h
  rcases Decidable.em (p3 = 3) with c15 | c15
  · have h := git c15 h
    refine lv_tableIn (off := 55) (tgt := 56) hx hb d_B_sectionAnswer_1 (by rw [c15]; decide) (by rw [c15]; decide) (by rw [c15]; decide) (by decide) ?_
    refine lv_aload_n hx hb d_B_sectionAnswer_56 rfl (lv_at hl 0 rfl) ?_
    obtain ⟨v16, e17, h⟩ := gb h
    refine gw_getA hx hb hT hown hK hI (ci := 0) rfl i_0 8 (by decide) wd_197 (fun _ h9 => h9) e17 d_B_sectionAnswer_57 ?_
    obtain ⟨v18, e19, h⟩ := gb h
    refine gw_getA hx hb hT hown hK hI (ci := 2) rfl i_2 0 (by decide) wd_181 (fun _ h9 => h9) e19 d_B_sectionAnswer_60 ?_
    refine lv_iload_n hx hb d_B_sectionAnswer_63 rfl (lv_at hl 2 rfl) ?_
    obtain ⟨v20, e21, h⟩ := gb h
    refine gw_aldA hx hb hK hI e21 d_B_sectionAnswer_64 ?_
    refine lv_iconst (v := 1) hx hb d_B_sectionAnswer_65 (by decide) ?_
    obtain ⟨q24, e25, h⟩ := gb h
    obtain ⟨u22, e23⟩ := gsome h
    refine gw_callJ e23 h (gw_runV (As := [.int 1]) (rest := []) hx hb hml hown hT hK hZ hA hI (ci := 3) rfl e25 (m_So_limit l hst D g0 v20 1 w u22 e23) ce_So_limit wd_752 wd_754 ⟨by decide, by decide⟩ rfl rfl hl.1 rfl (lv_room (Nat.le_of_ble_eq_true rfl)) d_B_sectionAnswer_66 ⟨(show 0 + 0 ≤ 0 by omega), (show 0 + 0 ≤ 0 by omega)⟩) hI hA hexc (show 0 + 0 ≤ 0 by omega) (show 0 + 0 ≤ 0 by omega) (fun v26 w H locs h hI => ?_)
    exact W.widen (show 0 ≤ 0 by omega) (show 0 ≤ 0 by omega) (hret _ _ (Option.some.inj h).symm _ _ _ _ d_B_sectionAnswer_69 hI)
  have h := gie c15 h
  rcases Decidable.em (p3 = 4) with c27 | c27
  · have h := git c27 h
    refine lv_tableIn (off := 69) (tgt := 70) hx hb d_B_sectionAnswer_1 (by rw [c27]; decide) (by rw [c27]; decide) (by rw [c27]; decide) (by decide) ?_
    refine lv_aload_n hx hb d_B_sectionAnswer_70 rfl (lv_at hl 0 rfl) ?_
    obtain ⟨v28, e29, h⟩ := gb h
    refine gw_getA hx hb hT hown hK hI (ci := 0) rfl i_0 8 (by decide) wd_197 (fun _ h9 => h9) e29 d_B_sectionAnswer_71 ?_
    obtain ⟨v30, e31, h⟩ := gb h
    refine gw_getA hx hb hT hown hK hI (ci := 2) rfl i_2 0 (by decide) wd_181 (fun _ h9 => h9) e31 d_B_sectionAnswer_74 ?_
    refine lv_iload_n hx hb d_B_sectionAnswer_77 rfl (lv_at hl 2 rfl) ?_
    obtain ⟨v32, e33, h⟩ := gb h
    refine gw_aldA hx hb hK hI e33 d_B_sectionAnswer_78 ?_
    refine lv_iconst (v := 3) hx hb d_B_sectionAnswer_79 (by decide) ?_
    obtain ⟨q36, e37, h⟩ := gb h
    obtain ⟨u34, e35⟩ := gsome h
    refine gw_callJ e35 h (gw_runV (As := [.int 3]) (rest := []) hx hb hml hown hT hK hZ hA hI (ci := 3) rfl e37 (m_So_limit l hst D g0 v32 3 w u34 e35) ce_So_limit wd_752 wd_754 ⟨by decide, by decide⟩ rfl rfl hl.1 rfl (lv_room (Nat.le_of_ble_eq_true rfl)) d_B_sectionAnswer_80 ⟨(show 0 + 0 ≤ 0 by omega), (show 0 + 0 ≤ 0 by omega)⟩) hI hA hexc (show 0 + 0 ≤ 0 by omega) (show 0 + 0 ≤ 0 by omega) (fun v38 w H locs h hI => ?_)
    exact W.widen (show 0 ≤ 0 by omega) (show 0 ≤ 0 by omega) (hret _ _ (Option.some.inj h).symm _ _ _ _ d_B_sectionAnswer_83 hI)
  have h := gie c27 h
  refine lv_tableOut (tgt := 84) hx hb d_B_sectionAnswer_1 (by have q0 := lv_neT c1 (show (0 : Int32).toInt = 0 by decide); have q1 := lv_neT c2 (show (1 : Int32).toInt = 1 by decide); have q2 := lv_neT c3 (show (2 : Int32).toInt = 2 by decide); have q3 := lv_neT c15 (show (3 : Int32).toInt = 3 by decide); have q4 := lv_neT c27 (show (4 : Int32).toInt = 4 by decide); omega) (by decide) ?_
  refine lv_aload_n hx hb d_B_sectionAnswer_84 rfl (lv_at hl 0 rfl) ?_
  obtain ⟨v39, e40, h⟩ := gb h
  refine gw_getA hx hb hT hown hK hI (ci := 0) rfl i_0 8 (by decide) wd_197 (fun _ h9 => h9) e40 d_B_sectionAnswer_85 ?_
  obtain ⟨v41, e42, h⟩ := gb h
  refine gw_getA hx hb hT hown hK hI (ci := 2) rfl i_2 0 (by decide) wd_181 (fun _ h9 => h9) e42 d_B_sectionAnswer_88 ?_
  refine lv_iload_n hx hb d_B_sectionAnswer_91 rfl (lv_at hl 2 rfl) ?_
  obtain ⟨v43, e44, h⟩ := gb h
  refine gw_aldA hx hb hK hI e44 d_B_sectionAnswer_92 ?_
  refine lv_iconst (v := 4) hx hb d_B_sectionAnswer_93 (by decide) ?_
  obtain ⟨q47, e48, h⟩ := gb h
  obtain ⟨u45, e46⟩ := gsome h
  refine gw_callJ e46 h (gw_runV (As := [.int 4]) (rest := []) hx hb hml hown hT hK hZ hA hI (ci := 3) rfl e48 (m_So_limit l hst D g0 v43 4 w u45 e46) ce_So_limit wd_752 wd_754 ⟨by decide, by decide⟩ rfl rfl hl.1 rfl (lv_room (Nat.le_of_ble_eq_true rfl)) d_B_sectionAnswer_94 ⟨(show 0 + 0 ≤ 0 by omega), (show 0 + 0 ≤ 0 by omega)⟩) hI hA hexc (show 0 + 0 ≤ 0 by omega) (show 0 + 0 ≤ 0 by omega) (fun v49 w H locs h hI => ?_)
  exact W.widen (show 0 ≤ 0 by omega) (show 0 ≤ 0 by omega) (hret _ _ (Option.some.inj h).symm _ _ _ _ d_B_sectionAnswer_97 hI)

abbrev b_B_section : ByteArray := prog_1_method_17_code
def y_B_section : MethodName := ⟨"BodySolids", "section", "(JII)J"⟩
theorem d_B_section_0 : decode b_B_section 0 = .ok (.iload 4, 2) := by decide +kernel
theorem d_B_section_2 : decode b_B_section 2 = .ok (.bipush 6, 2) := by decide +kernel
theorem d_B_section_4 : decode b_B_section 4 = .ok (.invokestatic 190, 3) := by decide +kernel
theorem d_B_section_7 : decode b_B_section 7 = .ok (.iconst 0, 1) := by decide +kernel
theorem d_B_section_8 : decode b_B_section 8 = .ok (.istore 5, 2) := by decide +kernel
theorem d_B_section_10 : decode b_B_section 10 = .ok (.iconst 0, 1) := by decide +kernel
theorem d_B_section_11 : decode b_B_section 11 = .ok (.istore 6, 2) := by decide +kernel
theorem d_B_section_13 : decode b_B_section 13 = .ok (.iload 6, 2) := by decide +kernel
theorem d_B_section_15 : decode b_B_section 15 = .ok (.aload_n 0, 1) := by decide +kernel
theorem d_B_section_16 : decode b_B_section 16 = .ok (.getfield 31, 3) := by decide +kernel
theorem d_B_section_19 : decode b_B_section 19 = .ok (.invokevirtual 68, 3) := by decide +kernel
theorem d_B_section_22 : decode b_B_section 22 = .ok (.if_icmp .ge 90, 3) := by decide +kernel
theorem d_B_section_25 : decode b_B_section 25 = .ok (.aload_n 0, 1) := by decide +kernel
theorem d_B_section_26 : decode b_B_section 26 = .ok (.getfield 61, 3) := by decide +kernel
theorem d_B_section_29 : decode b_B_section 29 = .ok (.aload_n 0, 1) := by decide +kernel
theorem d_B_section_30 : decode b_B_section 30 = .ok (.getfield 31, 3) := by decide +kernel
theorem d_B_section_33 : decode b_B_section 33 = .ok (.iload 6, 2) := by decide +kernel
theorem d_B_section_35 : decode b_B_section 35 = .ok (.invokevirtual 205, 3) := by decide +kernel
theorem d_B_section_38 : decode b_B_section 38 = .ok (.checkcast 164, 3) := by decide +kernel
theorem d_B_section_41 : decode b_B_section 41 = .ok (.aload_n 0, 1) := by decide +kernel
theorem d_B_section_42 : decode b_B_section 42 = .ok (.getfield 20, 3) := by decide +kernel
theorem d_B_section_45 : decode b_B_section 45 = .ok (.invokevirtual 213, 3) := by decide +kernel
theorem d_B_section_48 : decode b_B_section 48 = .ok (.iconst 0, 1) := by decide +kernel
theorem d_B_section_49 : decode b_B_section 49 = .ok (.istore 7, 2) := by decide +kernel
theorem d_B_section_51 : decode b_B_section 51 = .ok (.iload 7, 2) := by decide +kernel
theorem d_B_section_53 : decode b_B_section 53 = .ok (.aload_n 0, 1) := by decide +kernel
theorem d_B_section_54 : decode b_B_section 54 = .ok (.getfield 61, 3) := by decide +kernel
theorem d_B_section_57 : decode b_B_section 57 = .ok (.getfield 217, 3) := by decide +kernel
theorem d_B_section_60 : decode b_B_section 60 = .ok (.if_icmp .ge 46, 3) := by decide +kernel
theorem d_B_section_63 : decode b_B_section 63 = .ok (.aload_n 0, 1) := by decide +kernel
theorem d_B_section_64 : decode b_B_section 64 = .ok (.getfield 61, 3) := by decide +kernel
theorem d_B_section_67 : decode b_B_section 67 = .ok (.getfield 227, 3) := by decide +kernel
theorem d_B_section_70 : decode b_B_section 70 = .ok (.iload 7, 2) := by decide +kernel
theorem d_B_section_72 : decode b_B_section 72 = .ok (.aaload, 1) := by decide +kernel
theorem d_B_section_73 : decode b_B_section 73 = .ok (.lload_n 1, 1) := by decide +kernel
theorem d_B_section_74 : decode b_B_section 74 = .ok (.invokevirtual 234, 3) := by decide +kernel
theorem d_B_section_77 : decode b_B_section 77 = .ok (.ifCond .eq 23, 3) := by decide +kernel
theorem d_B_section_80 : decode b_B_section 80 = .ok (.iload 5, 2) := by decide +kernel
theorem d_B_section_82 : decode b_B_section 82 = .ok (.iload_n 3, 1) := by decide +kernel
theorem d_B_section_83 : decode b_B_section 83 = .ok (.if_icmp .ne 14, 3) := by decide +kernel
theorem d_B_section_86 : decode b_B_section 86 = .ok (.aload_n 0, 1) := by decide +kernel
theorem d_B_section_87 : decode b_B_section 87 = .ok (.iload 6, 2) := by decide +kernel
theorem d_B_section_89 : decode b_B_section 89 = .ok (.iload 7, 2) := by decide +kernel
theorem d_B_section_91 : decode b_B_section 91 = .ok (.iload 4, 2) := by decide +kernel
theorem d_B_section_93 : decode b_B_section 93 = .ok (.invokevirtual 238, 3) := by decide +kernel
theorem d_B_section_96 : decode b_B_section 96 = .ok (.lreturn, 1) := by decide +kernel
theorem d_B_section_97 : decode b_B_section 97 = .ok (.iinc 5 1, 3) := by decide +kernel
theorem d_B_section_100 : decode b_B_section 100 = .ok (.iinc 7 1, 3) := by decide +kernel
theorem d_B_section_103 : decode b_B_section 103 = .ok (.goto (-52), 3) := by decide +kernel
theorem d_B_section_106 : decode b_B_section 106 = .ok (.iinc 6 1, 3) := by decide +kernel
theorem d_B_section_109 : decode b_B_section 109 = .ok (.goto (-96), 3) := by decide +kernel
theorem d_B_section_112 : decode b_B_section 112 = .ok (.ldc2_w 242, 3) := by decide +kernel
theorem d_B_section_115 : decode b_B_section 115 = .ok (.lreturn, 1) := by decide +kernel
abbrev rm_B_section : Room := { frames := 8, cells := 1, slots := 6, locals := 111 }
theorem ce_B_section : gCe y_B_section (.code y_B_section b_B_section 8 (some .long)) 8 3 false := gCe.code wd_762 wd_49 wd_760 (by decide) (by decide +kernel)
def f_B_section_L51 (g0 : gG) (c0 : Nat) (c1 : Int64) (c3 : Int32) (c4 : Int32) (c6 : Int32) (K106 : Int32 → gW → gX Int64) (K86 : Int32 → Int32 → gW → gX Int64) : Nat → Int32 → Int32 → gW → gX Int64
  | 0, _, _, _ => none
  | n + 1, z5, z7, w => (gfA w c0 0 8).bind fun v38 => (gfI w v38 2 1).bind fun v40 => if v40 ≤ z7 then (K106 z5 w) else ((gfA w c0 0 8).bind fun v43 => (gfA w v43 2 0).bind fun v45 => (gaA w v45 z7).bind fun v47 => (gck w v47 3).bind fun _ => gbind (f_So_isCutAt g0 v47 c1 w) fun v53 w => gjoin (fun K100 => if v53 = 0 then (K100 z5 w) else (if z5 = c3 then (K86 c6 z7 w) else (K100 (z5 + 1) w))) (fun (x54 : Int32) (w : gW) => f_B_section_L51 g0 c0 c1 c3 c4 c6 K106 K86 n x54 (z7 + 1) w))
def f_B_section_L13 (g0 : gG) (c0 : Nat) (c1 : Int64) (c3 : Int32) (c4 : Int32) (K112 : gW → gX Int64) (K86 : Int32 → Int32 → gW → gX Int64) : Nat → Int32 → Int32 → gW → gX Int64
  | 0, _, _, _ => none
  | n + 1, z5, z6, w => (gfA w c0 0 2).bind fun v11 => (gck w v11 1).bind fun _ => gbind (f_AL_size g0 v11 w) fun v17 w => if v17 ≤ z6 then (K112 w) else ((gfA w c0 0 8).bind fun v19 => (gfA w c0 0 2).bind fun v21 => (gck w v21 1).bind fun _ => gbind (f_AL_get g0 v21 z6 w) fun v27 w => (gck w v27 5).bind fun _ => (gfJ w c0 0 0).bind fun v30 => (gck w v19 2).bind fun _ => gbind (f_La_lay g0 v19 v27 v30 w) fun v36 w => gjoin (fun K106 => f_B_section_L51 g0 c0 c1 c3 c4 z6 K106 K86 64 z5 0 w) (fun (x37 : Int32) (w : gW) => f_B_section_L13 g0 c0 c1 c3 c4 K112 K86 n x37 (z6 + 1) w))
def f_B_section (g0 : gG) (a0 : Nat) (p1 : Int64) (p2 : Int32) (p3 : Int32) (w : gW) : gX Int64 := gbind (f_B_needIndex g0 p3 6 w) fun v3 w => gjoin (fun K112 => gjoin (fun K86 => f_B_section_L13 g0 a0 p1 p2 p3 K112 K86 64 0 0 w) (fun (x4 : Int32) (x5 : Int32) (w : gW) => (gck w a0 0).bind fun _ => gbind (f_B_sectionAnswer g0 a0 x4 x5 p3 w) fun v10 w => some (.inr v10, w))) (fun (w : gW) => some (.inr (-1), w))
set_option maxHeartbeats 4000000 in
set_option maxRecDepth 100000 in
theorem m_B_section (l : Launch) (hst : l.stackTraces = false) (D : gD) (g0 : gG) (a0 : Nat) (p1 : Int64) (p2 : Int32) (p3 : Int32) (w : gW) (r : (String ⊕ Int64) × gW) (h : f_B_section g0 a0 p1 p2 p3 w = some r) : gMet l y_B_section (.code y_B_section b_B_section 8 (some .long)) rm_B_section D g0 [.ref a0, .long p1, .int p2, .int p3] w (goJ r) := by
  refine gw_ofJ (by decide +kernel) (Nat.le_of_ble_eq_true rfl) ?_
  intro p e s m below meth c ls args A Q hx hb hml hown hlocks hin hnt hT hK hZ hA hret hexc hthr hI hl
  obtain ⟨H, hH⟩ : ∃ H, H = s.heap := ⟨_, rfl⟩
  rw [← hH] at hI ⊢
  obtain ⟨locs, hlocs⟩ : ∃ z : List Loc, z = [] := ⟨_, rfl⟩
  rw [← hlocs] at hI ⊢
  have hl : lv_has ls 8 [(0, .ref a0), (1, .long p1), (3, .int p2), (4, .int p3)] := hl
  unfold f_B_section at h
  refine lv_iload hx hb d_B_section_0 (lv_at hl 3 rfl) ?_
  refine lv_bipush (v := 6) hx hb d_B_section_2 (by decide) ?_
  obtain ⟨u1, e2⟩ := gsome h
  refine gw_callV e2 h (gw_runS (As := [.int p3, .int 6]) (rest := []) hx hb hml hown hT hK hZ hA hI (m_B_needIndex l hst D g0 p3 6 w u1 e2) ce_B_needIndex wd_440 ⟨by decide, by decide⟩ rfl rfl hl.1 rfl (lv_room (Nat.le_of_ble_eq_true rfl)) d_B_section_4 ⟨(show 0 + 1 ≤ 1 by omega), (show 0 + 6 ≤ 6 by omega)⟩) hI hA hexc (show 0 + 1 ≤ 1 by omega) (show 0 + 6 ≤ 6 by omega) (fun v3 w H locs h hI => ?_)
  refine W.widen (k := 1) (n := 6) (show 0 + 1 ≤ 1 by omega) (show 0 + 6 ≤ 6 by omega) ?_
  refine lv_iconst (v := 0) hx hb d_B_section_7 (by decide) ?_
  refine lv_istore (lv' := [(5, .int 0), (0, .ref a0), (1, .long p1), (3, .int p2), (4, .int p3)]) hx hb d_B_section_8 hl (by decide) rfl (fun ls hl => ?_)
  refine lv_iconst (v := 0) hx hb d_B_section_10 (by decide) ?_
  refine lv_istore (lv' := [(6, .int 0), (5, .int 0), (0, .ref a0), (1, .long p1), (3, .int p2), (4, .int p3)]) hx hb d_B_section_11 hl (by decide) rfl (fun ls hl => ?_)
  obtain ⟨K112, eK112, h⟩ := gj h
  have hK112 : ∀ (w : gW) (H : Heap) (locs : List Loc) (ls : Array Slot), K112 w = some r → gI D s A w H locs → lv_has ls 8 [] → W p l e rm_B_section s m args below meth c H locs 1 6 Q (F0 m 112 ls []) := by
    intro w H locs ls h hI hl
    have h := gk1 eK112 h
    refine lv_ldc2 (v := (-1)) hx hb hown (hT _ wd_771 args) d_B_section_112 ?_
    exact W.widen (show 1 ≤ 1 by omega) (show 6 ≤ 6 by omega) (hret _ _ (Option.some.inj h).symm _ _ _ _ d_B_section_115 hI)
  obtain ⟨K86, eK86, h⟩ := gj h
  have hK86 : ∀ (x4 : Int32) (x5 : Int32) (w : gW) (H : Heap) (locs : List Loc) (ls : Array Slot), K86 x4 x5 w = some r → gI D s A w H locs → lv_has ls 8 [(0, .ref a0), (4, .int p3), (6, .int x4), (7, .int x5)] → W p l e rm_B_section s m args below meth c H locs 1 6 Q (F0 m 86 ls []) := by
    intro x4 x5 w H locs ls h hI hl
    have h := gk3 eK86 h
    refine lv_aload_n hx hb d_B_section_86 rfl (lv_at hl 0 rfl) ?_
    refine lv_iload hx hb d_B_section_87 (lv_at hl 2 rfl) ?_
    refine lv_iload hx hb d_B_section_89 (lv_at hl 3 rfl) ?_
    refine lv_iload hx hb d_B_section_91 (lv_at hl 1 rfl) ?_
    obtain ⟨q8, e9, h⟩ := gb h
    obtain ⟨u6, e7⟩ := gsome h
    refine gw_callJ e7 h (gw_runV (As := [.int x4, .int x5, .int p3]) (rest := []) hx hb hml hown hT hK hZ hA hI (ci := 0) rfl e9 (m_B_sectionAnswer l hst D g0 a0 x4 x5 p3 w u6 e7) ce_B_sectionAnswer wd_767 wd_16 ⟨by decide, by decide⟩ rfl rfl hl.1 rfl (lv_room (Nat.le_of_ble_eq_true rfl)) d_B_section_93 ⟨(show 1 + 0 ≤ 1 by omega), (show 6 + 0 ≤ 6 by omega)⟩) hI hA hexc (show 1 + 0 ≤ 1 by omega) (show 6 + 0 ≤ 6 by omega) (fun v10 w H locs h hI => ?_)
    exact W.widen (show 1 ≤ 1 by omega) (show 6 ≤ 6 by omega) (hret _ _ (Option.some.inj h).symm _ _ _ _ d_B_section_96 hI)
  have hL13 : ∀ (n : Nat), ∀ (z11 : Int32) (z12 : Int32) (w : gW) (H : Heap) (locs : List Loc) (ls : Array Slot), f_B_section_L13 g0 a0 p1 p2 p3 K112 K86 n z11 z12 w = some r → gI D s A w H locs → lv_has ls 8 [(0, .ref a0), (1, .long p1), (3, .int p2), (4, .int p3), (5, .int z11), (6, .int z12)] → W p l e rm_B_section s m args below meth c H locs 1 6 Q (F0 m 13 ls []) := by
    intro n
    induction n with
    | zero => intro z11 z12 w H locs ls h hI hl; exact absurd h (by simp [f_B_section_L13])
    | succ n ih =>
      intro z11 z12 w H locs ls h hI hl
      rw [f_B_section_L13] at h
      refine lv_iload hx hb d_B_section_13 (lv_at hl 5 rfl) ?_
      refine lv_aload_n hx hb d_B_section_15 rfl (lv_at hl 0 rfl) ?_
      obtain ⟨v13, e14, h⟩ := gb h
      refine gw_getA hx hb hT hown hK hI (ci := 0) rfl i_0 2 (by decide) wd_191 (fun _ h9 => h9) e14 d_B_section_16 ?_
      obtain ⟨q17, e18, h⟩ := gb h
      obtain ⟨u15, e16⟩ := gsome h
      refine gw_callI e16 h (gw_runV (As := []) (rest := [.int z12]) hx hb hml hown hT hK hZ hA hI (ci := 1) rfl e18 (m_AL_size l hst D g0 v13 w u15 e16) ce_AL_size wd_224 wd_226 ⟨by decide, by decide⟩ rfl rfl hl.1 rfl (lv_room (Nat.le_of_ble_eq_true rfl)) d_B_section_19 ⟨(show 1 + 0 ≤ 1 by omega), (show 6 + 0 ≤ 6 by omega)⟩) hI hA hexc (show 1 + 0 ≤ 1 by omega) (show 6 + 0 ≤ 6 by omega) (fun v19 w H locs h hI => ?_)
      refine lv_icmp_ge (tgt := 112) hx hb d_B_section_22 (by decide) (fun c20 => ?_) (fun c20 => ?_)
      · skip
        have h := git c20 h
        exact hK112 w H locs ls h hI (lv_sub hl [] rfl)
      · skip
        have h := gie c20 h
        refine lv_aload_n hx hb d_B_section_25 rfl (lv_at hl 0 rfl) ?_
        obtain ⟨v21, e22, h⟩ := gb h
        refine gw_getA hx hb hT hown hK hI (ci := 0) rfl i_0 8 (by decide) wd_197 (fun _ h9 => h9) e22 d_B_section_26 ?_
        refine lv_aload_n hx hb d_B_section_29 rfl (lv_at hl 0 rfl) ?_
        obtain ⟨v23, e24, h⟩ := gb h
        refine gw_getA hx hb hT hown hK hI (ci := 0) rfl i_0 2 (by decide) wd_191 (fun _ h9 => h9) e24 d_B_section_30 ?_
        refine lv_iload hx hb d_B_section_33 (lv_at hl 5 rfl) ?_
        obtain ⟨q27, e28, h⟩ := gb h
        obtain ⟨u25, e26⟩ := gsome h
        refine gw_callA e26 h (gw_runV (As := [.int z12]) (rest := [.ref v21]) hx hb hml hown hT hK hZ hA hI (ci := 1) rfl e28 (m_AL_get l hst D g0 v23 z12 w u25 e26) ce_AL_get wd_321 wd_323 ⟨by decide, by decide⟩ rfl rfl hl.1 rfl (lv_room (Nat.le_of_ble_eq_true rfl)) d_B_section_35 ⟨(show 1 + 0 ≤ 1 by omega), (show 6 + 0 ≤ 6 by omega)⟩) hI hA hexc (show 1 + 0 ≤ 1 by omega) (show 6 + 0 ≤ 6 by omega) (fun v29 w H locs h hI => ?_)
        obtain ⟨q31, e30, h⟩ := gb h
        refine gw_cast hx hb hT hown hK hI wd_335 (ci := 5) rfl wd_1123 e30 d_B_section_38 ?_
        refine lv_aload_n hx hb d_B_section_41 rfl (lv_at hl 0 rfl) ?_
        obtain ⟨v32, e33, h⟩ := gb h
        refine gw_getJ hx hb hT hown hK hI (ci := 0) rfl i_0 0 (by decide) wd_189 (fun _ h9 => h9) e33 d_B_section_42 ?_
        obtain ⟨q36, e37, h⟩ := gb h
        obtain ⟨u34, e35⟩ := gsome h
        refine gw_callV e35 h (gw_runV (As := [.ref v29, .long v32]) (rest := []) hx hb hml hown hT hK hZ hA hI (ci := 2) rfl e37 (m_La_lay l hst D g0 v21 v29 v32 w u34 e35) ce_La_lay wd_336 wd_338 ⟨by decide, by decide⟩ rfl rfl hl.1 rfl (lv_room (Nat.le_of_ble_eq_true rfl)) d_B_section_45 ⟨(show 1 + 0 ≤ 1 by omega), (show 6 + 0 ≤ 6 by omega)⟩) hI hA hexc (show 1 + 0 ≤ 1 by omega) (show 6 + 0 ≤ 6 by omega) (fun v38 w H locs h hI => ?_)
        refine lv_iconst (v := 0) hx hb d_B_section_48 (by decide) ?_
        refine lv_istore (lv' := [(7, .int 0), (0, .ref a0), (1, .long p1), (3, .int p2), (4, .int p3), (5, .int z11), (6, .int z12)]) hx hb d_B_section_49 hl (by decide) rfl (fun ls hl => ?_)
        obtain ⟨K106, eK106, h⟩ := gj h
        have hK106 : ∀ (x39 : Int32) (w : gW) (H : Heap) (locs : List Loc) (ls : Array Slot), K106 x39 w = some r → gI D s A w H locs → lv_has ls 8 [(0, .ref a0), (1, .long p1), (3, .int p2), (4, .int p3), (5, .int x39), (6, .int z12)] → W p l e rm_B_section s m args below meth c H locs 1 6 Q (F0 m 106 ls []) := by
          intro x39 w H locs ls h hI hl
          have h := gk2 eK106 h
          refine lv_iinc (v := z12 + 1) (lv' := [(6, .int (z12 + 1)), (0, .ref a0), (1, .long p1), (3, .int p2), (4, .int p3), (5, .int x39)]) hx hb d_B_section_106 hl (k := 5) rfl rfl (by decide) rfl (fun ls hl => ?_)
          refine lv_goto (tgt := 13) hx hb d_B_section_109 (by decide) ?_
          exact ih _ _ w H locs ls h hI (lv_sub hl [1, 2, 3, 4, 5, 0] rfl)
        have hL51 : ∀ (n : Nat), ∀ (z40 : Int32) (z41 : Int32) (w : gW) (H : Heap) (locs : List Loc) (ls : Array Slot), f_B_section_L51 g0 a0 p1 p2 p3 z12 K106 K86 n z40 z41 w = some r → gI D s A w H locs → lv_has ls 8 [(0, .ref a0), (1, .long p1), (3, .int p2), (4, .int p3), (6, .int z12), (5, .int z40), (7, .int z41)] → W p l e rm_B_section s m args below meth c H locs 1 6 Q (F0 m 51 ls []) := by
          intro n
          induction n with
          | zero => intro z40 z41 w H locs ls h hI hl; exact absurd h (by simp [f_B_section_L51])
          | succ n ih =>
            intro z40 z41 w H locs ls h hI hl
            rw [f_B_section_L51] at h
            refine lv_iload hx hb d_B_section_51 (lv_at hl 6 rfl) ?_
            refine lv_aload_n hx hb d_B_section_53 rfl (lv_at hl 0 rfl) ?_
            obtain ⟨v42, e43, h⟩ := gb h
            refine gw_getA hx hb hT hown hK hI (ci := 0) rfl i_0 8 (by decide) wd_197 (fun _ h9 => h9) e43 d_B_section_54 ?_
            obtain ⟨v44, e45, h⟩ := gb h
            refine gw_getI hx hb hT hown hK hI (ci := 2) rfl i_2 1 (by decide) wd_183 (fun _ h9 => h9) e45 d_B_section_57 ?_
            refine lv_icmp_ge (tgt := 106) hx hb d_B_section_60 (by decide) (fun c46 => ?_) (fun c46 => ?_)
            · skip
              have h := git c46 h
              exact hK106 _ w H locs ls h hI (lv_sub hl [0, 1, 2, 3, 5, 4] rfl)
            · skip
              have h := gie c46 h
              refine lv_aload_n hx hb d_B_section_63 rfl (lv_at hl 0 rfl) ?_
              obtain ⟨v47, e48, h⟩ := gb h
              refine gw_getA hx hb hT hown hK hI (ci := 0) rfl i_0 8 (by decide) wd_197 (fun _ h9 => h9) e48 d_B_section_64 ?_
              obtain ⟨v49, e50, h⟩ := gb h
              refine gw_getA hx hb hT hown hK hI (ci := 2) rfl i_2 0 (by decide) wd_181 (fun _ h9 => h9) e50 d_B_section_67 ?_
              refine lv_iload hx hb d_B_section_70 (lv_at hl 6 rfl) ?_
              obtain ⟨v51, e52, h⟩ := gb h
              refine gw_aldA hx hb hK hI e52 d_B_section_72 ?_
              refine lv_lload_n hx hb d_B_section_73 rfl (lv_at hl 1 rfl) ?_
              obtain ⟨q55, e56, h⟩ := gb h
              obtain ⟨u53, e54⟩ := gsome h
              refine gw_callI e54 h (gw_runV (As := [.long p1]) (rest := []) hx hb hml hown hT hK hZ hA hI (ci := 3) rfl e56 (m_So_isCutAt l hst D g0 v51 p1 w u53 e54) ce_So_isCutAt wd_763 wd_765 ⟨by decide, by decide⟩ rfl rfl hl.1 rfl (lv_room (Nat.le_of_ble_eq_true rfl)) d_B_section_74 ⟨(show 1 + 0 ≤ 1 by omega), (show 6 + 0 ≤ 6 by omega)⟩) hI hA hexc (show 1 + 0 ≤ 1 by omega) (show 6 + 0 ≤ 6 by omega) (fun v57 w H locs h hI => ?_)
              obtain ⟨K100, eK100, h⟩ := gj h
              have hK100 : ∀ (x58 : Int32) (w : gW) (H : Heap) (locs : List Loc) (ls : Array Slot), K100 x58 w = some r → gI D s A w H locs → lv_has ls 8 [(0, .ref a0), (1, .long p1), (3, .int p2), (4, .int p3), (5, .int x58), (6, .int z12), (7, .int z41)] → W p l e rm_B_section s m args below meth c H locs 1 6 Q (F0 m 100 ls []) := by
                intro x58 w H locs ls h hI hl
                have h := gk2 eK100 h
                refine lv_iinc (v := z41 + 1) (lv' := [(7, .int (z41 + 1)), (0, .ref a0), (1, .long p1), (3, .int p2), (4, .int p3), (5, .int x58), (6, .int z12)]) hx hb d_B_section_100 hl (k := 6) rfl rfl (by decide) rfl (fun ls hl => ?_)
                refine lv_goto (tgt := 51) hx hb d_B_section_103 (by decide) ?_
                exact ih _ _ w H locs ls h hI (lv_sub hl [1, 2, 3, 4, 6, 5, 0] rfl)
              refine lv_if_eq (tgt := 100) hx hb d_B_section_77 (by decide) (fun c59 => ?_) (fun c59 => ?_)
              · skip
                have h := git c59 h
                exact hK100 _ w H locs ls h hI (lv_sub hl [0, 1, 2, 3, 5, 4, 6] rfl)
              · skip
                have h := gie c59 h
                refine lv_iload hx hb d_B_section_80 (lv_at hl 5 rfl) ?_
                refine lv_iload_n hx hb d_B_section_82 rfl (lv_at hl 2 rfl) ?_
                refine lv_icmp_ne (tgt := 97) hx hb d_B_section_83 (by decide) (fun c60 => ?_) (fun c60 => ?_)
                · skip
                  have h := gie c60 h
                  refine lv_iinc (v := z40 + 1) (lv' := [(5, .int (z40 + 1)), (0, .ref a0), (1, .long p1), (3, .int p2), (4, .int p3), (6, .int z12), (7, .int z41)]) hx hb d_B_section_97 hl (k := 5) rfl rfl (by decide) rfl (fun ls hl => ?_)
                  exact hK100 _ w H locs ls h hI (lv_sub hl [1, 2, 3, 4, 0, 5, 6] rfl)
                · skip
                  have h := git c60 h
                  exact hK86 _ _ w H locs ls h hI (lv_sub hl [0, 3, 4, 6] rfl)
        exact hL51 64 _ _ w H locs ls h hI (lv_sub hl [1, 2, 3, 4, 6, 5, 0] rfl)
  exact hL13 64 _ _ w H locs ls h hI (lv_sub hl [2, 3, 4, 5, 1, 0] rfl)

abbrev b_Ma_abs : ByteArray := prog_17_method_61_code
def y_Ma_abs : MethodName := ⟨"java/lang/Math", "abs", "(J)J"⟩
theorem d_Ma_abs_0 : decode b_Ma_abs 0 = .ok (.lload_n 0, 1) := by decide +kernel
theorem d_Ma_abs_1 : decode b_Ma_abs 1 = .ok (.lconst 0, 1) := by decide +kernel
theorem d_Ma_abs_2 : decode b_Ma_abs 2 = .ok (.lcmp, 1) := by decide +kernel
theorem d_Ma_abs_3 : decode b_Ma_abs 3 = .ok (.ifCond .ge 8, 3) := by decide +kernel
theorem d_Ma_abs_6 : decode b_Ma_abs 6 = .ok (.lload_n 0, 1) := by decide +kernel
theorem d_Ma_abs_7 : decode b_Ma_abs 7 = .ok (.lneg, 1) := by decide +kernel
theorem d_Ma_abs_8 : decode b_Ma_abs 8 = .ok (.goto 4, 3) := by decide +kernel
theorem d_Ma_abs_11 : decode b_Ma_abs 11 = .ok (.lload_n 0, 1) := by decide +kernel
theorem d_Ma_abs_12 : decode b_Ma_abs 12 = .ok (.lreturn, 1) := by decide +kernel
abbrev rm_Ma_abs : Room := { frames := 0, cells := 0, slots := 0, locals := 0 }
theorem ce_Ma_abs : gCe y_Ma_abs (.code y_Ma_abs b_Ma_abs 2 (some .long)) 2 1 true := gCe.code wd_621 wd_50 wd_620 (by decide) (by decide +kernel)
def f_Ma_abs (g0 : gG) (p0 : Int64) (w : gW) : gX Int64 := gjoin (fun K12 => if 0 ≤ p0 then (K12 p0 w) else (K12 (-p0) w)) (fun (y1 : Int64) (w : gW) => some (.inr y1, w))
set_option maxHeartbeats 4000000 in
set_option maxRecDepth 100000 in
theorem m_Ma_abs (l : Launch) (hst : l.stackTraces = false) (D : gD) (g0 : gG) (p0 : Int64) (w : gW) (r : (String ⊕ Int64) × gW) (h : f_Ma_abs g0 p0 w = some r) : gMet l y_Ma_abs (.code y_Ma_abs b_Ma_abs 2 (some .long)) rm_Ma_abs D g0 [.long p0] w (goJ r) := by
  refine gw_ofJ (by decide +kernel) (Nat.le_of_ble_eq_true rfl) ?_
  intro p e s m below meth c ls args A Q hx hb hml hown hlocks hin hnt hT hK hZ hA hret hexc hthr hI hl
  obtain ⟨H, hH⟩ : ∃ H, H = s.heap := ⟨_, rfl⟩
  rw [← hH] at hI ⊢
  obtain ⟨locs, hlocs⟩ : ∃ z : List Loc, z = [] := ⟨_, rfl⟩
  rw [← hlocs] at hI ⊢
  have hl : lv_has ls 2 [(0, .long p0)] := hl
  unfold f_Ma_abs at h
  refine lv_lload_n hx hb d_Ma_abs_0 rfl (lv_at hl 0 rfl) ?_
  refine lv_lconst (v := 0) hx hb d_Ma_abs_1 (by decide) ?_
  refine W.lcmp hx hb d_Ma_abs_2 ?_
  obtain ⟨K12, eK12, h⟩ := gj h
  have hK12 : ∀ (y1 : Int64) (w : gW) (H : Heap) (locs : List Loc) (ls : Array Slot), K12 y1 w = some r → gI D s A w H locs → lv_has ls 2 [] → W p l e rm_Ma_abs s m args below meth c H locs 0 0 Q (F0 m 12 ls [.long y1]) := by
    intro y1 w H locs ls h hI hl
    have h := gk2 eK12 h
    exact W.widen (show 0 ≤ 0 by omega) (show 0 ≤ 0 by omega) (hret _ _ (Option.some.inj h).symm _ _ _ _ d_Ma_abs_12 hI)
  refine lv_if_ge (tgt := 11) hx hb d_Ma_abs_3 (by decide) (fun c2 => ?_) (fun c2 => ?_)
  · have c2 := (lg_cmp_ge _ _).mp c2
    have h := git c2 h
    refine lv_lload_n hx hb d_Ma_abs_11 rfl (lv_at hl 0 rfl) ?_
    exact hK12 _ w H locs ls h hI (lv_sub hl [] rfl)
  · have c2 := mt (lg_cmp_ge _ _).mpr c2
    have h := gie c2 h
    refine lv_lload_n hx hb d_Ma_abs_6 rfl (lv_at hl 0 rfl) ?_
    refine lv_lneg hx hb d_Ma_abs_7 ?_
    refine lv_goto (tgt := 12) hx hb d_Ma_abs_8 (by decide) ?_
    exact hK12 _ w H locs ls h hI (lv_sub hl [] rfl)

abbrev b_B_tube : ByteArray := prog_1_method_7_code
def y_B_tube : MethodName := ⟨"BodySolids", "tube", "(IJJJJIJ)Z"⟩
theorem d_B_tube_0 : decode b_B_tube 0 = .ok (.aload_n 0, 1) := by decide +kernel
theorem d_B_tube_1 : decode b_B_tube 1 = .ok (.iload_n 1, 1) := by decide +kernel
theorem d_B_tube_2 : decode b_B_tube 2 = .ok (.invokevirtual 79, 3) := by decide +kernel
theorem d_B_tube_5 : decode b_B_tube 5 = .ok (.astore 13, 2) := by decide +kernel
theorem d_B_tube_7 : decode b_B_tube 7 = .ok (.lload_n 2, 1) := by decide +kernel
theorem d_B_tube_8 : decode b_B_tube 8 = .ok (.lconst 1, 1) := by decide +kernel
theorem d_B_tube_9 : decode b_B_tube 9 = .ok (.ldc2_w 136, 3) := by decide +kernel
theorem d_B_tube_12 : decode b_B_tube 12 = .ok (.invokestatic 138, 3) := by decide +kernel
theorem d_B_tube_15 : decode b_B_tube 15 = .ok (.iload 10, 2) := by decide +kernel
theorem d_B_tube_17 : decode b_B_tube 17 = .ok (.i2l, 1) := by decide +kernel
theorem d_B_tube_18 : decode b_B_tube 18 = .ok (.lconst 0, 1) := by decide +kernel
theorem d_B_tube_19 : decode b_B_tube 19 = .ok (.ldc2_w 142, 3) := by decide +kernel
theorem d_B_tube_22 : decode b_B_tube 22 = .ok (.invokestatic 138, 3) := by decide +kernel
theorem d_B_tube_25 : decode b_B_tube 25 = .ok (.lload 11, 2) := by decide +kernel
theorem d_B_tube_27 : decode b_B_tube 27 = .ok (.ldc2_w 144, 3) := by decide +kernel
theorem d_B_tube_30 : decode b_B_tube 30 = .ok (.ldc2_w 146, 3) := by decide +kernel
theorem d_B_tube_33 : decode b_B_tube 33 = .ok (.invokestatic 138, 3) := by decide +kernel
theorem d_B_tube_36 : decode b_B_tube 36 = .ok (.lload 4, 2) := by decide +kernel
theorem d_B_tube_38 : decode b_B_tube 38 = .ok (.lload 6, 2) := by decide +kernel
theorem d_B_tube_40 : decode b_B_tube 40 = .ok (.invokestatic 83, 3) := by decide +kernel
theorem d_B_tube_43 : decode b_B_tube 43 = .ok (.lload 8, 2) := by decide +kernel
theorem d_B_tube_45 : decode b_B_tube 45 = .ok (.lload_n 2, 1) := by decide +kernel
theorem d_B_tube_46 : decode b_B_tube 46 = .ok (.ldc2_w 148, 3) := by decide +kernel
theorem d_B_tube_49 : decode b_B_tube 49 = .ok (.invokestatic 138, 3) := by decide +kernel
theorem d_B_tube_52 : decode b_B_tube 52 = .ok (.iload 10, 2) := by decide +kernel
theorem d_B_tube_54 : decode b_B_tube 54 = .ok (.ifCond .ne 11, 3) := by decide +kernel
theorem d_B_tube_57 : decode b_B_tube 57 = .ok (.lload 4, 2) := by decide +kernel
theorem d_B_tube_59 : decode b_B_tube 59 = .ok (.lload 11, 2) := by decide +kernel
theorem d_B_tube_61 : decode b_B_tube 61 = .ok (.ladd, 1) := by decide +kernel
theorem d_B_tube_62 : decode b_B_tube 62 = .ok (.goto 5, 3) := by decide +kernel
theorem d_B_tube_65 : decode b_B_tube 65 = .ok (.lload 4, 2) := by decide +kernel
theorem d_B_tube_67 : decode b_B_tube 67 = .ok (.lstore 14, 2) := by decide +kernel
theorem d_B_tube_69 : decode b_B_tube 69 = .ok (.iload 10, 2) := by decide +kernel
theorem d_B_tube_71 : decode b_B_tube 71 = .ok (.iconst 1, 1) := by decide +kernel
theorem d_B_tube_72 : decode b_B_tube 72 = .ok (.if_icmp .ne 11, 3) := by decide +kernel
theorem d_B_tube_75 : decode b_B_tube 75 = .ok (.lload 6, 2) := by decide +kernel
theorem d_B_tube_77 : decode b_B_tube 77 = .ok (.lload 11, 2) := by decide +kernel
theorem d_B_tube_79 : decode b_B_tube 79 = .ok (.ladd, 1) := by decide +kernel
theorem d_B_tube_80 : decode b_B_tube 80 = .ok (.goto 5, 3) := by decide +kernel
theorem d_B_tube_83 : decode b_B_tube 83 = .ok (.lload 6, 2) := by decide +kernel
theorem d_B_tube_85 : decode b_B_tube 85 = .ok (.lstore 16, 2) := by decide +kernel
theorem d_B_tube_87 : decode b_B_tube 87 = .ok (.iload 10, 2) := by decide +kernel
theorem d_B_tube_89 : decode b_B_tube 89 = .ok (.iconst 2, 1) := by decide +kernel
theorem d_B_tube_90 : decode b_B_tube 90 = .ok (.if_icmp .ne 11, 3) := by decide +kernel
theorem d_B_tube_93 : decode b_B_tube 93 = .ok (.lload 8, 2) := by decide +kernel
theorem d_B_tube_95 : decode b_B_tube 95 = .ok (.lload 11, 2) := by decide +kernel
theorem d_B_tube_97 : decode b_B_tube 97 = .ok (.ladd, 1) := by decide +kernel
theorem d_B_tube_98 : decode b_B_tube 98 = .ok (.goto 5, 3) := by decide +kernel
theorem d_B_tube_101 : decode b_B_tube 101 = .ok (.lload 8, 2) := by decide +kernel
theorem d_B_tube_103 : decode b_B_tube 103 = .ok (.lstore 18, 2) := by decide +kernel
theorem d_B_tube_105 : decode b_B_tube 105 = .ok (.lload 14, 2) := by decide +kernel
theorem d_B_tube_107 : decode b_B_tube 107 = .ok (.lload 16, 2) := by decide +kernel
theorem d_B_tube_109 : decode b_B_tube 109 = .ok (.invokestatic 83, 3) := by decide +kernel
theorem d_B_tube_112 : decode b_B_tube 112 = .ok (.lload 18, 2) := by decide +kernel
theorem d_B_tube_114 : decode b_B_tube 114 = .ok (.lload_n 2, 1) := by decide +kernel
theorem d_B_tube_115 : decode b_B_tube 115 = .ok (.ldc2_w 148, 3) := by decide +kernel
theorem d_B_tube_118 : decode b_B_tube 118 = .ok (.invokestatic 138, 3) := by decide +kernel
theorem d_B_tube_121 : decode b_B_tube 121 = .ok (.aload 13, 2) := by decide +kernel
theorem d_B_tube_123 : decode b_B_tube 123 = .ok (.invokevirtual 94, 3) := by decide +kernel
theorem d_B_tube_126 : decode b_B_tube 126 = .ok (.ifCond .eq 5, 3) := by decide +kernel
theorem d_B_tube_129 : decode b_B_tube 129 = .ok (.iconst 0, 1) := by decide +kernel
theorem d_B_tube_130 : decode b_B_tube 130 = .ok (.ireturn, 1) := by decide +kernel
theorem d_B_tube_131 : decode b_B_tube 131 = .ok (.new 98, 3) := by decide +kernel
theorem d_B_tube_134 : decode b_B_tube 134 = .ok (.dup, 1) := by decide +kernel
theorem d_B_tube_135 : decode b_B_tube 135 = .ok (.invokespecial 100, 3) := by decide +kernel
theorem d_B_tube_138 : decode b_B_tube 138 = .ok (.astore 20, 2) := by decide +kernel
theorem d_B_tube_140 : decode b_B_tube 140 = .ok (.aload 20, 2) := by decide +kernel
theorem d_B_tube_142 : decode b_B_tube 142 = .ok (.iconst 3, 1) := by decide +kernel
theorem d_B_tube_143 : decode b_B_tube 143 = .ok (.lconst 0, 1) := by decide +kernel
theorem d_B_tube_144 : decode b_B_tube 144 = .ok (.lload_n 2, 1) := by decide +kernel
theorem d_B_tube_145 : decode b_B_tube 145 = .ok (.invokevirtual 101, 3) := by decide +kernel
theorem d_B_tube_148 : decode b_B_tube 148 = .ok (.aload 20, 2) := by decide +kernel
theorem d_B_tube_150 : decode b_B_tube 150 = .ok (.lload 4, 2) := by decide +kernel
theorem d_B_tube_152 : decode b_B_tube 152 = .ok (.lload 6, 2) := by decide +kernel
theorem d_B_tube_154 : decode b_B_tube 154 = .ok (.invokevirtual 122, 3) := by decide +kernel
theorem d_B_tube_157 : decode b_B_tube 157 = .ok (.aload 20, 2) := by decide +kernel
theorem d_B_tube_159 : decode b_B_tube 159 = .ok (.lload 14, 2) := by decide +kernel
theorem d_B_tube_161 : decode b_B_tube 161 = .ok (.lload 16, 2) := by decide +kernel
theorem d_B_tube_163 : decode b_B_tube 163 = .ok (.invokevirtual 122, 3) := by decide +kernel
theorem d_B_tube_166 : decode b_B_tube 166 = .ok (.aload 20, 2) := by decide +kernel
theorem d_B_tube_168 : decode b_B_tube 168 = .ok (.lload 8, 2) := by decide +kernel
theorem d_B_tube_170 : decode b_B_tube 170 = .ok (.lload 18, 2) := by decide +kernel
theorem d_B_tube_172 : decode b_B_tube 172 = .ok (.invokestatic 11, 3) := by decide +kernel
theorem d_B_tube_175 : decode b_B_tube 175 = .ok (.lload 8, 2) := by decide +kernel
theorem d_B_tube_177 : decode b_B_tube 177 = .ok (.lload 18, 2) := by decide +kernel
theorem d_B_tube_179 : decode b_B_tube 179 = .ok (.invokestatic 17, 3) := by decide +kernel
theorem d_B_tube_182 : decode b_B_tube 182 = .ok (.invokevirtual 109, 3) := by decide +kernel
theorem d_B_tube_185 : decode b_B_tube 185 = .ok (.aload 13, 2) := by decide +kernel
theorem d_B_tube_187 : decode b_B_tube 187 = .ok (.aload 20, 2) := by decide +kernel
theorem d_B_tube_189 : decode b_B_tube 189 = .ok (.ldc2_w 125, 3) := by decide +kernel
theorem d_B_tube_192 : decode b_B_tube 192 = .ok (.lload_n 2, 1) := by decide +kernel
theorem d_B_tube_193 : decode b_B_tube 193 = .ok (.lmul, 1) := by decide +kernel
theorem d_B_tube_194 : decode b_B_tube 194 = .ok (.lload_n 2, 1) := by decide +kernel
theorem d_B_tube_195 : decode b_B_tube 195 = .ok (.lmul, 1) := by decide +kernel
theorem d_B_tube_196 : decode b_B_tube 196 = .ok (.lload 11, 2) := by decide +kernel
theorem d_B_tube_198 : decode b_B_tube 198 = .ok (.invokestatic 150, 3) := by decide +kernel
theorem d_B_tube_201 : decode b_B_tube 201 = .ok (.lmul, 1) := by decide +kernel
theorem d_B_tube_202 : decode b_B_tube 202 = .ok (.invokevirtual 114, 3) := by decide +kernel
theorem d_B_tube_205 : decode b_B_tube 205 = .ok (.aload_n 0, 1) := by decide +kernel
theorem d_B_tube_206 : decode b_B_tube 206 = .ok (.aload 13, 2) := by decide +kernel
theorem d_B_tube_208 : decode b_B_tube 208 = .ok (.invokevirtual 118, 3) := by decide +kernel
theorem d_B_tube_211 : decode b_B_tube 211 = .ok (.iconst 1, 1) := by decide +kernel
theorem d_B_tube_212 : decode b_B_tube 212 = .ok (.ireturn, 1) := by decide +kernel
abbrev rm_B_tube : Room := { frames := 9, cells := 14, slots := 152, locals := 202 }
theorem ce_B_tube : gCe y_B_tube (.code y_B_tube b_B_tube 21 (some .boolean)) 21 7 false := gCe.code wd_614 wd_49 wd_612 (by decide) (by decide +kernel)
def f_B_tube (g0 : gG) (a0 : Nat) (p1 : Int32) (p2 : Int64) (p3 : Int64) (p4 : Int64) (p5 : Int64) (p6 : Int32) (p7 : Int64) (w : gW) : gX Int32 := (gck w a0 0).bind fun _ => gbind (f_B_bodyAt g0 a0 p1 w) fun v5 w => gbind (f_B_needWithin g0 p2 1 500 w) fun v8 w => gbind (f_B_needWithin g0 (p6.toInt64) 0 2 w) fun v11 w => gbind (f_B_needWithin g0 p7 (-10000) 10000 w) fun v14 w => gbind (f_B_needPlace g0 p3 p4 w) fun v17 w => gbind (f_B_needWithin g0 p5 p2 5000 w) fun v20 w => gjoin (fun K67 => if p6 = 0 then (K67 (p3 + p7) w) else (K67 p3 w)) (fun (y21 : Int64) (w : gW) => gjoin (fun K85 => if p6 = 1 then (K85 (p4 + p7) w) else (K85 p4 w)) (fun (y22 : Int64) (w : gW) => gjoin (fun K103 => if p6 = 2 then (K103 (p5 + p7) w) else (K103 p5 w)) (fun (y23 : Int64) (w : gW) => gbind (f_B_needPlace g0 y21 y22 w) fun v26 w => gbind (f_B_needWithin g0 y23 p2 5000 w) fun v29 w => (gck w v5 4).bind fun _ => gbind (f_By_isFull g0 v5 w) fun v34 w => if v34 = 0 then (gb2f (gnw w 3 [.int 0, .long 0, .long 0, .null, .null, .int 0, .long 0, .long 0, .long 0, .long 0, .long 0, .long 0]) fun o36 w => gbind (f_So_init g0 o36 w) fun v40 w => (gck w o36 3).bind fun _ => gbind (f_So_begin g0 o36 3 0 p2 w) fun v45 w => (gck w o36 3).bind fun _ => gbind (f_So_addCorner g0 o36 p3 p4 w) fun v50 w => (gck w o36 3).bind fun _ => gbind (f_So_addCorner g0 o36 y21 y22 w) fun v55 w => gbind (f_Ma_min2 g0 p5 y23 w) fun v58 w => gbind (f_Ma_max2 g0 p5 y23 w) fun v61 w => (gck w o36 3).bind fun _ => gbind (f_So_setHeights g0 o36 v58 v61 w) fun v66 w => gbind (f_Ma_abs g0 p7 w) fun v69 w => (gck w v5 4).bind fun _ => gbind (f_By_add g0 v5 o36 (((710 * p2) * p2) * v69) w) fun v74 w => (gck w a0 0).bind fun _ => gbind (f_B_forgetRelationsOf g0 a0 v5 w) fun v79 w => gguard ((1 : Int32) = 0 ∨ (1 : Int32) = 1) (some (.inr 1, w))) else (gguard ((0 : Int32) = 0 ∨ (0 : Int32) = 1) (some (.inr 0, w))))))
set_option maxHeartbeats 4000000 in
set_option maxRecDepth 100000 in
theorem m_B_tube (l : Launch) (hst : l.stackTraces = false) (D : gD) (g0 : gG) (a0 : Nat) (p1 : Int32) (p2 : Int64) (p3 : Int64) (p4 : Int64) (p5 : Int64) (p6 : Int32) (p7 : Int64) (w : gW) (r : (String ⊕ Int32) × gW) (h : f_B_tube g0 a0 p1 p2 p3 p4 p5 p6 p7 w = some r) : gMet l y_B_tube (.code y_B_tube b_B_tube 21 (some .boolean)) rm_B_tube D g0 [.ref a0, .int p1, .long p2, .long p3, .long p4, .long p5, .int p6, .long p7] w (goI r) := by
  refine gw_ofZ (by decide +kernel) (Nat.le_of_ble_eq_true rfl) ?_
  intro p e s m below meth c ls args A Q hx hb hml hown hlocks hin hnt hT hK hZ hA hret hexc hthr hI hl
  obtain ⟨H, hH⟩ : ∃ H, H = s.heap := ⟨_, rfl⟩
  rw [← hH] at hI ⊢
  obtain ⟨locs, hlocs⟩ : ∃ z : List Loc, z = [] := ⟨_, rfl⟩
  rw [← hlocs] at hI ⊢
  have hl : lv_has ls 21 [(0, .ref a0), (1, .int p1), (2, .long p2), (4, .long p3), (6, .long p4), (8, .long p5), (10, .int p6), (11, .long p7)] := hl
  unfold f_B_tube at h
  refine lv_aload_n hx hb d_B_tube_0 rfl (lv_at hl 0 rfl) ?_
  refine lv_iload_n hx hb d_B_tube_1 rfl (lv_at hl 1 rfl) ?_
  obtain ⟨q3, e4, h⟩ := gb h
  obtain ⟨u1, e2⟩ := gsome h
  refine gw_callA e2 h (gw_runV (As := [.int p1]) (rest := []) hx hb hml hown hT hK hZ hA hI (ci := 0) rfl e4 (m_B_bodyAt l hst D g0 a0 p1 w u1 e2) ce_B_bodyAt wd_436 wd_7 ⟨by decide, by decide⟩ rfl rfl hl.1 rfl (lv_room (Nat.le_of_ble_eq_true rfl)) d_B_tube_2 ⟨(show 0 + 1 ≤ 14 by omega), (show 0 + 6 ≤ 152 by omega)⟩) hI hA hexc (show 0 + 1 ≤ 14 by omega) (show 0 + 6 ≤ 152 by omega) (fun v5 w H locs h hI => ?_)
  refine W.widen (k := 1) (n := 6) (show 0 + 1 ≤ 1 by omega) (show 0 + 6 ≤ 6 by omega) ?_
  refine lv_astore (lv' := [(13, .ref v5), (0, .ref a0), (1, .int p1), (2, .long p2), (4, .long p3), (6, .long p4), (8, .long p5), (10, .int p6), (11, .long p7)]) hx hb d_B_tube_5 hl (by decide) rfl (fun ls hl => ?_)
  refine lv_lload_n hx hb d_B_tube_7 rfl (lv_at hl 3 rfl) ?_
  refine lv_lconst (v := 1) hx hb d_B_tube_8 (by decide) ?_
  refine lv_ldc2 (v := 500) hx hb hown (hT _ wd_615 args) d_B_tube_9 ?_
  obtain ⟨u6, e7⟩ := gsome h
  refine gw_callV e7 h (gw_runS (As := [.long p2, .long 1, .long 500]) (rest := []) hx hb hml hown hT hK hZ hA hI (m_B_needWithin l hst D g0 p2 1 500 w u6 e7) ce_B_needWithin wd_516 ⟨by decide, by decide⟩ rfl rfl hl.1 rfl (lv_room (Nat.le_of_ble_eq_true rfl)) d_B_tube_12 ⟨(show 1 + 1 ≤ 14 by omega), (show 6 + 6 ≤ 152 by omega)⟩) hI hA hexc (show 1 + 1 ≤ 14 by omega) (show 6 + 6 ≤ 152 by omega) (fun v8 w H locs h hI => ?_)
  refine W.widen (k := 2) (n := 12) (show 1 + 1 ≤ 2 by omega) (show 6 + 6 ≤ 12 by omega) ?_
  refine lv_iload hx hb d_B_tube_15 (lv_at hl 7 rfl) ?_
  refine lv_i2l (v := p6.toInt64) hx hb d_B_tube_17 rfl ?_
  refine lv_lconst (v := 0) hx hb d_B_tube_18 (by decide) ?_
  refine lv_ldc2 (v := 2) hx hb hown (hT _ wd_616 args) d_B_tube_19 ?_
  obtain ⟨u9, e10⟩ := gsome h
  refine gw_callV e10 h (gw_runS (As := [.long (p6.toInt64), .long 0, .long 2]) (rest := []) hx hb hml hown hT hK hZ hA hI (m_B_needWithin l hst D g0 (p6.toInt64) 0 2 w u9 e10) ce_B_needWithin wd_516 ⟨by decide, by decide⟩ rfl rfl hl.1 rfl (lv_room (Nat.le_of_ble_eq_true rfl)) d_B_tube_22 ⟨(show 2 + 1 ≤ 14 by omega), (show 12 + 6 ≤ 152 by omega)⟩) hI hA hexc (show 2 + 1 ≤ 14 by omega) (show 12 + 6 ≤ 152 by omega) (fun v11 w H locs h hI => ?_)
  refine W.widen (k := 3) (n := 18) (show 2 + 1 ≤ 3 by omega) (show 12 + 6 ≤ 18 by omega) ?_
  refine lv_lload hx hb d_B_tube_25 (lv_at hl 8 rfl) ?_
  refine lv_ldc2 (v := (-10000)) hx hb hown (hT _ wd_617 args) d_B_tube_27 ?_
  refine lv_ldc2 (v := 10000) hx hb hown (hT _ wd_618 args) d_B_tube_30 ?_
  obtain ⟨u12, e13⟩ := gsome h
  refine gw_callV e13 h (gw_runS (As := [.long p7, .long (-10000), .long 10000]) (rest := []) hx hb hml hown hT hK hZ hA hI (m_B_needWithin l hst D g0 p7 (-10000) 10000 w u12 e13) ce_B_needWithin wd_516 ⟨by decide, by decide⟩ rfl rfl hl.1 rfl (lv_room (Nat.le_of_ble_eq_true rfl)) d_B_tube_33 ⟨(show 3 + 1 ≤ 14 by omega), (show 18 + 6 ≤ 152 by omega)⟩) hI hA hexc (show 3 + 1 ≤ 14 by omega) (show 18 + 6 ≤ 152 by omega) (fun v14 w H locs h hI => ?_)
  refine W.widen (k := 4) (n := 24) (show 3 + 1 ≤ 4 by omega) (show 18 + 6 ≤ 24 by omega) ?_
  refine lv_lload hx hb d_B_tube_36 (lv_at hl 4 rfl) ?_
  refine lv_lload hx hb d_B_tube_38 (lv_at hl 5 rfl) ?_
  obtain ⟨u15, e16⟩ := gsome h
  refine gw_callV e16 h (gw_runS (As := [.long p3, .long p4]) (rest := []) hx hb hml hown hT hK hZ hA hI (m_B_needPlace l hst D g0 p3 p4 w u15 e16) ce_B_needPlace wd_511 ⟨by decide, by decide⟩ rfl rfl hl.1 rfl (lv_room (Nat.le_of_ble_eq_true rfl)) d_B_tube_40 ⟨(show 4 + 2 ≤ 14 by omega), (show 24 + 12 ≤ 152 by omega)⟩) hI hA hexc (show 4 + 2 ≤ 14 by omega) (show 24 + 12 ≤ 152 by omega) (fun v17 w H locs h hI => ?_)
  refine W.widen (k := 6) (n := 36) (show 4 + 2 ≤ 6 by omega) (show 24 + 12 ≤ 36 by omega) ?_
  refine lv_lload hx hb d_B_tube_43 (lv_at hl 6 rfl) ?_
  refine lv_lload_n hx hb d_B_tube_45 rfl (lv_at hl 3 rfl) ?_
  refine lv_ldc2 (v := 5000) hx hb hown (hT _ wd_515 args) d_B_tube_46 ?_
  obtain ⟨u18, e19⟩ := gsome h
  refine gw_callV e19 h (gw_runS (As := [.long p5, .long p2, .long 5000]) (rest := []) hx hb hml hown hT hK hZ hA hI (m_B_needWithin l hst D g0 p5 p2 5000 w u18 e19) ce_B_needWithin wd_516 ⟨by decide, by decide⟩ rfl rfl hl.1 rfl (lv_room (Nat.le_of_ble_eq_true rfl)) d_B_tube_49 ⟨(show 6 + 1 ≤ 14 by omega), (show 36 + 6 ≤ 152 by omega)⟩) hI hA hexc (show 6 + 1 ≤ 14 by omega) (show 36 + 6 ≤ 152 by omega) (fun v20 w H locs h hI => ?_)
  refine W.widen (k := 7) (n := 42) (show 6 + 1 ≤ 7 by omega) (show 36 + 6 ≤ 42 by omega) ?_
  refine lv_iload hx hb d_B_tube_52 (lv_at hl 7 rfl) ?_
  obtain ⟨K67, eK67, h⟩ := gj h
  have hK67 : ∀ (y21 : Int64) (w : gW) (H : Heap) (locs : List Loc) (ls : Array Slot), K67 y21 w = some r → gI D s A w H locs → lv_has ls 21 [(0, .ref a0), (2, .long p2), (4, .long p3), (6, .long p4), (8, .long p5), (10, .int p6), (11, .long p7), (13, .ref v5)] → W p l e rm_B_tube s m args below meth c H locs 7 42 Q (F0 m 67 ls [.long y21]) := by
    intro y21 w H locs ls h hI hl
    have h := gk2 eK67 h
    refine lv_lstore (lv' := [(14, .long y21), (0, .ref a0), (2, .long p2), (4, .long p3), (6, .long p4), (8, .long p5), (10, .int p6), (11, .long p7), (13, .ref v5)]) hx hb d_B_tube_67 hl (by decide) rfl (fun ls hl => ?_)
    refine lv_iload hx hb d_B_tube_69 (lv_at hl 6 rfl) ?_
    refine lv_iconst (v := 1) hx hb d_B_tube_71 (by decide) ?_
    obtain ⟨K85, eK85, h⟩ := gj h
    have hK85 : ∀ (y22 : Int64) (w : gW) (H : Heap) (locs : List Loc) (ls : Array Slot), K85 y22 w = some r → gI D s A w H locs → lv_has ls 21 [(0, .ref a0), (2, .long p2), (4, .long p3), (6, .long p4), (8, .long p5), (10, .int p6), (11, .long p7), (13, .ref v5), (14, .long y21)] → W p l e rm_B_tube s m args below meth c H locs 7 42 Q (F0 m 85 ls [.long y22]) := by
      intro y22 w H locs ls h hI hl
      have h := gk2 eK85 h
      refine lv_lstore (lv' := [(16, .long y22), (0, .ref a0), (2, .long p2), (4, .long p3), (6, .long p4), (8, .long p5), (10, .int p6), (11, .long p7), (13, .ref v5), (14, .long y21)]) hx hb d_B_tube_85 hl (by decide) rfl (fun ls hl => ?_)
      refine lv_iload hx hb d_B_tube_87 (lv_at hl 6 rfl) ?_
      refine lv_iconst (v := 2) hx hb d_B_tube_89 (by decide) ?_
      obtain ⟨K103, eK103, h⟩ := gj h
      have hK103 : ∀ (y23 : Int64) (w : gW) (H : Heap) (locs : List Loc) (ls : Array Slot), K103 y23 w = some r → gI D s A w H locs → lv_has ls 21 [(0, .ref a0), (2, .long p2), (4, .long p3), (6, .long p4), (8, .long p5), (11, .long p7), (13, .ref v5), (14, .long y21), (16, .long y22)] → W p l e rm_B_tube s m args below meth c H locs 7 42 Q (F0 m 103 ls [.long y23]) := by
        intro y23 w H locs ls h hI hl
        have h := gk2 eK103 h
        refine lv_lstore (lv' := [(18, .long y23), (0, .ref a0), (2, .long p2), (4, .long p3), (6, .long p4), (8, .long p5), (11, .long p7), (13, .ref v5), (14, .long y21), (16, .long y22)]) hx hb d_B_tube_103 hl (by decide) rfl (fun ls hl => ?_)
        refine lv_lload hx hb d_B_tube_105 (lv_at hl 8 rfl) ?_
        refine lv_lload hx hb d_B_tube_107 (lv_at hl 9 rfl) ?_
        obtain ⟨u24, e25⟩ := gsome h
        refine gw_callV e25 h (gw_runS (As := [.long y21, .long y22]) (rest := []) hx hb hml hown hT hK hZ hA hI (m_B_needPlace l hst D g0 y21 y22 w u24 e25) ce_B_needPlace wd_511 ⟨by decide, by decide⟩ rfl rfl hl.1 rfl (lv_room (Nat.le_of_ble_eq_true rfl)) d_B_tube_109 ⟨(show 7 + 2 ≤ 14 by omega), (show 42 + 12 ≤ 152 by omega)⟩) hI hA hexc (show 7 + 2 ≤ 14 by omega) (show 42 + 12 ≤ 152 by omega) (fun v26 w H locs h hI => ?_)
        refine W.widen (k := 9) (n := 54) (show 7 + 2 ≤ 9 by omega) (show 42 + 12 ≤ 54 by omega) ?_
        refine lv_lload hx hb d_B_tube_112 (lv_at hl 0 rfl) ?_
        refine lv_lload_n hx hb d_B_tube_114 rfl (lv_at hl 2 rfl) ?_
        refine lv_ldc2 (v := 5000) hx hb hown (hT _ wd_515 args) d_B_tube_115 ?_
        obtain ⟨u27, e28⟩ := gsome h
        refine gw_callV e28 h (gw_runS (As := [.long y23, .long p2, .long 5000]) (rest := []) hx hb hml hown hT hK hZ hA hI (m_B_needWithin l hst D g0 y23 p2 5000 w u27 e28) ce_B_needWithin wd_516 ⟨by decide, by decide⟩ rfl rfl hl.1 rfl (lv_room (Nat.le_of_ble_eq_true rfl)) d_B_tube_118 ⟨(show 9 + 1 ≤ 14 by omega), (show 54 + 6 ≤ 152 by omega)⟩) hI hA hexc (show 9 + 1 ≤ 14 by omega) (show 54 + 6 ≤ 152 by omega) (fun v29 w H locs h hI => ?_)
        refine W.widen (k := 10) (n := 60) (show 9 + 1 ≤ 10 by omega) (show 54 + 6 ≤ 60 by omega) ?_
        refine lv_aload hx hb d_B_tube_121 (lv_at hl 7 rfl) ?_
        obtain ⟨q32, e33, h⟩ := gb h
        obtain ⟨u30, e31⟩ := gsome h
        refine gw_callI e31 h (gw_runV (As := []) (rest := []) hx hb hml hown hT hK hZ hA hI (ci := 4) rfl e33 (m_By_isFull l hst D g0 v5 w u30 e31) ce_By_isFull wd_541 wd_543 ⟨by decide, by decide⟩ rfl rfl hl.1 rfl (lv_room (Nat.le_of_ble_eq_true rfl)) d_B_tube_123 ⟨(show 10 + 0 ≤ 14 by omega), (show 60 + 0 ≤ 152 by omega)⟩) hI hA hexc (show 10 + 0 ≤ 14 by omega) (show 60 + 0 ≤ 152 by omega) (fun v34 w H locs h hI => ?_)
        refine lv_if_eq (tgt := 131) hx hb d_B_tube_126 (by decide) (fun c35 => ?_) (fun c35 => ?_)
        · skip
          have h := git c35 h
          obtain ⟨o36, w, e37, h⟩ := gb2 h
          refine gw_new hx hb hT hown hK hI hA (ci := 3) rfl i_3 t_3 t_3_ok wd_546 wd_124 wd_56 (fs := [.int 0, .long 0, .long 0, .null, .null, .int 0, .long 0, .long 0, .long 0, .long 0, .long 0, .long 0]) df_3 e37 (show 10 + 1 ≤ 14 by omega) (show 60 + 12 ≤ 152 by omega) d_B_tube_131 (fun H hI => ?_)
          refine W.widen (k := 11) (n := 72) (show 10 + 1 ≤ 11 by omega) (show 60 + 12 ≤ 72 by omega) ?_
          refine lv_dup hx hb d_B_tube_134 rfl ?_
          obtain ⟨u38, e39⟩ := gsome h
          refine gw_callV e39 h (gw_runIN (As := []) (rest := [.ref o36]) hx hb hml hown hT hK hZ hA hI (m_So_init l hst D g0 o36 w u38 e39) ce_So_init wd_547 rfl ⟨by decide, by decide⟩ rfl rfl hl.1 rfl (lv_room (Nat.le_of_ble_eq_true rfl)) d_B_tube_135 ⟨(show 11 + 2 ≤ 14 by omega), (show 72 + 16 ≤ 152 by omega)⟩) hI hA hexc (show 11 + 2 ≤ 14 by omega) (show 72 + 16 ≤ 152 by omega) (fun v40 w H locs h hI => ?_)
          refine W.widen (k := 13) (n := 88) (show 11 + 2 ≤ 13 by omega) (show 72 + 16 ≤ 88 by omega) ?_
          refine lv_astore (lv' := [(20, .ref o36), (18, .long y23), (0, .ref a0), (2, .long p2), (4, .long p3), (6, .long p4), (8, .long p5), (11, .long p7), (13, .ref v5), (14, .long y21), (16, .long y22)]) hx hb d_B_tube_138 hl (by decide) rfl (fun ls hl => ?_)
          refine lv_aload hx hb d_B_tube_140 (lv_at hl 0 rfl) ?_
          refine lv_iconst (v := 3) hx hb d_B_tube_142 (by decide) ?_
          refine lv_lconst (v := 0) hx hb d_B_tube_143 (by decide) ?_
          refine lv_lload_n hx hb d_B_tube_144 rfl (lv_at hl 3 rfl) ?_
          obtain ⟨q43, e44, h⟩ := gb h
          obtain ⟨u41, e42⟩ := gsome h
          refine gw_callV e42 h (gw_runV (As := [.int 3, .long 0, .long p2]) (rest := []) hx hb hml hown hT hK hZ hA hI (ci := 3) rfl e44 (m_So_begin l hst D g0 o36 3 0 p2 w u41 e42) ce_So_begin wd_548 wd_349 ⟨by decide, by decide⟩ rfl rfl hl.1 rfl (lv_room (Nat.le_of_ble_eq_true rfl)) d_B_tube_145 ⟨(show 13 + 0 ≤ 14 by omega), (show 88 + 0 ≤ 152 by omega)⟩) hI hA hexc (show 13 + 0 ≤ 14 by omega) (show 88 + 0 ≤ 152 by omega) (fun v45 w H locs h hI => ?_)
          refine lv_aload hx hb d_B_tube_148 (lv_at hl 0 rfl) ?_
          refine lv_lload hx hb d_B_tube_150 (lv_at hl 4 rfl) ?_
          refine lv_lload hx hb d_B_tube_152 (lv_at hl 5 rfl) ?_
          obtain ⟨q48, e49, h⟩ := gb h
          obtain ⟨u46, e47⟩ := gsome h
          refine gw_callV e47 h (gw_runV (As := [.long p3, .long p4]) (rest := []) hx hb hml hown hT hK hZ hA hI (ci := 3) rfl e49 (m_So_addCorner l hst D g0 o36 p3 p4 w u46 e47) ce_So_addCorner wd_575 wd_361 ⟨by decide, by decide⟩ rfl rfl hl.1 rfl (lv_room (Nat.le_of_ble_eq_true rfl)) d_B_tube_154 ⟨(show 13 + 0 ≤ 14 by omega), (show 88 + 0 ≤ 152 by omega)⟩) hI hA hexc (show 13 + 0 ≤ 14 by omega) (show 88 + 0 ≤ 152 by omega) (fun v50 w H locs h hI => ?_)
          refine lv_aload hx hb d_B_tube_157 (lv_at hl 0 rfl) ?_
          refine lv_lload hx hb d_B_tube_159 (lv_at hl 9 rfl) ?_
          refine lv_lload hx hb d_B_tube_161 (lv_at hl 10 rfl) ?_
          obtain ⟨q53, e54, h⟩ := gb h
          obtain ⟨u51, e52⟩ := gsome h
          refine gw_callV e52 h (gw_runV (As := [.long y21, .long y22]) (rest := []) hx hb hml hown hT hK hZ hA hI (ci := 3) rfl e54 (m_So_addCorner l hst D g0 o36 y21 y22 w u51 e52) ce_So_addCorner wd_575 wd_361 ⟨by decide, by decide⟩ rfl rfl hl.1 rfl (lv_room (Nat.le_of_ble_eq_true rfl)) d_B_tube_163 ⟨(show 13 + 0 ≤ 14 by omega), (show 88 + 0 ≤ 152 by omega)⟩) hI hA hexc (show 13 + 0 ≤ 14 by omega) (show 88 + 0 ≤ 152 by omega) (fun v55 w H locs h hI => ?_)
          refine lv_aload hx hb d_B_tube_166 (lv_at hl 0 rfl) ?_
          refine lv_lload hx hb d_B_tube_168 (lv_at hl 6 rfl) ?_
          refine lv_lload hx hb d_B_tube_170 (lv_at hl 1 rfl) ?_
          obtain ⟨u56, e57⟩ := gsome h
          refine gw_callJ e57 h (gw_runS (As := [.long p5, .long y23]) (rest := [.ref o36]) hx hb hml hown hT hK hZ hA hI (m_Ma_min2 l hst D g0 p5 y23 w u56 e57) ce_Ma_min2 wd_81 ⟨by decide, by decide⟩ rfl rfl hl.1 rfl (lv_room (Nat.le_of_ble_eq_true rfl)) d_B_tube_172 ⟨(show 13 + 0 ≤ 14 by omega), (show 88 + 0 ≤ 152 by omega)⟩) hI hA hexc (show 13 + 0 ≤ 14 by omega) (show 88 + 0 ≤ 152 by omega) (fun v58 w H locs h hI => ?_)
          refine lv_lload hx hb d_B_tube_175 (lv_at hl 6 rfl) ?_
          refine lv_lload hx hb d_B_tube_177 (lv_at hl 1 rfl) ?_
          obtain ⟨u59, e60⟩ := gsome h
          refine gw_callJ e60 h (gw_runS (As := [.long p5, .long y23]) (rest := [.long v58, .ref o36]) hx hb hml hown hT hK hZ hA hI (m_Ma_max2 l hst D g0 p5 y23 w u59 e60) ce_Ma_max2 wd_84 ⟨by decide, by decide⟩ rfl rfl hl.1 rfl (lv_room (Nat.le_of_ble_eq_true rfl)) d_B_tube_179 ⟨(show 13 + 0 ≤ 14 by omega), (show 88 + 0 ≤ 152 by omega)⟩) hI hA hexc (show 13 + 0 ≤ 14 by omega) (show 88 + 0 ≤ 152 by omega) (fun v61 w H locs h hI => ?_)
          obtain ⟨q64, e65, h⟩ := gb h
          obtain ⟨u62, e63⟩ := gsome h
          refine gw_callV e63 h (gw_runV (As := [.long v58, .long v61]) (rest := []) hx hb hml hown hT hK hZ hA hI (ci := 3) rfl e65 (m_So_setHeights l hst D g0 o36 v58 v61 w u62 e63) ce_So_setHeights wd_553 wd_367 ⟨by decide, by decide⟩ rfl rfl hl.1 rfl (lv_room (Nat.le_of_ble_eq_true rfl)) d_B_tube_182 ⟨(show 13 + 0 ≤ 14 by omega), (show 88 + 0 ≤ 152 by omega)⟩) hI hA hexc (show 13 + 0 ≤ 14 by omega) (show 88 + 0 ≤ 152 by omega) (fun v66 w H locs h hI => ?_)
          refine lv_aload hx hb d_B_tube_185 (lv_at hl 8 rfl) ?_
          refine lv_aload hx hb d_B_tube_187 (lv_at hl 0 rfl) ?_
          refine lv_ldc2 (v := 710) hx hb hown (hT _ wd_576 args) d_B_tube_189 ?_
          refine lv_lload_n hx hb d_B_tube_192 rfl (lv_at hl 3 rfl) ?_
          refine lv_lmul hx hb d_B_tube_193 ?_
          refine lv_lload_n hx hb d_B_tube_194 rfl (lv_at hl 3 rfl) ?_
          refine lv_lmul hx hb d_B_tube_195 ?_
          refine lv_lload hx hb d_B_tube_196 (lv_at hl 7 rfl) ?_
          obtain ⟨u67, e68⟩ := gsome h
          refine gw_callJ e68 h (gw_runS (As := [.long p7]) (rest := [.long ((710 * p2) * p2), .ref o36, .ref v5]) hx hb hml hown hT hK hZ hA hI (m_Ma_abs l hst D g0 p7 w u67 e68) ce_Ma_abs wd_619 ⟨by decide, by decide⟩ rfl rfl hl.1 rfl (lv_room (Nat.le_of_ble_eq_true rfl)) d_B_tube_198 ⟨(show 13 + 0 ≤ 14 by omega), (show 88 + 0 ≤ 152 by omega)⟩) hI hA hexc (show 13 + 0 ≤ 14 by omega) (show 88 + 0 ≤ 152 by omega) (fun v69 w H locs h hI => ?_)
          refine lv_lmul hx hb d_B_tube_201 ?_
          obtain ⟨q72, e73, h⟩ := gb h
          obtain ⟨u70, e71⟩ := gsome h
          refine gw_callV e71 h (gw_runV (As := [.ref o36, .long (((710 * p2) * p2) * v69)]) (rest := []) hx hb hml hown hT hK hZ hA hI (ci := 4) rfl e73 (m_By_add l hst D g0 v5 o36 (((710 * p2) * p2) * v69) w u70 e71) ce_By_add wd_555 wd_557 ⟨by decide, by decide⟩ rfl rfl hl.1 rfl (lv_room (Nat.le_of_ble_eq_true rfl)) d_B_tube_202 ⟨(show 13 + 1 ≤ 14 by omega), (show 88 + 64 ≤ 152 by omega)⟩) hI hA hexc (show 13 + 1 ≤ 14 by omega) (show 88 + 64 ≤ 152 by omega) (fun v74 w H locs h hI => ?_)
          refine W.widen (k := 14) (n := 152) (show 13 + 1 ≤ 14 by omega) (show 88 + 64 ≤ 152 by omega) ?_
          refine lv_aload_n hx hb d_B_tube_205 rfl (lv_at hl 2 rfl) ?_
          refine lv_aload hx hb d_B_tube_206 (lv_at hl 8 rfl) ?_
          obtain ⟨q77, e78, h⟩ := gb h
          obtain ⟨u75, e76⟩ := gsome h
          refine gw_callV e76 h (gw_runV (As := [.ref v5]) (rest := []) hx hb hml hown hT hK hZ hA hI (ci := 0) rfl e78 (m_B_forgetRelationsOf l hst D g0 a0 v5 w u75 e76) ce_B_forgetRelationsOf wd_560 wd_9 ⟨by decide, by decide⟩ rfl rfl hl.1 rfl (lv_room (Nat.le_of_ble_eq_true rfl)) d_B_tube_208 ⟨(show 14 + 0 ≤ 14 by omega), (show 152 + 0 ≤ 152 by omega)⟩) hI hA hexc (show 14 + 0 ≤ 14 by omega) (show 152 + 0 ≤ 152 by omega) (fun v79 w H locs h hI => ?_)
          refine lv_iconst (v := 1) hx hb d_B_tube_211 (by decide) ?_
          obtain ⟨g80, h⟩ := gif h
          exact W.widen (show 14 ≤ 14 by omega) (show 152 ≤ 152 by omega) (hret g80 0 _ (Option.some.inj h).symm _ _ _ _ d_B_tube_212 hI)
        · skip
          have h := gie c35 h
          refine lv_iconst (v := 0) hx hb d_B_tube_129 (by decide) ?_
          obtain ⟨g81, h⟩ := gif h
          exact W.widen (show 10 ≤ 14 by omega) (show 60 ≤ 152 by omega) (hret g81 0 _ (Option.some.inj h).symm _ _ _ _ d_B_tube_130 hI)
      refine lv_icmp_ne (tgt := 101) hx hb d_B_tube_90 (by decide) (fun c82 => ?_) (fun c82 => ?_)
      · skip
        have h := gie c82 h
        refine lv_lload hx hb d_B_tube_101 (lv_at hl 5 rfl) ?_
        exact hK103 _ w H locs ls h hI (lv_sub hl [1, 2, 3, 4, 5, 7, 8, 9, 0] rfl)
      · skip
        have h := git c82 h
        refine lv_lload hx hb d_B_tube_93 (lv_at hl 5 rfl) ?_
        refine lv_lload hx hb d_B_tube_95 (lv_at hl 7 rfl) ?_
        refine lv_ladd hx hb d_B_tube_97 ?_
        refine lv_goto (tgt := 103) hx hb d_B_tube_98 (by decide) ?_
        exact hK103 _ w H locs ls h hI (lv_sub hl [1, 2, 3, 4, 5, 7, 8, 9, 0] rfl)
    refine lv_icmp_ne (tgt := 83) hx hb d_B_tube_72 (by decide) (fun c83 => ?_) (fun c83 => ?_)
    · skip
      have h := gie c83 h
      refine lv_lload hx hb d_B_tube_83 (lv_at hl 4 rfl) ?_
      exact hK85 _ w H locs ls h hI (lv_sub hl [1, 2, 3, 4, 5, 6, 7, 8, 0] rfl)
    · skip
      have h := git c83 h
      refine lv_lload hx hb d_B_tube_75 (lv_at hl 4 rfl) ?_
      refine lv_lload hx hb d_B_tube_77 (lv_at hl 7 rfl) ?_
      refine lv_ladd hx hb d_B_tube_79 ?_
      refine lv_goto (tgt := 85) hx hb d_B_tube_80 (by decide) ?_
      exact hK85 _ w H locs ls h hI (lv_sub hl [1, 2, 3, 4, 5, 6, 7, 8, 0] rfl)
  refine lv_if_ne (tgt := 65) hx hb d_B_tube_54 (by decide) (fun c84 => ?_) (fun c84 => ?_)
  · skip
    have h := gie c84 h
    refine lv_lload hx hb d_B_tube_65 (lv_at hl 4 rfl) ?_
    exact hK67 _ w H locs ls h hI (lv_sub hl [1, 3, 4, 5, 6, 7, 8, 0] rfl)
  · skip
    have h := git c84 h
    refine lv_lload hx hb d_B_tube_57 (lv_at hl 4 rfl) ?_
    refine lv_lload hx hb d_B_tube_59 (lv_at hl 8 rfl) ?_
    refine lv_ladd hx hb d_B_tube_61 ?_
    refine lv_goto (tgt := 67) hx hb d_B_tube_62 (by decide) ?_
    exact hK67 _ w H locs ls h hI (lv_sub hl [1, 3, 4, 5, 6, 7, 8, 0] rfl)

abbrev b_M_init : ByteArray := prog_9_method_1_code
def y_M_init : MethodName := ⟨"BodySolidsModel", "<init>", "(J)V"⟩
theorem d_M_init_0 : decode b_M_init 0 = .ok (.aload_n 0, 1) := by decide +kernel
theorem d_M_init_1 : decode b_M_init 1 = .ok (.invokespecial 1, 3) := by decide +kernel
theorem d_M_init_4 : decode b_M_init 4 = .ok (.aload_n 0, 1) := by decide +kernel
theorem d_M_init_5 : decode b_M_init 5 = .ok (.bipush 30, 2) := by decide +kernel
theorem d_M_init_7 : decode b_M_init 7 = .ok (.newarray .int, 2) := by decide +kernel
theorem d_M_init_9 : decode b_M_init 9 = .ok (.putfield 7, 3) := by decide +kernel
theorem d_M_init_12 : decode b_M_init 12 = .ok (.aload_n 0, 1) := by decide +kernel
theorem d_M_init_13 : decode b_M_init 13 = .ok (.sipush 360, 3) := by decide +kernel
theorem d_M_init_16 : decode b_M_init 16 = .ok (.newarray .int, 2) := by decide +kernel
theorem d_M_init_18 : decode b_M_init 18 = .ok (.putfield 13, 3) := by decide +kernel
theorem d_M_init_21 : decode b_M_init 21 = .ok (.aload_n 0, 1) := by decide +kernel
theorem d_M_init_22 : decode b_M_init 22 = .ok (.sipush 2160, 3) := by decide +kernel
theorem d_M_init_25 : decode b_M_init 25 = .ok (.newarray .long, 2) := by decide +kernel
theorem d_M_init_27 : decode b_M_init 27 = .ok (.putfield 16, 3) := by decide +kernel
theorem d_M_init_30 : decode b_M_init 30 = .ok (.aload_n 0, 1) := by decide +kernel
theorem d_M_init_31 : decode b_M_init 31 = .ok (.sipush 360, 3) := by decide +kernel
theorem d_M_init_34 : decode b_M_init 34 = .ok (.newarray .int, 2) := by decide +kernel
theorem d_M_init_36 : decode b_M_init 36 = .ok (.putfield 20, 3) := by decide +kernel
theorem d_M_init_39 : decode b_M_init 39 = .ok (.aload_n 0, 1) := by decide +kernel
theorem d_M_init_40 : decode b_M_init 40 = .ok (.sipush 2880, 3) := by decide +kernel
theorem d_M_init_43 : decode b_M_init 43 = .ok (.newarray .long, 2) := by decide +kernel
theorem d_M_init_45 : decode b_M_init 45 = .ok (.putfield 23, 3) := by decide +kernel
theorem d_M_init_48 : decode b_M_init 48 = .ok (.aload_n 0, 1) := by decide +kernel
theorem d_M_init_49 : decode b_M_init 49 = .ok (.sipush 2880, 3) := by decide +kernel
theorem d_M_init_52 : decode b_M_init 52 = .ok (.newarray .long, 2) := by decide +kernel
theorem d_M_init_54 : decode b_M_init 54 = .ok (.putfield 26, 3) := by decide +kernel
theorem d_M_init_57 : decode b_M_init 57 = .ok (.aload_n 0, 1) := by decide +kernel
theorem d_M_init_58 : decode b_M_init 58 = .ok (.bipush 8, 2) := by decide +kernel
theorem d_M_init_60 : decode b_M_init 60 = .ok (.newarray .long, 2) := by decide +kernel
theorem d_M_init_62 : decode b_M_init 62 = .ok (.putfield 29, 3) := by decide +kernel
theorem d_M_init_65 : decode b_M_init 65 = .ok (.aload_n 0, 1) := by decide +kernel
theorem d_M_init_66 : decode b_M_init 66 = .ok (.bipush 8, 2) := by decide +kernel
theorem d_M_init_68 : decode b_M_init 68 = .ok (.newarray .long, 2) := by decide +kernel
theorem d_M_init_70 : decode b_M_init 70 = .ok (.putfield 32, 3) := by decide +kernel
theorem d_M_init_73 : decode b_M_init 73 = .ok (.aload_n 0, 1) := by decide +kernel
theorem d_M_init_74 : decode b_M_init 74 = .ok (.bipush 30, 2) := by decide +kernel
theorem d_M_init_76 : decode b_M_init 76 = .ok (.newarray .int, 2) := by decide +kernel
theorem d_M_init_78 : decode b_M_init 78 = .ok (.putfield 35, 3) := by decide +kernel
theorem d_M_init_81 : decode b_M_init 81 = .ok (.aload_n 0, 1) := by decide +kernel
theorem d_M_init_82 : decode b_M_init 82 = .ok (.bipush 30, 2) := by decide +kernel
theorem d_M_init_84 : decode b_M_init 84 = .ok (.newarray .long, 2) := by decide +kernel
theorem d_M_init_86 : decode b_M_init 86 = .ok (.putfield 38, 3) := by decide +kernel
theorem d_M_init_89 : decode b_M_init 89 = .ok (.aload_n 0, 1) := by decide +kernel
theorem d_M_init_90 : decode b_M_init 90 = .ok (.bipush 30, 2) := by decide +kernel
theorem d_M_init_92 : decode b_M_init 92 = .ok (.newarray .long, 2) := by decide +kernel
theorem d_M_init_94 : decode b_M_init 94 = .ok (.putfield 41, 3) := by decide +kernel
theorem d_M_init_97 : decode b_M_init 97 = .ok (.aload_n 0, 1) := by decide +kernel
theorem d_M_init_98 : decode b_M_init 98 = .ok (.bipush 30, 2) := by decide +kernel
theorem d_M_init_100 : decode b_M_init 100 = .ok (.newarray .int, 2) := by decide +kernel
theorem d_M_init_102 : decode b_M_init 102 = .ok (.putfield 44, 3) := by decide +kernel
theorem d_M_init_105 : decode b_M_init 105 = .ok (.aload_n 0, 1) := by decide +kernel
theorem d_M_init_106 : decode b_M_init 106 = .ok (.bipush 30, 2) := by decide +kernel
theorem d_M_init_108 : decode b_M_init 108 = .ok (.newarray .int, 2) := by decide +kernel
theorem d_M_init_110 : decode b_M_init 110 = .ok (.putfield 47, 3) := by decide +kernel
theorem d_M_init_113 : decode b_M_init 113 = .ok (.aload_n 0, 1) := by decide +kernel
theorem d_M_init_114 : decode b_M_init 114 = .ok (.bipush 60, 2) := by decide +kernel
theorem d_M_init_116 : decode b_M_init 116 = .ok (.newarray .long, 2) := by decide +kernel
theorem d_M_init_118 : decode b_M_init 118 = .ok (.putfield 50, 3) := by decide +kernel
theorem d_M_init_121 : decode b_M_init 121 = .ok (.aload_n 0, 1) := by decide +kernel
theorem d_M_init_122 : decode b_M_init 122 = .ok (.iconst 2, 1) := by decide +kernel
theorem d_M_init_123 : decode b_M_init 123 = .ok (.newarray .int, 2) := by decide +kernel
theorem d_M_init_125 : decode b_M_init 125 = .ok (.putfield 53, 3) := by decide +kernel
theorem d_M_init_128 : decode b_M_init 128 = .ok (.aload_n 0, 1) := by decide +kernel
theorem d_M_init_129 : decode b_M_init 129 = .ok (.iconst 2, 1) := by decide +kernel
theorem d_M_init_130 : decode b_M_init 130 = .ok (.newarray .int, 2) := by decide +kernel
theorem d_M_init_132 : decode b_M_init 132 = .ok (.putfield 56, 3) := by decide +kernel
theorem d_M_init_135 : decode b_M_init 135 = .ok (.aload_n 0, 1) := by decide +kernel
theorem d_M_init_136 : decode b_M_init 136 = .ok (.bipush 16, 2) := by decide +kernel
theorem d_M_init_138 : decode b_M_init 138 = .ok (.newarray .long, 2) := by decide +kernel
theorem d_M_init_140 : decode b_M_init 140 = .ok (.putfield 59, 3) := by decide +kernel
theorem d_M_init_143 : decode b_M_init 143 = .ok (.aload_n 0, 1) := by decide +kernel
theorem d_M_init_144 : decode b_M_init 144 = .ok (.bipush 16, 2) := by decide +kernel
theorem d_M_init_146 : decode b_M_init 146 = .ok (.newarray .long, 2) := by decide +kernel
theorem d_M_init_148 : decode b_M_init 148 = .ok (.putfield 62, 3) := by decide +kernel
theorem d_M_init_151 : decode b_M_init 151 = .ok (.aload_n 0, 1) := by decide +kernel
theorem d_M_init_152 : decode b_M_init 152 = .ok (.iconst 2, 1) := by decide +kernel
theorem d_M_init_153 : decode b_M_init 153 = .ok (.newarray .long, 2) := by decide +kernel
theorem d_M_init_155 : decode b_M_init 155 = .ok (.putfield 65, 3) := by decide +kernel
theorem d_M_init_158 : decode b_M_init 158 = .ok (.aload_n 0, 1) := by decide +kernel
theorem d_M_init_159 : decode b_M_init 159 = .ok (.iconst 2, 1) := by decide +kernel
theorem d_M_init_160 : decode b_M_init 160 = .ok (.newarray .long, 2) := by decide +kernel
theorem d_M_init_162 : decode b_M_init 162 = .ok (.putfield 68, 3) := by decide +kernel
theorem d_M_init_165 : decode b_M_init 165 = .ok (.aload_n 0, 1) := by decide +kernel
theorem d_M_init_166 : decode b_M_init 166 = .ok (.iconst 2, 1) := by decide +kernel
theorem d_M_init_167 : decode b_M_init 167 = .ok (.newarray .long, 2) := by decide +kernel
theorem d_M_init_169 : decode b_M_init 169 = .ok (.putfield 71, 3) := by decide +kernel
theorem d_M_init_172 : decode b_M_init 172 = .ok (.aload_n 0, 1) := by decide +kernel
theorem d_M_init_173 : decode b_M_init 173 = .ok (.lload_n 1, 1) := by decide +kernel
theorem d_M_init_174 : decode b_M_init 174 = .ok (.lconst 0, 1) := by decide +kernel
theorem d_M_init_175 : decode b_M_init 175 = .ok (.lcmp, 1) := by decide +kernel
theorem d_M_init_176 : decode b_M_init 176 = .ok (.ifCond .ge 7, 3) := by decide +kernel
theorem d_M_init_179 : decode b_M_init 179 = .ok (.lconst 0, 1) := by decide +kernel
theorem d_M_init_180 : decode b_M_init 180 = .ok (.goto 18, 3) := by decide +kernel
theorem d_M_init_183 : decode b_M_init 183 = .ok (.lload_n 1, 1) := by decide +kernel
theorem d_M_init_184 : decode b_M_init 184 = .ok (.ldc2_w 74, 3) := by decide +kernel
theorem d_M_init_187 : decode b_M_init 187 = .ok (.lcmp, 1) := by decide +kernel
theorem d_M_init_188 : decode b_M_init 188 = .ok (.ifCond .le 9, 3) := by decide +kernel
theorem d_M_init_191 : decode b_M_init 191 = .ok (.ldc2_w 74, 3) := by decide +kernel
theorem d_M_init_194 : decode b_M_init 194 = .ok (.goto 4, 3) := by decide +kernel
theorem d_M_init_197 : decode b_M_init 197 = .ok (.lload_n 1, 1) := by decide +kernel
theorem d_M_init_198 : decode b_M_init 198 = .ok (.putfield 76, 3) := by decide +kernel
theorem d_M_init_201 : decode b_M_init 201 = .ok (.return_, 1) := by decide +kernel
abbrev rm_M_init : Room := { frames := 1, cells := 21, slots := 8938, locals := 22 }
theorem ce_M_init : gCe y_M_init (.code y_M_init b_M_init 3 none) 3 1 false := gCe.code wd_783 wd_57 wd_782 (by decide) (by decide +kernel)
def f_M_init (g0 : gG) (a0 : Nat) (p1 : Int64) (w : gW) : gX Unit := gb2f (gna w 0 30 30 (.int 0)) fun o1 w => (gp w a0 7 3 (.ref o1)).bind fun w => gb2f (gna w 0 360 360 (.int 0)) fun o4 w => (gp w a0 7 4 (.ref o4)).bind fun w => gb2f (gna w 1 2160 2160 (.long 0)) fun o7 w => (gp w a0 7 5 (.ref o7)).bind fun w => gb2f (gna w 0 360 360 (.int 0)) fun o10 w => (gp w a0 7 6 (.ref o10)).bind fun w => gb2f (gna w 1 2880 2880 (.long 0)) fun o13 w => (gp w a0 7 7 (.ref o13)).bind fun w => gb2f (gna w 1 2880 2880 (.long 0)) fun o16 w => (gp w a0 7 8 (.ref o16)).bind fun w => gb2f (gna w 1 8 8 (.long 0)) fun o19 w => (gp w a0 7 10 (.ref o19)).bind fun w => gb2f (gna w 1 8 8 (.long 0)) fun o22 w => (gp w a0 7 11 (.ref o22)).bind fun w => gb2f (gna w 0 30 30 (.int 0)) fun o25 w => (gp w a0 7 13 (.ref o25)).bind fun w => gb2f (gna w 1 30 30 (.long 0)) fun o28 w => (gp w a0 7 14 (.ref o28)).bind fun w => gb2f (gna w 1 30 30 (.long 0)) fun o31 w => (gp w a0 7 15 (.ref o31)).bind fun w => gb2f (gna w 0 30 30 (.int 0)) fun o34 w => (gp w a0 7 16 (.ref o34)).bind fun w => gb2f (gna w 0 30 30 (.int 0)) fun o37 w => (gp w a0 7 17 (.ref o37)).bind fun w => gb2f (gna w 1 60 60 (.long 0)) fun o40 w => (gp w a0 7 19 (.ref o40)).bind fun w => gb2f (gna w 0 2 2 (.int 0)) fun o43 w => (gp w a0 7 20 (.ref o43)).bind fun w => gb2f (gna w 0 2 2 (.int 0)) fun o46 w => (gp w a0 7 21 (.ref o46)).bind fun w => gb2f (gna w 1 16 16 (.long 0)) fun o49 w => (gp w a0 7 22 (.ref o49)).bind fun w => gb2f (gna w 1 16 16 (.long 0)) fun o52 w => (gp w a0 7 23 (.ref o52)).bind fun w => gb2f (gna w 1 2 2 (.long 0)) fun o55 w => (gp w a0 7 24 (.ref o55)).bind fun w => gb2f (gna w 1 2 2 (.long 0)) fun o58 w => (gp w a0 7 25 (.ref o58)).bind fun w => gb2f (gna w 1 2 2 (.long 0)) fun o61 w => (gp w a0 7 26 (.ref o61)).bind fun w => gjoin (fun K198 => if 0 ≤ p1 then (if p1 ≤ 1000 then (K198 p1 w) else (K198 1000 w)) else (K198 0 w)) (fun (y64 : Int64) (w : gW) => (gp w a0 7 1 (.long y64)).bind fun w => some (.inr (), w))
set_option maxHeartbeats 4000000 in
set_option maxRecDepth 100000 in
theorem m_M_init (l : Launch) (hst : l.stackTraces = false) (D : gD) (g0 : gG) (a0 : Nat) (p1 : Int64) (w : gW) (r : (String ⊕ Unit) × gW) (h : f_M_init g0 a0 p1 w = some r) : gMet l y_M_init (.code y_M_init b_M_init 3 none) rm_M_init D g0 [.ref a0, .long p1] w (goV r) := by
  refine gw_ofV (by decide +kernel) (Nat.le_of_ble_eq_true rfl) ?_
  intro p e s m below meth c ls args A Q hx hb hml hown hlocks hin hnt hT hK hZ hA hret hexc hthr hI hl
  obtain ⟨H, hH⟩ : ∃ H, H = s.heap := ⟨_, rfl⟩
  rw [← hH] at hI ⊢
  obtain ⟨locs, hlocs⟩ : ∃ z : List Loc, z = [] := ⟨_, rfl⟩
  rw [← hlocs] at hI ⊢
  have hl : lv_has ls 3 [(0, .ref a0), (1, .long p1)] := hl
  unfold f_M_init at h
  refine lv_aload_n hx hb d_M_init_0 rfl (lv_at hl 0 rfl) ?_
  refine W.objInit hx hb hown (hT _ wd_784 args) (hT _ wd_78 args) (hT _ wd_79 args) rfl (by rw [hml]; exact hl.1) rfl d_M_init_1 (Nat.le_of_ble_eq_true rfl) (Nat.le_of_ble_eq_true rfl) ?_
  refine W.eq (g2 := F0 m 4 ls []) rfl ?_
  refine lv_aload_n hx hb d_M_init_4 rfl (lv_at hl 0 rfl) ?_
  refine lv_bipush (v := 30) hx hb d_M_init_5 (by decide) ?_
  obtain ⟨o1, w, e2, h⟩ := gb2 h
  refine gw_newa (atype := .int) (ty := .int) (M := 30) hx hb hK hI hA (hT _ wd_179 args) rfl (k := 0) rfl (fun h9 => h9) e2 (show 0 + 1 ≤ 21 by omega) (show 0 + 30 ≤ 8938 by omega) (show 30 * 4 ≤ 536870912 by omega) d_M_init_7 (fun H hI => ?_)
  refine W.widen (k := 1) (n := 30) (show 0 + 1 ≤ 1 by omega) (show 0 + 30 ≤ 30 by omega) ?_
  obtain ⟨w, e3, h⟩ := gb h
  refine gw_putF hx hb hT hown hK hI (ci := 7) rfl i_7 t_7 t_7_ok n_7 3 (by decide) wd_789 (fun _ h9 => h9) rfl hin rfl (ty := .array .int) (by decide +kernel) rfl rfl e3 d_M_init_9 (fun H locs hI => ?_)
  refine lv_aload_n hx hb d_M_init_12 rfl (lv_at hl 0 rfl) ?_
  refine lv_sipush (v := 360) hx hb d_M_init_13 (by decide) ?_
  obtain ⟨o4, w, e5, h⟩ := gb2 h
  refine gw_newa (atype := .int) (ty := .int) (M := 360) hx hb hK hI hA (hT _ wd_179 args) rfl (k := 0) rfl (fun h9 => h9) e5 (show 1 + 1 ≤ 21 by omega) (show 30 + 360 ≤ 8938 by omega) (show 360 * 4 ≤ 536870912 by omega) d_M_init_16 (fun H hI => ?_)
  refine W.widen (k := 2) (n := 390) (show 1 + 1 ≤ 2 by omega) (show 30 + 360 ≤ 390 by omega) ?_
  obtain ⟨w, e6, h⟩ := gb h
  refine gw_putF hx hb hT hown hK hI (ci := 7) rfl i_7 t_7 t_7_ok n_7 4 (by decide) wd_790 (fun _ h9 => h9) rfl hin rfl (ty := .array .int) (by decide +kernel) rfl rfl e6 d_M_init_18 (fun H locs hI => ?_)
  refine lv_aload_n hx hb d_M_init_21 rfl (lv_at hl 0 rfl) ?_
  refine lv_sipush (v := 2160) hx hb d_M_init_22 (by decide) ?_
  obtain ⟨o7, w, e8, h⟩ := gb2 h
  refine gw_newa (atype := .long) (ty := .long) (M := 2160) hx hb hK hI hA (hT _ wd_178 args) rfl (k := 1) rfl (fun h9 => h9) e8 (show 2 + 1 ≤ 21 by omega) (show 390 + 2160 ≤ 8938 by omega) (show 2160 * 8 ≤ 536870912 by omega) d_M_init_25 (fun H hI => ?_)
  refine W.widen (k := 3) (n := 2550) (show 2 + 1 ≤ 3 by omega) (show 390 + 2160 ≤ 2550 by omega) ?_
  obtain ⟨w, e9, h⟩ := gb h
  refine gw_putF hx hb hT hown hK hI (ci := 7) rfl i_7 t_7 t_7_ok n_7 5 (by decide) wd_791 (fun _ h9 => h9) rfl hin rfl (ty := .array .long) (by decide +kernel) rfl rfl e9 d_M_init_27 (fun H locs hI => ?_)
  refine lv_aload_n hx hb d_M_init_30 rfl (lv_at hl 0 rfl) ?_
  refine lv_sipush (v := 360) hx hb d_M_init_31 (by decide) ?_
  obtain ⟨o10, w, e11, h⟩ := gb2 h
  refine gw_newa (atype := .int) (ty := .int) (M := 360) hx hb hK hI hA (hT _ wd_179 args) rfl (k := 0) rfl (fun h9 => h9) e11 (show 3 + 1 ≤ 21 by omega) (show 2550 + 360 ≤ 8938 by omega) (show 360 * 4 ≤ 536870912 by omega) d_M_init_34 (fun H hI => ?_)
  refine W.widen (k := 4) (n := 2910) (show 3 + 1 ≤ 4 by omega) (show 2550 + 360 ≤ 2910 by omega) ?_
  obtain ⟨w, e12, h⟩ := gb h
  refine gw_putF hx hb hT hown hK hI (ci := 7) rfl i_7 t_7 t_7_ok n_7 6 (by decide) wd_792 (fun _ h9 => h9) rfl hin rfl (ty := .array .int) (by decide +kernel) rfl rfl e12 d_M_init_36 (fun H locs hI => ?_)
  refine lv_aload_n hx hb d_M_init_39 rfl (lv_at hl 0 rfl) ?_
  refine lv_sipush (v := 2880) hx hb d_M_init_40 (by decide) ?_
  obtain ⟨o13, w, e14, h⟩ := gb2 h
  refine gw_newa (atype := .long) (ty := .long) (M := 2880) hx hb hK hI hA (hT _ wd_178 args) rfl (k := 1) rfl (fun h9 => h9) e14 (show 4 + 1 ≤ 21 by omega) (show 2910 + 2880 ≤ 8938 by omega) (show 2880 * 8 ≤ 536870912 by omega) d_M_init_43 (fun H hI => ?_)
  refine W.widen (k := 5) (n := 5790) (show 4 + 1 ≤ 5 by omega) (show 2910 + 2880 ≤ 5790 by omega) ?_
  obtain ⟨w, e15, h⟩ := gb h
  refine gw_putF hx hb hT hown hK hI (ci := 7) rfl i_7 t_7 t_7_ok n_7 7 (by decide) wd_793 (fun _ h9 => h9) rfl hin rfl (ty := .array .long) (by decide +kernel) rfl rfl e15 d_M_init_45 (fun H locs hI => ?_)
  refine lv_aload_n hx hb d_M_init_48 rfl (lv_at hl 0 rfl) ?_
  refine lv_sipush (v := 2880) hx hb d_M_init_49 (by decide) ?_
  obtain ⟨o16, w, e17, h⟩ := gb2 h
  refine gw_newa (atype := .long) (ty := .long) (M := 2880) hx hb hK hI hA (hT _ wd_178 args) rfl (k := 1) rfl (fun h9 => h9) e17 (show 5 + 1 ≤ 21 by omega) (show 5790 + 2880 ≤ 8938 by omega) (show 2880 * 8 ≤ 536870912 by omega) d_M_init_52 (fun H hI => ?_)
  refine W.widen (k := 6) (n := 8670) (show 5 + 1 ≤ 6 by omega) (show 5790 + 2880 ≤ 8670 by omega) ?_
  obtain ⟨w, e18, h⟩ := gb h
  refine gw_putF hx hb hT hown hK hI (ci := 7) rfl i_7 t_7 t_7_ok n_7 8 (by decide) wd_794 (fun _ h9 => h9) rfl hin rfl (ty := .array .long) (by decide +kernel) rfl rfl e18 d_M_init_54 (fun H locs hI => ?_)
  refine lv_aload_n hx hb d_M_init_57 rfl (lv_at hl 0 rfl) ?_
  refine lv_bipush (v := 8) hx hb d_M_init_58 (by decide) ?_
  obtain ⟨o19, w, e20, h⟩ := gb2 h
  refine gw_newa (atype := .long) (ty := .long) (M := 8) hx hb hK hI hA (hT _ wd_178 args) rfl (k := 1) rfl (fun h9 => h9) e20 (show 6 + 1 ≤ 21 by omega) (show 8670 + 8 ≤ 8938 by omega) (show 8 * 8 ≤ 536870912 by omega) d_M_init_60 (fun H hI => ?_)
  refine W.widen (k := 7) (n := 8678) (show 6 + 1 ≤ 7 by omega) (show 8670 + 8 ≤ 8678 by omega) ?_
  obtain ⟨w, e21, h⟩ := gb h
  refine gw_putF hx hb hT hown hK hI (ci := 7) rfl i_7 t_7 t_7_ok n_7 10 (by decide) wd_796 (fun _ h9 => h9) rfl hin rfl (ty := .array .long) (by decide +kernel) rfl rfl e21 d_M_init_62 (fun H locs hI => ?_)
  refine lv_aload_n hx hb d_M_init_65 rfl (lv_at hl 0 rfl) ?_
  refine lv_bipush (v := 8) hx hb d_M_init_66 (by decide) ?_
  obtain ⟨o22, w, e23, h⟩ := gb2 h
  refine gw_newa (atype := .long) (ty := .long) (M := 8) hx hb hK hI hA (hT _ wd_178 args) rfl (k := 1) rfl (fun h9 => h9) e23 (show 7 + 1 ≤ 21 by omega) (show 8678 + 8 ≤ 8938 by omega) (show 8 * 8 ≤ 536870912 by omega) d_M_init_68 (fun H hI => ?_)
  refine W.widen (k := 8) (n := 8686) (show 7 + 1 ≤ 8 by omega) (show 8678 + 8 ≤ 8686 by omega) ?_
  obtain ⟨w, e24, h⟩ := gb h
  refine gw_putF hx hb hT hown hK hI (ci := 7) rfl i_7 t_7 t_7_ok n_7 11 (by decide) wd_797 (fun _ h9 => h9) rfl hin rfl (ty := .array .long) (by decide +kernel) rfl rfl e24 d_M_init_70 (fun H locs hI => ?_)
  refine lv_aload_n hx hb d_M_init_73 rfl (lv_at hl 0 rfl) ?_
  refine lv_bipush (v := 30) hx hb d_M_init_74 (by decide) ?_
  obtain ⟨o25, w, e26, h⟩ := gb2 h
  refine gw_newa (atype := .int) (ty := .int) (M := 30) hx hb hK hI hA (hT _ wd_179 args) rfl (k := 0) rfl (fun h9 => h9) e26 (show 8 + 1 ≤ 21 by omega) (show 8686 + 30 ≤ 8938 by omega) (show 30 * 4 ≤ 536870912 by omega) d_M_init_76 (fun H hI => ?_)
  refine W.widen (k := 9) (n := 8716) (show 8 + 1 ≤ 9 by omega) (show 8686 + 30 ≤ 8716 by omega) ?_
  obtain ⟨w, e27, h⟩ := gb h
  refine gw_putF hx hb hT hown hK hI (ci := 7) rfl i_7 t_7 t_7_ok n_7 13 (by decide) wd_799 (fun _ h9 => h9) rfl hin rfl (ty := .array .int) (by decide +kernel) rfl rfl e27 d_M_init_78 (fun H locs hI => ?_)
  refine lv_aload_n hx hb d_M_init_81 rfl (lv_at hl 0 rfl) ?_
  refine lv_bipush (v := 30) hx hb d_M_init_82 (by decide) ?_
  obtain ⟨o28, w, e29, h⟩ := gb2 h
  refine gw_newa (atype := .long) (ty := .long) (M := 30) hx hb hK hI hA (hT _ wd_178 args) rfl (k := 1) rfl (fun h9 => h9) e29 (show 9 + 1 ≤ 21 by omega) (show 8716 + 30 ≤ 8938 by omega) (show 30 * 8 ≤ 536870912 by omega) d_M_init_84 (fun H hI => ?_)
  refine W.widen (k := 10) (n := 8746) (show 9 + 1 ≤ 10 by omega) (show 8716 + 30 ≤ 8746 by omega) ?_
  obtain ⟨w, e30, h⟩ := gb h
  refine gw_putF hx hb hT hown hK hI (ci := 7) rfl i_7 t_7 t_7_ok n_7 14 (by decide) wd_800 (fun _ h9 => h9) rfl hin rfl (ty := .array .long) (by decide +kernel) rfl rfl e30 d_M_init_86 (fun H locs hI => ?_)
  refine lv_aload_n hx hb d_M_init_89 rfl (lv_at hl 0 rfl) ?_
  refine lv_bipush (v := 30) hx hb d_M_init_90 (by decide) ?_
  obtain ⟨o31, w, e32, h⟩ := gb2 h
  refine gw_newa (atype := .long) (ty := .long) (M := 30) hx hb hK hI hA (hT _ wd_178 args) rfl (k := 1) rfl (fun h9 => h9) e32 (show 10 + 1 ≤ 21 by omega) (show 8746 + 30 ≤ 8938 by omega) (show 30 * 8 ≤ 536870912 by omega) d_M_init_92 (fun H hI => ?_)
  refine W.widen (k := 11) (n := 8776) (show 10 + 1 ≤ 11 by omega) (show 8746 + 30 ≤ 8776 by omega) ?_
  obtain ⟨w, e33, h⟩ := gb h
  refine gw_putF hx hb hT hown hK hI (ci := 7) rfl i_7 t_7 t_7_ok n_7 15 (by decide) wd_801 (fun _ h9 => h9) rfl hin rfl (ty := .array .long) (by decide +kernel) rfl rfl e33 d_M_init_94 (fun H locs hI => ?_)
  refine lv_aload_n hx hb d_M_init_97 rfl (lv_at hl 0 rfl) ?_
  refine lv_bipush (v := 30) hx hb d_M_init_98 (by decide) ?_
  obtain ⟨o34, w, e35, h⟩ := gb2 h
  refine gw_newa (atype := .int) (ty := .int) (M := 30) hx hb hK hI hA (hT _ wd_179 args) rfl (k := 0) rfl (fun h9 => h9) e35 (show 11 + 1 ≤ 21 by omega) (show 8776 + 30 ≤ 8938 by omega) (show 30 * 4 ≤ 536870912 by omega) d_M_init_100 (fun H hI => ?_)
  refine W.widen (k := 12) (n := 8806) (show 11 + 1 ≤ 12 by omega) (show 8776 + 30 ≤ 8806 by omega) ?_
  obtain ⟨w, e36, h⟩ := gb h
  refine gw_putF hx hb hT hown hK hI (ci := 7) rfl i_7 t_7 t_7_ok n_7 16 (by decide) wd_802 (fun _ h9 => h9) rfl hin rfl (ty := .array .int) (by decide +kernel) rfl rfl e36 d_M_init_102 (fun H locs hI => ?_)
  refine lv_aload_n hx hb d_M_init_105 rfl (lv_at hl 0 rfl) ?_
  refine lv_bipush (v := 30) hx hb d_M_init_106 (by decide) ?_
  obtain ⟨o37, w, e38, h⟩ := gb2 h
  refine gw_newa (atype := .int) (ty := .int) (M := 30) hx hb hK hI hA (hT _ wd_179 args) rfl (k := 0) rfl (fun h9 => h9) e38 (show 12 + 1 ≤ 21 by omega) (show 8806 + 30 ≤ 8938 by omega) (show 30 * 4 ≤ 536870912 by omega) d_M_init_108 (fun H hI => ?_)
  refine W.widen (k := 13) (n := 8836) (show 12 + 1 ≤ 13 by omega) (show 8806 + 30 ≤ 8836 by omega) ?_
  obtain ⟨w, e39, h⟩ := gb h
  refine gw_putF hx hb hT hown hK hI (ci := 7) rfl i_7 t_7 t_7_ok n_7 17 (by decide) wd_803 (fun _ h9 => h9) rfl hin rfl (ty := .array .int) (by decide +kernel) rfl rfl e39 d_M_init_110 (fun H locs hI => ?_)
  refine lv_aload_n hx hb d_M_init_113 rfl (lv_at hl 0 rfl) ?_
  refine lv_bipush (v := 60) hx hb d_M_init_114 (by decide) ?_
  obtain ⟨o40, w, e41, h⟩ := gb2 h
  refine gw_newa (atype := .long) (ty := .long) (M := 60) hx hb hK hI hA (hT _ wd_178 args) rfl (k := 1) rfl (fun h9 => h9) e41 (show 13 + 1 ≤ 21 by omega) (show 8836 + 60 ≤ 8938 by omega) (show 60 * 8 ≤ 536870912 by omega) d_M_init_116 (fun H hI => ?_)
  refine W.widen (k := 14) (n := 8896) (show 13 + 1 ≤ 14 by omega) (show 8836 + 60 ≤ 8896 by omega) ?_
  obtain ⟨w, e42, h⟩ := gb h
  refine gw_putF hx hb hT hown hK hI (ci := 7) rfl i_7 t_7 t_7_ok n_7 19 (by decide) wd_805 (fun _ h9 => h9) rfl hin rfl (ty := .array .long) (by decide +kernel) rfl rfl e42 d_M_init_118 (fun H locs hI => ?_)
  refine lv_aload_n hx hb d_M_init_121 rfl (lv_at hl 0 rfl) ?_
  refine lv_iconst (v := 2) hx hb d_M_init_122 (by decide) ?_
  obtain ⟨o43, w, e44, h⟩ := gb2 h
  refine gw_newa (atype := .int) (ty := .int) (M := 2) hx hb hK hI hA (hT _ wd_179 args) rfl (k := 0) rfl (fun h9 => h9) e44 (show 14 + 1 ≤ 21 by omega) (show 8896 + 2 ≤ 8938 by omega) (show 2 * 4 ≤ 536870912 by omega) d_M_init_123 (fun H hI => ?_)
  refine W.widen (k := 15) (n := 8898) (show 14 + 1 ≤ 15 by omega) (show 8896 + 2 ≤ 8898 by omega) ?_
  obtain ⟨w, e45, h⟩ := gb h
  refine gw_putF hx hb hT hown hK hI (ci := 7) rfl i_7 t_7 t_7_ok n_7 20 (by decide) wd_806 (fun _ h9 => h9) rfl hin rfl (ty := .array .int) (by decide +kernel) rfl rfl e45 d_M_init_125 (fun H locs hI => ?_)
  refine lv_aload_n hx hb d_M_init_128 rfl (lv_at hl 0 rfl) ?_
  refine lv_iconst (v := 2) hx hb d_M_init_129 (by decide) ?_
  obtain ⟨o46, w, e47, h⟩ := gb2 h
  refine gw_newa (atype := .int) (ty := .int) (M := 2) hx hb hK hI hA (hT _ wd_179 args) rfl (k := 0) rfl (fun h9 => h9) e47 (show 15 + 1 ≤ 21 by omega) (show 8898 + 2 ≤ 8938 by omega) (show 2 * 4 ≤ 536870912 by omega) d_M_init_130 (fun H hI => ?_)
  refine W.widen (k := 16) (n := 8900) (show 15 + 1 ≤ 16 by omega) (show 8898 + 2 ≤ 8900 by omega) ?_
  obtain ⟨w, e48, h⟩ := gb h
  refine gw_putF hx hb hT hown hK hI (ci := 7) rfl i_7 t_7 t_7_ok n_7 21 (by decide) wd_807 (fun _ h9 => h9) rfl hin rfl (ty := .array .int) (by decide +kernel) rfl rfl e48 d_M_init_132 (fun H locs hI => ?_)
  refine lv_aload_n hx hb d_M_init_135 rfl (lv_at hl 0 rfl) ?_
  refine lv_bipush (v := 16) hx hb d_M_init_136 (by decide) ?_
  obtain ⟨o49, w, e50, h⟩ := gb2 h
  refine gw_newa (atype := .long) (ty := .long) (M := 16) hx hb hK hI hA (hT _ wd_178 args) rfl (k := 1) rfl (fun h9 => h9) e50 (show 16 + 1 ≤ 21 by omega) (show 8900 + 16 ≤ 8938 by omega) (show 16 * 8 ≤ 536870912 by omega) d_M_init_138 (fun H hI => ?_)
  refine W.widen (k := 17) (n := 8916) (show 16 + 1 ≤ 17 by omega) (show 8900 + 16 ≤ 8916 by omega) ?_
  obtain ⟨w, e51, h⟩ := gb h
  refine gw_putF hx hb hT hown hK hI (ci := 7) rfl i_7 t_7 t_7_ok n_7 22 (by decide) wd_808 (fun _ h9 => h9) rfl hin rfl (ty := .array .long) (by decide +kernel) rfl rfl e51 d_M_init_140 (fun H locs hI => ?_)
  refine lv_aload_n hx hb d_M_init_143 rfl (lv_at hl 0 rfl) ?_
  refine lv_bipush (v := 16) hx hb d_M_init_144 (by decide) ?_
  obtain ⟨o52, w, e53, h⟩ := gb2 h
  refine gw_newa (atype := .long) (ty := .long) (M := 16) hx hb hK hI hA (hT _ wd_178 args) rfl (k := 1) rfl (fun h9 => h9) e53 (show 17 + 1 ≤ 21 by omega) (show 8916 + 16 ≤ 8938 by omega) (show 16 * 8 ≤ 536870912 by omega) d_M_init_146 (fun H hI => ?_)
  refine W.widen (k := 18) (n := 8932) (show 17 + 1 ≤ 18 by omega) (show 8916 + 16 ≤ 8932 by omega) ?_
  obtain ⟨w, e54, h⟩ := gb h
  refine gw_putF hx hb hT hown hK hI (ci := 7) rfl i_7 t_7 t_7_ok n_7 23 (by decide) wd_809 (fun _ h9 => h9) rfl hin rfl (ty := .array .long) (by decide +kernel) rfl rfl e54 d_M_init_148 (fun H locs hI => ?_)
  refine lv_aload_n hx hb d_M_init_151 rfl (lv_at hl 0 rfl) ?_
  refine lv_iconst (v := 2) hx hb d_M_init_152 (by decide) ?_
  obtain ⟨o55, w, e56, h⟩ := gb2 h
  refine gw_newa (atype := .long) (ty := .long) (M := 2) hx hb hK hI hA (hT _ wd_178 args) rfl (k := 1) rfl (fun h9 => h9) e56 (show 18 + 1 ≤ 21 by omega) (show 8932 + 2 ≤ 8938 by omega) (show 2 * 8 ≤ 536870912 by omega) d_M_init_153 (fun H hI => ?_)
  refine W.widen (k := 19) (n := 8934) (show 18 + 1 ≤ 19 by omega) (show 8932 + 2 ≤ 8934 by omega) ?_
  obtain ⟨w, e57, h⟩ := gb h
  refine gw_putF hx hb hT hown hK hI (ci := 7) rfl i_7 t_7 t_7_ok n_7 24 (by decide) wd_810 (fun _ h9 => h9) rfl hin rfl (ty := .array .long) (by decide +kernel) rfl rfl e57 d_M_init_155 (fun H locs hI => ?_)
  refine lv_aload_n hx hb d_M_init_158 rfl (lv_at hl 0 rfl) ?_
  refine lv_iconst (v := 2) hx hb d_M_init_159 (by decide) ?_
  obtain ⟨o58, w, e59, h⟩ := gb2 h
  refine gw_newa (atype := .long) (ty := .long) (M := 2) hx hb hK hI hA (hT _ wd_178 args) rfl (k := 1) rfl (fun h9 => h9) e59 (show 19 + 1 ≤ 21 by omega) (show 8934 + 2 ≤ 8938 by omega) (show 2 * 8 ≤ 536870912 by omega) d_M_init_160 (fun H hI => ?_)
  refine W.widen (k := 20) (n := 8936) (show 19 + 1 ≤ 20 by omega) (show 8934 + 2 ≤ 8936 by omega) ?_
  obtain ⟨w, e60, h⟩ := gb h
  refine gw_putF hx hb hT hown hK hI (ci := 7) rfl i_7 t_7 t_7_ok n_7 25 (by decide) wd_811 (fun _ h9 => h9) rfl hin rfl (ty := .array .long) (by decide +kernel) rfl rfl e60 d_M_init_162 (fun H locs hI => ?_)
  refine lv_aload_n hx hb d_M_init_165 rfl (lv_at hl 0 rfl) ?_
  refine lv_iconst (v := 2) hx hb d_M_init_166 (by decide) ?_
  obtain ⟨o61, w, e62, h⟩ := gb2 h
  refine gw_newa (atype := .long) (ty := .long) (M := 2) hx hb hK hI hA (hT _ wd_178 args) rfl (k := 1) rfl (fun h9 => h9) e62 (show 20 + 1 ≤ 21 by omega) (show 8936 + 2 ≤ 8938 by omega) (show 2 * 8 ≤ 536870912 by omega) d_M_init_167 (fun H hI => ?_)
  refine W.widen (k := 21) (n := 8938) (show 20 + 1 ≤ 21 by omega) (show 8936 + 2 ≤ 8938 by omega) ?_
  obtain ⟨w, e63, h⟩ := gb h
  refine gw_putF hx hb hT hown hK hI (ci := 7) rfl i_7 t_7 t_7_ok n_7 26 (by decide) wd_812 (fun _ h9 => h9) rfl hin rfl (ty := .array .long) (by decide +kernel) rfl rfl e63 d_M_init_169 (fun H locs hI => ?_)
  refine lv_aload_n hx hb d_M_init_172 rfl (lv_at hl 0 rfl) ?_
  refine lv_lload_n hx hb d_M_init_173 rfl (lv_at hl 1 rfl) ?_
  refine lv_lconst (v := 0) hx hb d_M_init_174 (by decide) ?_
  refine W.lcmp hx hb d_M_init_175 ?_
  obtain ⟨K198, eK198, h⟩ := gj h
  have hK198 : ∀ (y64 : Int64) (w : gW) (H : Heap) (locs : List Loc) (ls : Array Slot), K198 y64 w = some r → gI D s A w H locs → lv_has ls 3 [] → W p l e rm_M_init s m args below meth c H locs 21 8938 Q (F0 m 198 ls [.long y64, .ref a0]) := by
    intro y64 w H locs ls h hI hl
    have h := gk2 eK198 h
    obtain ⟨w, e65, h⟩ := gb h
    refine gw_putF hx hb hT hown hK hI (ci := 7) rfl i_7 t_7 t_7_ok n_7 1 (by decide) wd_787 (fun _ h9 => h9) rfl hin rfl (ty := .long) (by decide +kernel) rfl rfl e65 d_M_init_198 (fun H locs hI => ?_)
    exact W.widen (show 21 ≤ 21 by omega) (show 8938 ≤ 8938 by omega) (hret _ _ (Option.some.inj h).symm _ _ _ _ d_M_init_201 hI)
  refine lv_if_ge (tgt := 183) hx hb d_M_init_176 (by decide) (fun c66 => ?_) (fun c66 => ?_)
  · have c66 := (lg_cmp_ge _ _).mp c66
    have h := git c66 h
    refine lv_lload_n hx hb d_M_init_183 rfl (lv_at hl 1 rfl) ?_
    refine lv_ldc2 (v := 1000) hx hb hown (hT _ wd_785 args) d_M_init_184 ?_
    refine W.lcmp hx hb d_M_init_187 ?_
    refine lv_if_le (tgt := 197) hx hb d_M_init_188 (by decide) (fun c67 => ?_) (fun c67 => ?_)
    · have c67 := (lg_cmp_le _ _).mp c67
      have h := git c67 h
      refine lv_lload_n hx hb d_M_init_197 rfl (lv_at hl 1 rfl) ?_
      exact hK198 _ w H locs ls h hI (lv_sub hl [] rfl)
    · have c67 := mt (lg_cmp_le _ _).mpr c67
      have h := gie c67 h
      refine lv_ldc2 (v := 1000) hx hb hown (hT _ wd_785 args) d_M_init_191 ?_
      refine lv_goto (tgt := 198) hx hb d_M_init_194 (by decide) ?_
      exact hK198 _ w H locs ls h hI (lv_sub hl [] rfl)
  · have c66 := mt (lg_cmp_ge _ _).mpr c66
    have h := gie c66 h
    refine lv_lconst (v := 0) hx hb d_M_init_179 (by decide) ?_
    refine lv_goto (tgt := 198) hx hb d_M_init_180 (by decide) ?_
    exact hK198 _ w H locs ls h hI (lv_sub hl [] rfl)

abbrev b_M_common : ByteArray := prog_9_method_34_code
def y_M_common : MethodName := ⟨"BodySolidsModel", "common", "(J)I"⟩
theorem d_M_common_0 : decode b_M_common 0 = .ok (.lload_n 0, 1) := by decide +kernel
theorem d_M_common_1 : decode b_M_common 1 = .ok (.lconst 0, 1) := by decide +kernel
theorem d_M_common_2 : decode b_M_common 2 = .ok (.lcmp, 1) := by decide +kernel
theorem d_M_common_3 : decode b_M_common 3 = .ok (.ifCond .ge 7, 3) := by decide +kernel
theorem d_M_common_6 : decode b_M_common 6 = .ok (.iconst 2, 1) := by decide +kernel
theorem d_M_common_7 : decode b_M_common 7 = .ok (.goto 14, 3) := by decide +kernel
theorem d_M_common_10 : decode b_M_common 10 = .ok (.lload_n 0, 1) := by decide +kernel
theorem d_M_common_11 : decode b_M_common 11 = .ok (.lconst 0, 1) := by decide +kernel
theorem d_M_common_12 : decode b_M_common 12 = .ok (.lcmp, 1) := by decide +kernel
theorem d_M_common_13 : decode b_M_common 13 = .ok (.ifCond .ne 7, 3) := by decide +kernel
theorem d_M_common_16 : decode b_M_common 16 = .ok (.iconst 1, 1) := by decide +kernel
theorem d_M_common_17 : decode b_M_common 17 = .ok (.goto 4, 3) := by decide +kernel
theorem d_M_common_20 : decode b_M_common 20 = .ok (.iconst 0, 1) := by decide +kernel
theorem d_M_common_21 : decode b_M_common 21 = .ok (.ireturn, 1) := by decide +kernel
abbrev rm_M_common : Room := { frames := 0, cells := 0, slots := 0, locals := 0 }
theorem ce_M_common : gCe y_M_common (.code y_M_common b_M_common 2 (some .int)) 2 1 true := gCe.code wd_1030 wd_57 wd_1029 (by decide) (by decide +kernel)
def f_M_common (g0 : gG) (p0 : Int64) (w : gW) : gX Int32 := gjoin (fun K21 => if 0 ≤ p0 then (if p0 = 0 then (K21 1 w) else (K21 0 w)) else (K21 2 w)) (fun (y1 : Int32) (w : gW) => some (.inr y1, w))
set_option maxHeartbeats 4000000 in
set_option maxRecDepth 100000 in
theorem m_M_common (l : Launch) (hst : l.stackTraces = false) (D : gD) (g0 : gG) (p0 : Int64) (w : gW) (r : (String ⊕ Int32) × gW) (h : f_M_common g0 p0 w = some r) : gMet l y_M_common (.code y_M_common b_M_common 2 (some .int)) rm_M_common D g0 [.long p0] w (goI r) := by
  refine gw_ofI (by decide +kernel) (Nat.le_of_ble_eq_true rfl) ?_
  intro p e s m below meth c ls args A Q hx hb hml hown hlocks hin hnt hT hK hZ hA hret hexc hthr hI hl
  obtain ⟨H, hH⟩ : ∃ H, H = s.heap := ⟨_, rfl⟩
  rw [← hH] at hI ⊢
  obtain ⟨locs, hlocs⟩ : ∃ z : List Loc, z = [] := ⟨_, rfl⟩
  rw [← hlocs] at hI ⊢
  have hl : lv_has ls 2 [(0, .long p0)] := hl
  unfold f_M_common at h
  refine lv_lload_n hx hb d_M_common_0 rfl (lv_at hl 0 rfl) ?_
  refine lv_lconst (v := 0) hx hb d_M_common_1 (by decide) ?_
  refine W.lcmp hx hb d_M_common_2 ?_
  obtain ⟨K21, eK21, h⟩ := gj h
  have hK21 : ∀ (y1 : Int32) (w : gW) (H : Heap) (locs : List Loc) (ls : Array Slot), K21 y1 w = some r → gI D s A w H locs → lv_has ls 2 [] → W p l e rm_M_common s m args below meth c H locs 0 0 Q (F0 m 21 ls [.int y1]) := by
    intro y1 w H locs ls h hI hl
    have h := gk2 eK21 h
    exact W.widen (show 0 ≤ 0 by omega) (show 0 ≤ 0 by omega) (hret _ _ (Option.some.inj h).symm _ _ _ _ d_M_common_21 hI)
  refine lv_if_ge (tgt := 10) hx hb d_M_common_3 (by decide) (fun c2 => ?_) (fun c2 => ?_)
  · have c2 := (lg_cmp_ge _ _).mp c2
    have h := git c2 h
    refine lv_lload_n hx hb d_M_common_10 rfl (lv_at hl 0 rfl) ?_
    refine lv_lconst (v := 0) hx hb d_M_common_11 (by decide) ?_
    refine W.lcmp hx hb d_M_common_12 ?_
    refine lv_if_ne (tgt := 20) hx hb d_M_common_13 (by decide) (fun c3 => ?_) (fun c3 => ?_)
    · have c3 := mt (lg_cmp_eq _ _).mpr c3
      have h := gie c3 h
      refine lv_iconst (v := 0) hx hb d_M_common_20 (by decide) ?_
      exact hK21 _ w H locs ls h hI (lv_sub hl [] rfl)
    · have c3 := (lg_cmp_eq _ _).mp c3
      have h := git c3 h
      refine lv_iconst (v := 1) hx hb d_M_common_16 (by decide) ?_
      refine lv_goto (tgt := 21) hx hb d_M_common_17 (by decide) ?_
      exact hK21 _ w H locs ls h hI (lv_sub hl [] rfl)
  · have c2 := mt (lg_cmp_ge _ _).mpr c2
    have h := gie c2 h
    refine lv_iconst (v := 2) hx hb d_M_common_6 (by decide) ?_
    refine lv_goto (tgt := 21) hx hb d_M_common_7 (by decide) ?_
    exact hK21 _ w H locs ls h hI (lv_sub hl [] rfl)
