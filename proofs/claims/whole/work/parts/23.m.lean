abbrev b_So_limit : ByteArray := prog_7_method_8_code
def y_So_limit : MethodName := ⟨"BodySolids$Solid", "limit", "(I)J"⟩
theorem d_So_limit_0 : decode b_So_limit 0 = .ok (.iload_n 1, 1) := by decide +kernel
theorem d_So_limit_1 : decode b_So_limit 1 = .ok (.tableswitch 105 0 4 #[35, 50, 65, 75, 90], 35) := by decide +kernel
theorem d_So_limit_36 : decode b_So_limit 36 = .ok (.aload_n 0, 1) := by decide +kernel
theorem d_So_limit_37 : decode b_So_limit 37 = .ok (.getfield 32, 3) := by decide +kernel
theorem d_So_limit_40 : decode b_So_limit 40 = .ok (.aload_n 0, 1) := by decide +kernel
theorem d_So_limit_41 : decode b_So_limit 41 = .ok (.getfield 22, 3) := by decide +kernel
theorem d_So_limit_44 : decode b_So_limit 44 = .ok (.lsub, 1) := by decide +kernel
theorem d_So_limit_45 : decode b_So_limit 45 = .ok (.aload_n 0, 1) := by decide +kernel
theorem d_So_limit_46 : decode b_So_limit 46 = .ok (.getfield 26, 3) := by decide +kernel
theorem d_So_limit_49 : decode b_So_limit 49 = .ok (.lsub, 1) := by decide +kernel
theorem d_So_limit_50 : decode b_So_limit 50 = .ok (.lreturn, 1) := by decide +kernel
theorem d_So_limit_51 : decode b_So_limit 51 = .ok (.aload_n 0, 1) := by decide +kernel
theorem d_So_limit_52 : decode b_So_limit 52 = .ok (.getfield 41, 3) := by decide +kernel
theorem d_So_limit_55 : decode b_So_limit 55 = .ok (.aload_n 0, 1) := by decide +kernel
theorem d_So_limit_56 : decode b_So_limit 56 = .ok (.getfield 22, 3) := by decide +kernel
theorem d_So_limit_59 : decode b_So_limit 59 = .ok (.lsub, 1) := by decide +kernel
theorem d_So_limit_60 : decode b_So_limit 60 = .ok (.aload_n 0, 1) := by decide +kernel
theorem d_So_limit_61 : decode b_So_limit 61 = .ok (.getfield 26, 3) := by decide +kernel
theorem d_So_limit_64 : decode b_So_limit 64 = .ok (.lsub, 1) := by decide +kernel
theorem d_So_limit_65 : decode b_So_limit 65 = .ok (.lreturn, 1) := by decide +kernel
theorem d_So_limit_66 : decode b_So_limit 66 = .ok (.aload_n 0, 1) := by decide +kernel
theorem d_So_limit_67 : decode b_So_limit 67 = .ok (.getfield 57, 3) := by decide +kernel
theorem d_So_limit_70 : decode b_So_limit 70 = .ok (.aload_n 0, 1) := by decide +kernel
theorem d_So_limit_71 : decode b_So_limit 71 = .ok (.getfield 26, 3) := by decide +kernel
theorem d_So_limit_74 : decode b_So_limit 74 = .ok (.lsub, 1) := by decide +kernel
theorem d_So_limit_75 : decode b_So_limit 75 = .ok (.lreturn, 1) := by decide +kernel
theorem d_So_limit_76 : decode b_So_limit 76 = .ok (.aload_n 0, 1) := by decide +kernel
theorem d_So_limit_77 : decode b_So_limit 77 = .ok (.getfield 44, 3) := by decide +kernel
theorem d_So_limit_80 : decode b_So_limit 80 = .ok (.aload_n 0, 1) := by decide +kernel
theorem d_So_limit_81 : decode b_So_limit 81 = .ok (.getfield 22, 3) := by decide +kernel
theorem d_So_limit_84 : decode b_So_limit 84 = .ok (.ladd, 1) := by decide +kernel
theorem d_So_limit_85 : decode b_So_limit 85 = .ok (.aload_n 0, 1) := by decide +kernel
theorem d_So_limit_86 : decode b_So_limit 86 = .ok (.getfield 26, 3) := by decide +kernel
theorem d_So_limit_89 : decode b_So_limit 89 = .ok (.ladd, 1) := by decide +kernel
theorem d_So_limit_90 : decode b_So_limit 90 = .ok (.lreturn, 1) := by decide +kernel
theorem d_So_limit_91 : decode b_So_limit 91 = .ok (.aload_n 0, 1) := by decide +kernel
theorem d_So_limit_92 : decode b_So_limit 92 = .ok (.getfield 50, 3) := by decide +kernel
theorem d_So_limit_95 : decode b_So_limit 95 = .ok (.aload_n 0, 1) := by decide +kernel
theorem d_So_limit_96 : decode b_So_limit 96 = .ok (.getfield 22, 3) := by decide +kernel
theorem d_So_limit_99 : decode b_So_limit 99 = .ok (.ladd, 1) := by decide +kernel
theorem d_So_limit_100 : decode b_So_limit 100 = .ok (.aload_n 0, 1) := by decide +kernel
theorem d_So_limit_101 : decode b_So_limit 101 = .ok (.getfield 26, 3) := by decide +kernel
theorem d_So_limit_104 : decode b_So_limit 104 = .ok (.ladd, 1) := by decide +kernel
theorem d_So_limit_105 : decode b_So_limit 105 = .ok (.lreturn, 1) := by decide +kernel
theorem d_So_limit_106 : decode b_So_limit 106 = .ok (.aload_n 0, 1) := by decide +kernel
theorem d_So_limit_107 : decode b_So_limit 107 = .ok (.getfield 60, 3) := by decide +kernel
theorem d_So_limit_110 : decode b_So_limit 110 = .ok (.aload_n 0, 1) := by decide +kernel
theorem d_So_limit_111 : decode b_So_limit 111 = .ok (.getfield 26, 3) := by decide +kernel
theorem d_So_limit_114 : decode b_So_limit 114 = .ok (.ladd, 1) := by decide +kernel
theorem d_So_limit_115 : decode b_So_limit 115 = .ok (.lreturn, 1) := by decide +kernel
abbrev rm_So_limit : Room := { frames := 0, cells := 0, slots := 0, locals := 0 }
theorem ce_So_limit : gCe y_So_limit (.code y_So_limit b_So_limit 2 (some .long)) 2 1 false := gCe.code wd_755 wd_56 wd_753 (by decide) (by decide +kernel)
def f_So_limit (g0 : gG) (a0 : Nat) (p1 : Int32) (w : gW) : gX Int64 := if p1 = 0 then ((gfJ w a0 3 6).bind fun v2 => (gfJ w a0 3 1).bind fun v4 => (gfJ w a0 3 2).bind fun v6 => some (.inr ((v2 - v4) - v6), w)) else (if p1 = 1 then ((gfJ w a0 3 7).bind fun v9 => (gfJ w a0 3 1).bind fun v11 => (gfJ w a0 3 2).bind fun v13 => some (.inr ((v9 - v11) - v13), w)) else (if p1 = 2 then ((gfJ w a0 3 8).bind fun v16 => (gfJ w a0 3 2).bind fun v18 => some (.inr (v16 - v18), w)) else (if p1 = 3 then ((gfJ w a0 3 9).bind fun v21 => (gfJ w a0 3 1).bind fun v23 => (gfJ w a0 3 2).bind fun v25 => some (.inr ((v21 + v23) + v25), w)) else (if p1 = 4 then ((gfJ w a0 3 10).bind fun v28 => (gfJ w a0 3 1).bind fun v30 => (gfJ w a0 3 2).bind fun v32 => some (.inr ((v28 + v30) + v32), w)) else ((gfJ w a0 3 11).bind fun v34 => (gfJ w a0 3 2).bind fun v36 => some (.inr (v34 + v36), w))))))
set_option maxHeartbeats 4000000 in
set_option maxRecDepth 100000 in
theorem m_So_limit (l : Launch) (hst : l.stackTraces = false) (D : gD) (g0 : gG) (a0 : Nat) (p1 : Int32) (w : gW) (r : (String ⊕ Int64) × gW) (h : f_So_limit g0 a0 p1 w = some r) : gMet l y_So_limit (.code y_So_limit b_So_limit 2 (some .long)) rm_So_limit D g0 [.ref a0, .int p1] w (goJ r) := by
  refine gw_ofJ (by decide +kernel) (Nat.le_of_ble_eq_true rfl) ?_
  intro p e s m below meth c ls args A Q hx hb hml hown hlocks hin hnt hT hK hZ hA hret hexc hthr hI hl
  obtain ⟨H, hH⟩ : ∃ H, H = s.heap := ⟨_, rfl⟩
  rw [← hH] at hI ⊢
  obtain ⟨locs, hlocs⟩ : ∃ z : List Loc, z = [] := ⟨_, rfl⟩
  rw [← hlocs] at hI ⊢
  have hl : lv_has ls 2 [(0, .ref a0), (1, .int p1)] := hl
  unfold f_So_limit at h
  refine lv_iload_n hx hb d_So_limit_0 rfl (lv_at hl 1 rfl) ?_
  rcases Decidable.em (p1 = 0) with c1 | c1
  · have h := git c1 h
    refine lv_tableIn (off := 35) (tgt := 36) hx hb d_So_limit_1 (by rw [c1]; decide) (by rw [c1]; decide) (by rw [c1]; decide) (by decide) ?_
    refine lv_aload_n hx hb d_So_limit_36 rfl (lv_at hl 0 rfl) ?_
    obtain ⟨v2, e3, h⟩ := gb h
    refine gw_getJ hx hb hT hown hK hI (ci := 3) rfl i_3 6 (by decide) wd_142 (fun _ h9 => h9) e3 d_So_limit_37 ?_
    refine lv_aload_n hx hb d_So_limit_40 rfl (lv_at hl 0 rfl) ?_
    obtain ⟨v4, e5, h⟩ := gb h
    refine gw_getJ hx hb hT hown hK hI (ci := 3) rfl i_3 1 (by decide) wd_132 (fun _ h9 => h9) e5 d_So_limit_41 ?_
    refine lv_lsub hx hb d_So_limit_44 ?_
    refine lv_aload_n hx hb d_So_limit_45 rfl (lv_at hl 0 rfl) ?_
    obtain ⟨v6, e7, h⟩ := gb h
    refine gw_getJ hx hb hT hown hK hI (ci := 3) rfl i_3 2 (by decide) wd_134 (fun _ h9 => h9) e7 d_So_limit_46 ?_
    refine lv_lsub hx hb d_So_limit_49 ?_
    exact W.widen (show 0 ≤ 0 by omega) (show 0 ≤ 0 by omega) (hret _ _ (Option.some.inj h).symm _ _ _ _ d_So_limit_50 hI)
  have h := gie c1 h
  rcases Decidable.em (p1 = 1) with c8 | c8
  · have h := git c8 h
    refine lv_tableIn (off := 50) (tgt := 51) hx hb d_So_limit_1 (by rw [c8]; decide) (by rw [c8]; decide) (by rw [c8]; decide) (by decide) ?_
    refine lv_aload_n hx hb d_So_limit_51 rfl (lv_at hl 0 rfl) ?_
    obtain ⟨v9, e10, h⟩ := gb h
    refine gw_getJ hx hb hT hown hK hI (ci := 3) rfl i_3 7 (by decide) wd_144 (fun _ h9 => h9) e10 d_So_limit_52 ?_
    refine lv_aload_n hx hb d_So_limit_55 rfl (lv_at hl 0 rfl) ?_
    obtain ⟨v11, e12, h⟩ := gb h
    refine gw_getJ hx hb hT hown hK hI (ci := 3) rfl i_3 1 (by decide) wd_132 (fun _ h9 => h9) e12 d_So_limit_56 ?_
    refine lv_lsub hx hb d_So_limit_59 ?_
    refine lv_aload_n hx hb d_So_limit_60 rfl (lv_at hl 0 rfl) ?_
    obtain ⟨v13, e14, h⟩ := gb h
    refine gw_getJ hx hb hT hown hK hI (ci := 3) rfl i_3 2 (by decide) wd_134 (fun _ h9 => h9) e14 d_So_limit_61 ?_
    refine lv_lsub hx hb d_So_limit_64 ?_
    exact W.widen (show 0 ≤ 0 by omega) (show 0 ≤ 0 by omega) (hret _ _ (Option.some.inj h).symm _ _ _ _ d_So_limit_65 hI)
  have h := gie c8 h
  rcases Decidable.em (p1 = 2) with c15 | c15
  · have h := git c15 h
    refine lv_tableIn (off := 65) (tgt := 66) hx hb d_So_limit_1 (by rw [c15]; decide) (by rw [c15]; decide) (by rw [c15]; decide) (by decide) ?_
    refine lv_aload_n hx hb d_So_limit_66 rfl (lv_at hl 0 rfl) ?_
    obtain ⟨v16, e17, h⟩ := gb h
    refine gw_getJ hx hb hT hown hK hI (ci := 3) rfl i_3 8 (by decide) wd_146 (fun _ h9 => h9) e17 d_So_limit_67 ?_
    refine lv_aload_n hx hb d_So_limit_70 rfl (lv_at hl 0 rfl) ?_
    obtain ⟨v18, e19, h⟩ := gb h
    refine gw_getJ hx hb hT hown hK hI (ci := 3) rfl i_3 2 (by decide) wd_134 (fun _ h9 => h9) e19 d_So_limit_71 ?_
    refine lv_lsub hx hb d_So_limit_74 ?_
    exact W.widen (show 0 ≤ 0 by omega) (show 0 ≤ 0 by omega) (hret _ _ (Option.some.inj h).symm _ _ _ _ d_So_limit_75 hI)
  have h := gie c15 h
  rcases Decidable.em (p1 = 3) with c20 | c20
  · have h := git c20 h
    refine lv_tableIn (off := 75) (tgt := 76) hx hb d_So_limit_1 (by rw [c20]; decide) (by rw [c20]; decide) (by rw [c20]; decide) (by decide) ?_
    refine lv_aload_n hx hb d_So_limit_76 rfl (lv_at hl 0 rfl) ?_
    obtain ⟨v21, e22, h⟩ := gb h
    refine gw_getJ hx hb hT hown hK hI (ci := 3) rfl i_3 9 (by decide) wd_148 (fun _ h9 => h9) e22 d_So_limit_77 ?_
    refine lv_aload_n hx hb d_So_limit_80 rfl (lv_at hl 0 rfl) ?_
    obtain ⟨v23, e24, h⟩ := gb h
    refine gw_getJ hx hb hT hown hK hI (ci := 3) rfl i_3 1 (by decide) wd_132 (fun _ h9 => h9) e24 d_So_limit_81 ?_
    refine lv_ladd hx hb d_So_limit_84 ?_
    refine lv_aload_n hx hb d_So_limit_85 rfl (lv_at hl 0 rfl) ?_
    obtain ⟨v25, e26, h⟩ := gb h
    refine gw_getJ hx hb hT hown hK hI (ci := 3) rfl i_3 2 (by decide) wd_134 (fun _ h9 => h9) e26 d_So_limit_86 ?_
    refine lv_ladd hx hb d_So_limit_89 ?_
    exact W.widen (show 0 ≤ 0 by omega) (show 0 ≤ 0 by omega) (hret _ _ (Option.some.inj h).symm _ _ _ _ d_So_limit_90 hI)
  have h := gie c20 h
  rcases Decidable.em (p1 = 4) with c27 | c27
  · have h := git c27 h
    refine lv_tableIn (off := 90) (tgt := 91) hx hb d_So_limit_1 (by rw [c27]; decide) (by rw [c27]; decide) (by rw [c27]; decide) (by decide) ?_
    refine lv_aload_n hx hb d_So_limit_91 rfl (lv_at hl 0 rfl) ?_
    obtain ⟨v28, e29, h⟩ := gb h
    refine gw_getJ hx hb hT hown hK hI (ci := 3) rfl i_3 10 (by decide) wd_150 (fun _ h9 => h9) e29 d_So_limit_92 ?_
    refine lv_aload_n hx hb d_So_limit_95 rfl (lv_at hl 0 rfl) ?_
    obtain ⟨v30, e31, h⟩ := gb h
    refine gw_getJ hx hb hT hown hK hI (ci := 3) rfl i_3 1 (by decide) wd_132 (fun _ h9 => h9) e31 d_So_limit_96 ?_
    refine lv_ladd hx hb d_So_limit_99 ?_
    refine lv_aload_n hx hb d_So_limit_100 rfl (lv_at hl 0 rfl) ?_
    obtain ⟨v32, e33, h⟩ := gb h
    refine gw_getJ hx hb hT hown hK hI (ci := 3) rfl i_3 2 (by decide) wd_134 (fun _ h9 => h9) e33 d_So_limit_101 ?_
    refine lv_ladd hx hb d_So_limit_104 ?_
    exact W.widen (show 0 ≤ 0 by omega) (show 0 ≤ 0 by omega) (hret _ _ (Option.some.inj h).symm _ _ _ _ d_So_limit_105 hI)
  have h := gie c27 h
  refine lv_tableOut (tgt := 106) hx hb d_So_limit_1 (by have q0 := lv_neT c1 (show (0 : Int32).toInt = 0 by decide); have q1 := lv_neT c8 (show (1 : Int32).toInt = 1 by decide); have q2 := lv_neT c15 (show (2 : Int32).toInt = 2 by decide); have q3 := lv_neT c20 (show (3 : Int32).toInt = 3 by decide); have q4 := lv_neT c27 (show (4 : Int32).toInt = 4 by decide); omega) (by decide) ?_
  refine lv_aload_n hx hb d_So_limit_106 rfl (lv_at hl 0 rfl) ?_
  obtain ⟨v34, e35, h⟩ := gb h
  refine gw_getJ hx hb hT hown hK hI (ci := 3) rfl i_3 11 (by decide) wd_152 (fun _ h9 => h9) e35 d_So_limit_107 ?_
  refine lv_aload_n hx hb d_So_limit_110 rfl (lv_at hl 0 rfl) ?_
  obtain ⟨v36, e37, h⟩ := gb h
  refine gw_getJ hx hb hT hown hK hI (ci := 3) rfl i_3 2 (by decide) wd_134 (fun _ h9 => h9) e37 d_So_limit_111 ?_
  refine lv_ladd hx hb d_So_limit_114 ?_
  exact W.widen (show 0 ≤ 0 by omega) (show 0 ≤ 0 by omega) (hret _ _ (Option.some.inj h).symm _ _ _ _ d_So_limit_115 hI)

abbrev b_By_init : ByteArray := prog_2_method_1_code
def y_By_init : MethodName := ⟨"BodySolids$Body", "<init>", "()V"⟩
theorem d_By_init_0 : decode b_By_init 0 = .ok (.aload_n 0, 1) := by decide +kernel
theorem d_By_init_1 : decode b_By_init 1 = .ok (.invokespecial 3, 3) := by decide +kernel
theorem d_By_init_4 : decode b_By_init 4 = .ok (.aload_n 0, 1) := by decide +kernel
theorem d_By_init_5 : decode b_By_init 5 = .ok (.new 9, 3) := by decide +kernel
theorem d_By_init_8 : decode b_By_init 8 = .ok (.dup, 1) := by decide +kernel
theorem d_By_init_9 : decode b_By_init 9 = .ok (.invokespecial 11, 3) := by decide +kernel
theorem d_By_init_12 : decode b_By_init 12 = .ok (.putfield 12, 3) := by decide +kernel
theorem d_By_init_15 : decode b_By_init 15 = .ok (.aload_n 0, 1) := by decide +kernel
theorem d_By_init_16 : decode b_By_init 16 = .ok (.lconst 0, 1) := by decide +kernel
theorem d_By_init_17 : decode b_By_init 17 = .ok (.putfield 18, 3) := by decide +kernel
theorem d_By_init_20 : decode b_By_init 20 = .ok (.return_, 1) := by decide +kernel
abbrev rm_By_init : Room := { frames := 4, cells := 1, slots := 3, locals := 82 }
theorem ce_By_init : gCe y_By_init (.code y_By_init b_By_init 1 none) 1 0 false := gCe.code wd_232 wd_58 wd_231 (by decide) (by decide +kernel)
def f_By_init (g0 : gG) (a0 : Nat) (w : gW) : gX Unit := gb2f (gnw w 1 [.null, .int 0, .int 0]) fun o1 w => gbind (f_AL_init g0 o1 w) fun v5 w => (gp w a0 4 0 (.ref o1)).bind fun w => (gp w a0 4 1 (.long 0)).bind fun w => some (.inr (), w)
set_option maxHeartbeats 4000000 in
set_option maxRecDepth 100000 in
theorem m_By_init (l : Launch) (hst : l.stackTraces = false) (D : gD) (g0 : gG) (a0 : Nat) (w : gW) (r : (String ⊕ Unit) × gW) (h : f_By_init g0 a0 w = some r) : gMet l y_By_init (.code y_By_init b_By_init 1 none) rm_By_init D g0 [.ref a0] w (goV r) := by
  refine gw_ofV (by decide +kernel) (Nat.le_of_ble_eq_true rfl) ?_
  intro p e s m below meth c ls args A Q hx hb hml hown hlocks hin hnt hT hK hZ hA hret hexc hthr hI hl
  obtain ⟨H, hH⟩ : ∃ H, H = s.heap := ⟨_, rfl⟩
  rw [← hH] at hI ⊢
  obtain ⟨locs, hlocs⟩ : ∃ z : List Loc, z = [] := ⟨_, rfl⟩
  rw [← hlocs] at hI ⊢
  have hl : lv_has ls 1 [(0, .ref a0)] := hl
  unfold f_By_init at h
  refine lv_aload_n hx hb d_By_init_0 rfl (lv_at hl 0 rfl) ?_
  refine W.objInit hx hb hown (hT _ wd_233 args) (hT _ wd_78 args) (hT _ wd_79 args) rfl (by rw [hml]; exact hl.1) rfl d_By_init_1 (Nat.le_of_ble_eq_true rfl) (Nat.le_of_ble_eq_true rfl) ?_
  refine W.eq (g2 := F0 m 4 ls []) rfl ?_
  refine lv_aload_n hx hb d_By_init_4 rfl (lv_at hl 0 rfl) ?_
  obtain ⟨o1, w, e2, h⟩ := gb2 h
  refine gw_new hx hb hT hown hK hI hA (ci := 1) rfl i_1 t_1 t_1_ok wd_234 wd_88 wd_53 (fs := [.null, .int 0, .int 0]) df_1 e2 (show 0 + 1 ≤ 1 by omega) (show 0 + 3 ≤ 3 by omega) d_By_init_5 (fun H hI => ?_)
  refine W.widen (k := 1) (n := 3) (show 0 + 1 ≤ 1 by omega) (show 0 + 3 ≤ 3 by omega) ?_
  refine lv_dup hx hb d_By_init_8 rfl ?_
  obtain ⟨u3, e4⟩ := gsome h
  refine gw_callV e4 h (gw_runI (As := []) (rest := [.ref o1, .ref a0]) hx hb hml hown hT hK hZ hA hI (m_AL_init l hst D g0 o1 w u3 e4) ce_AL_init wd_235 rfl ⟨by decide, by decide⟩ rfl rfl hl.1 rfl (lv_room (Nat.le_of_ble_eq_true rfl)) d_By_init_9 ⟨(show 1 + 0 ≤ 1 by omega), (show 3 + 0 ≤ 3 by omega)⟩) hI hA hexc (show 1 + 0 ≤ 1 by omega) (show 3 + 0 ≤ 3 by omega) (fun v5 w H locs h hI => ?_)
  obtain ⟨w, e6, h⟩ := gb h
  refine gw_putF hx hb hT hown hK hI (ci := 4) rfl i_4 t_4 t_4_ok n_4 0 (by decide) wd_236 (fun _ h9 => h9) rfl hin rfl (ty := .object "java/util/ArrayList") (by decide +kernel) rfl rfl e6 d_By_init_12 (fun H locs hI => ?_)
  refine lv_aload_n hx hb d_By_init_15 rfl (lv_at hl 0 rfl) ?_
  refine lv_lconst (v := 0) hx hb d_By_init_16 (by decide) ?_
  obtain ⟨w, e7, h⟩ := gb h
  refine gw_put hx hb hT hown hK hI (ci := 4) rfl i_4 t_4 t_4_ok n_4 1 (by decide) wd_239 (fun _ h9 => h9) rfl (ty := .long) (by decide +kernel) rfl rfl e7 d_By_init_17 (fun H locs hI => ?_)
  exact W.widen (show 1 ≤ 1 by omega) (show 3 ≤ 3 by omega) (hret _ _ (Option.some.inj h).symm _ _ _ _ d_By_init_20 hI)

abbrev b_By_add : ByteArray := prog_2_method_3_code
def y_By_add : MethodName := ⟨"BodySolids$Body", "add", "(LBodySolids$Solid;J)V"⟩
theorem d_By_add_0 : decode b_By_add 0 = .ok (.aload_n 0, 1) := by decide +kernel
theorem d_By_add_1 : decode b_By_add 1 = .ok (.getfield 12, 3) := by decide +kernel
theorem d_By_add_4 : decode b_By_add 4 = .ok (.aload_n 1, 1) := by decide +kernel
theorem d_By_add_5 : decode b_By_add 5 = .ok (.invokevirtual 26, 3) := by decide +kernel
theorem d_By_add_8 : decode b_By_add 8 = .ok (.pop, 1) := by decide +kernel
theorem d_By_add_9 : decode b_By_add 9 = .ok (.aload_n 0, 1) := by decide +kernel
theorem d_By_add_10 : decode b_By_add 10 = .ok (.dup, 1) := by decide +kernel
theorem d_By_add_11 : decode b_By_add 11 = .ok (.getfield 18, 3) := by decide +kernel
theorem d_By_add_14 : decode b_By_add 14 = .ok (.lload_n 2, 1) := by decide +kernel
theorem d_By_add_15 : decode b_By_add 15 = .ok (.ladd, 1) := by decide +kernel
theorem d_By_add_16 : decode b_By_add 16 = .ok (.putfield 18, 3) := by decide +kernel
theorem d_By_add_19 : decode b_By_add 19 = .ok (.return_, 1) := by decide +kernel
abbrev rm_By_add : Room := { frames := 7, cells := 1, slots := 64, locals := 179 }
theorem ce_By_add : gCe y_By_add (.code y_By_add b_By_add 4 none) 4 2 false := gCe.code wd_558 wd_58 wd_556 (by decide) (by decide +kernel)
def f_By_add (g0 : gG) (a0 : Nat) (a1 : Nat) (p2 : Int64) (w : gW) : gX Unit := (gfA w a0 4 0).bind fun v1 => (gck w v1 1).bind fun _ => gbind (f_AL_add g0 v1 a1 w) fun v7 w => (gfJ w a0 4 1).bind fun v8 => (gp w a0 4 1 (.long (v8 + p2))).bind fun w => some (.inr (), w)
set_option maxHeartbeats 4000000 in
set_option maxRecDepth 100000 in
theorem m_By_add (l : Launch) (hst : l.stackTraces = false) (D : gD) (g0 : gG) (a0 : Nat) (a1 : Nat) (p2 : Int64) (w : gW) (r : (String ⊕ Unit) × gW) (h : f_By_add g0 a0 a1 p2 w = some r) : gMet l y_By_add (.code y_By_add b_By_add 4 none) rm_By_add D g0 [.ref a0, .ref a1, .long p2] w (goV r) := by
  refine gw_ofV (by decide +kernel) (Nat.le_of_ble_eq_true rfl) ?_
  intro p e s m below meth c ls args A Q hx hb hml hown hlocks hin hnt hT hK hZ hA hret hexc hthr hI hl
  obtain ⟨H, hH⟩ : ∃ H, H = s.heap := ⟨_, rfl⟩
  rw [← hH] at hI ⊢
  obtain ⟨locs, hlocs⟩ : ∃ z : List Loc, z = [] := ⟨_, rfl⟩
  rw [← hlocs] at hI ⊢
  have hl : lv_has ls 4 [(0, .ref a0), (1, .ref a1), (2, .long p2)] := hl
  unfold f_By_add at h
  refine lv_aload_n hx hb d_By_add_0 rfl (lv_at hl 0 rfl) ?_
  obtain ⟨v1, e2, h⟩ := gb h
  refine gw_getA hx hb hT hown hK hI (ci := 4) rfl i_4 0 (by decide) wd_236 (fun _ h9 => h9) e2 d_By_add_1 ?_
  refine lv_aload_n hx hb d_By_add_4 rfl (lv_at hl 1 rfl) ?_
  obtain ⟨q5, e6, h⟩ := gb h
  obtain ⟨u3, e4⟩ := gsome h
  refine gw_callI e4 h (gw_runV (As := [.ref a1]) (rest := []) hx hb hml hown hT hK hZ hA hI (ci := 1) rfl e6 (m_AL_add l hst D g0 v1 a1 w u3 e4) ce_AL_add wd_559 wd_252 ⟨by decide, by decide⟩ rfl rfl hl.1 rfl (lv_room (Nat.le_of_ble_eq_true rfl)) d_By_add_5 ⟨(show 0 + 1 ≤ 1 by omega), (show 0 + 64 ≤ 64 by omega)⟩) hI hA hexc (show 0 + 1 ≤ 1 by omega) (show 0 + 64 ≤ 64 by omega) (fun v7 w H locs h hI => ?_)
  refine W.widen (k := 1) (n := 64) (show 0 + 1 ≤ 1 by omega) (show 0 + 64 ≤ 64 by omega) ?_
  refine lv_pop hx hb d_By_add_8 rfl ?_
  refine lv_aload_n hx hb d_By_add_9 rfl (lv_at hl 0 rfl) ?_
  refine lv_dup hx hb d_By_add_10 rfl ?_
  obtain ⟨v8, e9, h⟩ := gb h
  refine gw_getJ hx hb hT hown hK hI (ci := 4) rfl i_4 1 (by decide) wd_239 (fun _ h9 => h9) e9 d_By_add_11 ?_
  refine lv_lload_n hx hb d_By_add_14 rfl (lv_at hl 2 rfl) ?_
  refine lv_ladd hx hb d_By_add_15 ?_
  obtain ⟨w, e10, h⟩ := gb h
  refine gw_put hx hb hT hown hK hI (ci := 4) rfl i_4 t_4 t_4_ok n_4 1 (by decide) wd_239 (fun _ h9 => h9) rfl (ty := .long) (by decide +kernel) rfl rfl e10 d_By_add_16 (fun H locs hI => ?_)
  exact W.widen (show 1 ≤ 1 by omega) (show 64 ≤ 64 by omega) (hret _ _ (Option.some.inj h).symm _ _ _ _ d_By_add_19 hI)

abbrev b_By_addAllOf : ByteArray := prog_2_method_4_code
def y_By_addAllOf : MethodName := ⟨"BodySolids$Body", "addAllOf", "(LBodySolids$Body;)V"⟩
theorem d_By_addAllOf_0 : decode b_By_addAllOf 0 = .ok (.iconst 0, 1) := by decide +kernel
theorem d_By_addAllOf_1 : decode b_By_addAllOf 1 = .ok (.istore_n 2, 1) := by decide +kernel
theorem d_By_addAllOf_2 : decode b_By_addAllOf 2 = .ok (.iload_n 2, 1) := by decide +kernel
theorem d_By_addAllOf_3 : decode b_By_addAllOf 3 = .ok (.aload_n 1, 1) := by decide +kernel
theorem d_By_addAllOf_4 : decode b_By_addAllOf 4 = .ok (.getfield 12, 3) := by decide +kernel
theorem d_By_addAllOf_7 : decode b_By_addAllOf 7 = .ok (.invokevirtual 22, 3) := by decide +kernel
theorem d_By_addAllOf_10 : decode b_By_addAllOf 10 = .ok (.if_icmp .ge 28, 3) := by decide +kernel
theorem d_By_addAllOf_13 : decode b_By_addAllOf 13 = .ok (.aload_n 0, 1) := by decide +kernel
theorem d_By_addAllOf_14 : decode b_By_addAllOf 14 = .ok (.getfield 12, 3) := by decide +kernel
theorem d_By_addAllOf_17 : decode b_By_addAllOf 17 = .ok (.aload_n 1, 1) := by decide +kernel
theorem d_By_addAllOf_18 : decode b_By_addAllOf 18 = .ok (.getfield 12, 3) := by decide +kernel
theorem d_By_addAllOf_21 : decode b_By_addAllOf 21 = .ok (.iload_n 2, 1) := by decide +kernel
theorem d_By_addAllOf_22 : decode b_By_addAllOf 22 = .ok (.invokevirtual 30, 3) := by decide +kernel
theorem d_By_addAllOf_25 : decode b_By_addAllOf 25 = .ok (.checkcast 34, 3) := by decide +kernel
theorem d_By_addAllOf_28 : decode b_By_addAllOf 28 = .ok (.invokevirtual 26, 3) := by decide +kernel
theorem d_By_addAllOf_31 : decode b_By_addAllOf 31 = .ok (.pop, 1) := by decide +kernel
theorem d_By_addAllOf_32 : decode b_By_addAllOf 32 = .ok (.iinc 2 1, 3) := by decide +kernel
theorem d_By_addAllOf_35 : decode b_By_addAllOf 35 = .ok (.goto (-33), 3) := by decide +kernel
theorem d_By_addAllOf_38 : decode b_By_addAllOf 38 = .ok (.aload_n 0, 1) := by decide +kernel
theorem d_By_addAllOf_39 : decode b_By_addAllOf 39 = .ok (.dup, 1) := by decide +kernel
theorem d_By_addAllOf_40 : decode b_By_addAllOf 40 = .ok (.getfield 18, 3) := by decide +kernel
theorem d_By_addAllOf_43 : decode b_By_addAllOf 43 = .ok (.aload_n 1, 1) := by decide +kernel
theorem d_By_addAllOf_44 : decode b_By_addAllOf 44 = .ok (.getfield 18, 3) := by decide +kernel
theorem d_By_addAllOf_47 : decode b_By_addAllOf 47 = .ok (.ladd, 1) := by decide +kernel
theorem d_By_addAllOf_48 : decode b_By_addAllOf 48 = .ok (.putfield 18, 3) := by decide +kernel
theorem d_By_addAllOf_51 : decode b_By_addAllOf 51 = .ok (.return_, 1) := by decide +kernel
abbrev rm_By_addAllOf : Room := { frames := 7, cells := 13, slots := 832, locals := 179 }
theorem ce_By_addAllOf : gCe y_By_addAllOf (.code y_By_addAllOf b_By_addAllOf 3 none) 3 1 false := gCe.code wd_632 wd_58 wd_630 (by decide) (by decide +kernel)
def f_By_addAllOf_L2 (g0 : gG) (c0 : Nat) (c1 : Nat) (K38 : gW → gX Unit) : Nat → Int32 → gW → gX Unit
  | 0, _, _ => none
  | n + 1, z2, w => (gfA w c1 4 0).bind fun v6 => (gck w v6 1).bind fun _ => gbind (f_AL_size g0 v6 w) fun v12 w => if v12 ≤ z2 then (K38 w) else ((gfA w c0 4 0).bind fun v14 => (gfA w c1 4 0).bind fun v16 => (gck w v16 1).bind fun _ => gbind (f_AL_get g0 v16 z2 w) fun v22 w => (gck w v22 3).bind fun _ => (gck w v14 1).bind fun _ => gbind (f_AL_add g0 v14 v22 w) fun v29 w => f_By_addAllOf_L2 g0 c0 c1 K38 n (z2 + 1) w)
def f_By_addAllOf (g0 : gG) (a0 : Nat) (a1 : Nat) (w : gW) : gX Unit := gjoin (fun K38 => f_By_addAllOf_L2 g0 a0 a1 K38 13 0 w) (fun (w : gW) => (gfJ w a0 4 1).bind fun v1 => (gfJ w a1 4 1).bind fun v3 => (gp w a0 4 1 (.long (v1 + v3))).bind fun w => some (.inr (), w))
set_option maxHeartbeats 4000000 in
set_option maxRecDepth 100000 in
theorem m_By_addAllOf (l : Launch) (hst : l.stackTraces = false) (D : gD) (g0 : gG) (a0 : Nat) (a1 : Nat) (w : gW) (r : (String ⊕ Unit) × gW) (h : f_By_addAllOf g0 a0 a1 w = some r) : gMet l y_By_addAllOf (.code y_By_addAllOf b_By_addAllOf 3 none) rm_By_addAllOf D g0 [.ref a0, .ref a1] w (goV r) := by
  refine gw_ofV (by decide +kernel) (Nat.le_of_ble_eq_true rfl) ?_
  intro p e s m below meth c ls args A Q hx hb hml hown hlocks hin hnt hT hK hZ hA hret hexc hthr hI hl
  obtain ⟨H, hH⟩ : ∃ H, H = s.heap := ⟨_, rfl⟩
  rw [← hH] at hI ⊢
  obtain ⟨locs, hlocs⟩ : ∃ z : List Loc, z = [] := ⟨_, rfl⟩
  rw [← hlocs] at hI ⊢
  have hl : lv_has ls 3 [(0, .ref a0), (1, .ref a1)] := hl
  unfold f_By_addAllOf at h
  refine lv_iconst (v := 0) hx hb d_By_addAllOf_0 (by decide) ?_
  refine lv_istore_n (lv' := [(2, .int 0), (0, .ref a0), (1, .ref a1)]) hx hb d_By_addAllOf_1 rfl hl (by decide) rfl (fun ls hl => ?_)
  obtain ⟨K38, eK38, h⟩ := gj h
  have hK38 : ∀ (w : gW) (H : Heap) (locs : List Loc) (ls : Array Slot), K38 w = some r → gI D s A w H locs → lv_has ls 3 [(0, .ref a0), (1, .ref a1)] → W p l e rm_By_addAllOf s m args below meth c H locs 13 832 Q (F0 m 38 ls []) := by
    intro w H locs ls h hI hl
    have h := gk1 eK38 h
    refine lv_aload_n hx hb d_By_addAllOf_38 rfl (lv_at hl 0 rfl) ?_
    refine lv_dup hx hb d_By_addAllOf_39 rfl ?_
    obtain ⟨v1, e2, h⟩ := gb h
    refine gw_getJ hx hb hT hown hK hI (ci := 4) rfl i_4 1 (by decide) wd_239 (fun _ h9 => h9) e2 d_By_addAllOf_40 ?_
    refine lv_aload_n hx hb d_By_addAllOf_43 rfl (lv_at hl 1 rfl) ?_
    obtain ⟨v3, e4, h⟩ := gb h
    refine gw_getJ hx hb hT hown hK hI (ci := 4) rfl i_4 1 (by decide) wd_239 (fun _ h9 => h9) e4 d_By_addAllOf_44 ?_
    refine lv_ladd hx hb d_By_addAllOf_47 ?_
    obtain ⟨w, e5, h⟩ := gb h
    refine gw_put hx hb hT hown hK hI (ci := 4) rfl i_4 t_4 t_4_ok n_4 1 (by decide) wd_239 (fun _ h9 => h9) rfl (ty := .long) (by decide +kernel) rfl rfl e5 d_By_addAllOf_48 (fun H locs hI => ?_)
    exact W.widen (show 13 ≤ 13 by omega) (show 832 ≤ 832 by omega) (hret _ _ (Option.some.inj h).symm _ _ _ _ d_By_addAllOf_51 hI)
  have hL2 : ∀ (n : Nat), n ≤ 13 → ∀ (z6 : Int32) (w : gW) (H : Heap) (locs : List Loc) (ls : Array Slot), f_By_addAllOf_L2 g0 a0 a1 K38 n z6 w = some r → gI D s A w H locs → lv_has ls 3 [(0, .ref a0), (1, .ref a1), (2, .int z6)] → W p l e rm_By_addAllOf s m args below meth c H locs (13 - n * 1) (832 - n * 64) Q (F0 m 2 ls []) := by
    intro n
    induction n with
    | zero => intro hn z6 w H locs ls h hI hl; exact absurd h (by simp [f_By_addAllOf_L2])
    | succ n ih =>
      intro hn z6 w H locs ls h hI hl
      rw [f_By_addAllOf_L2] at h
      refine lv_iload_n hx hb d_By_addAllOf_2 rfl (lv_at hl 2 rfl) ?_
      refine lv_aload_n hx hb d_By_addAllOf_3 rfl (lv_at hl 1 rfl) ?_
      obtain ⟨v7, e8, h⟩ := gb h
      refine gw_getA hx hb hT hown hK hI (ci := 4) rfl i_4 0 (by decide) wd_236 (fun _ h9 => h9) e8 d_By_addAllOf_4 ?_
      obtain ⟨q11, e12, h⟩ := gb h
      obtain ⟨u9, e10⟩ := gsome h
      refine gw_callI e10 h (gw_runV (As := []) (rest := [.int z6]) hx hb hml hown hT hK hZ hA hI (ci := 1) rfl e12 (m_AL_size l hst D g0 v7 w u9 e10) ce_AL_size wd_545 wd_226 ⟨by decide, by decide⟩ rfl rfl hl.1 rfl (lv_room (Nat.le_of_ble_eq_true rfl)) d_By_addAllOf_7 ⟨(show (13 - (n + 1) * 1) + 0 ≤ 13 by omega), (show (832 - (n + 1) * 64) + 0 ≤ 832 by omega)⟩) hI hA hexc (show (13 - (n + 1) * 1) + 0 ≤ 13 by omega) (show (832 - (n + 1) * 64) + 0 ≤ 832 by omega) (fun v13 w H locs h hI => ?_)
      refine lv_icmp_ge (tgt := 38) hx hb d_By_addAllOf_10 (by decide) (fun c14 => ?_) (fun c14 => ?_)
      · skip
        have h := git c14 h
        refine W.widen (k := 13) (n := 832) (show (13 - (n + 1) * 1) ≤ 13 by omega) (show (832 - (n + 1) * 64) ≤ 832 by omega) ?_
        exact hK38 w H locs ls h hI (lv_sub hl [0, 1] rfl)
      · skip
        have h := gie c14 h
        refine lv_aload_n hx hb d_By_addAllOf_13 rfl (lv_at hl 0 rfl) ?_
        obtain ⟨v15, e16, h⟩ := gb h
        refine gw_getA hx hb hT hown hK hI (ci := 4) rfl i_4 0 (by decide) wd_236 (fun _ h9 => h9) e16 d_By_addAllOf_14 ?_
        refine lv_aload_n hx hb d_By_addAllOf_17 rfl (lv_at hl 1 rfl) ?_
        obtain ⟨v17, e18, h⟩ := gb h
        refine gw_getA hx hb hT hown hK hI (ci := 4) rfl i_4 0 (by decide) wd_236 (fun _ h9 => h9) e18 d_By_addAllOf_18 ?_
        refine lv_iload_n hx hb d_By_addAllOf_21 rfl (lv_at hl 2 rfl) ?_
        obtain ⟨q21, e22, h⟩ := gb h
        obtain ⟨u19, e20⟩ := gsome h
        refine gw_callA e20 h (gw_runV (As := [.int z6]) (rest := [.ref v15]) hx hb hml hown hT hK hZ hA hI (ci := 1) rfl e22 (m_AL_get l hst D g0 v17 z6 w u19 e20) ce_AL_get wd_633 wd_323 ⟨by decide, by decide⟩ rfl rfl hl.1 rfl (lv_room (Nat.le_of_ble_eq_true rfl)) d_By_addAllOf_22 ⟨(show (13 - (n + 1) * 1) + 0 ≤ 13 by omega), (show (832 - (n + 1) * 64) + 0 ≤ 832 by omega)⟩) hI hA hexc (show (13 - (n + 1) * 1) + 0 ≤ 13 by omega) (show (832 - (n + 1) * 64) + 0 ≤ 832 by omega) (fun v23 w H locs h hI => ?_)
        obtain ⟨q25, e24, h⟩ := gb h
        refine gw_cast hx hb hT hown hK hI wd_634 (ci := 3) rfl wd_1124 e24 d_By_addAllOf_25 ?_
        obtain ⟨q28, e29, h⟩ := gb h
        obtain ⟨u26, e27⟩ := gsome h
        refine gw_callI e27 h (gw_runV (As := [.ref v23]) (rest := []) hx hb hml hown hT hK hZ hA hI (ci := 1) rfl e29 (m_AL_add l hst D g0 v15 v23 w u26 e27) ce_AL_add wd_559 wd_252 ⟨by decide, by decide⟩ rfl rfl hl.1 rfl (lv_room (Nat.le_of_ble_eq_true rfl)) d_By_addAllOf_28 ⟨(show (13 - (n + 1) * 1) + 1 ≤ 13 by omega), (show (832 - (n + 1) * 64) + 64 ≤ 832 by omega)⟩) hI hA hexc (show (13 - (n + 1) * 1) + 1 ≤ 13 by omega) (show (832 - (n + 1) * 64) + 64 ≤ 832 by omega) (fun v30 w H locs h hI => ?_)
        refine W.widen (k := ((13 - (n + 1) * 1) + 1)) (n := ((832 - (n + 1) * 64) + 64)) (show (13 - (n + 1) * 1) + 1 ≤ ((13 - (n + 1) * 1) + 1) by omega) (show (832 - (n + 1) * 64) + 64 ≤ ((832 - (n + 1) * 64) + 64) by omega) ?_
        refine lv_pop hx hb d_By_addAllOf_31 rfl ?_
        refine lv_iinc (v := z6 + 1) (lv' := [(2, .int (z6 + 1)), (0, .ref a0), (1, .ref a1)]) hx hb d_By_addAllOf_32 hl (k := 2) rfl rfl (by decide) rfl (fun ls hl => ?_)
        refine lv_goto (tgt := 2) hx hb d_By_addAllOf_35 (by decide) ?_
        refine W.widen (k := (13 - n * 1)) (n := (832 - n * 64)) (show ((13 - (n + 1) * 1) + 1) ≤ (13 - n * 1) by omega) (show ((832 - (n + 1) * 64) + 64) ≤ (832 - n * 64) by omega) ?_
        exact ih (by omega) _ w H locs ls h hI (lv_sub hl [1, 2, 0] rfl)
  refine W.widen (k := (13 - 13 * 1)) (n := (832 - 13 * 64)) (show 0 ≤ (13 - 13 * 1) by omega) (show 0 ≤ (832 - 13 * 64) by omega) ?_
  exact hL2 13 (Nat.le_refl _) _ w H locs ls h hI (lv_sub hl [1, 2, 0] rfl)

abbrev b_By_isFull : ByteArray := prog_2_method_2_code
def y_By_isFull : MethodName := ⟨"BodySolids$Body", "isFull", "()Z"⟩
theorem d_By_isFull_0 : decode b_By_isFull 0 = .ok (.aload_n 0, 1) := by decide +kernel
theorem d_By_isFull_1 : decode b_By_isFull 1 = .ok (.getfield 12, 3) := by decide +kernel
theorem d_By_isFull_4 : decode b_By_isFull 4 = .ok (.invokevirtual 22, 3) := by decide +kernel
theorem d_By_isFull_7 : decode b_By_isFull 7 = .ok (.bipush 12, 2) := by decide +kernel
theorem d_By_isFull_9 : decode b_By_isFull 9 = .ok (.if_icmp .lt 7, 3) := by decide +kernel
theorem d_By_isFull_12 : decode b_By_isFull 12 = .ok (.iconst 1, 1) := by decide +kernel
theorem d_By_isFull_13 : decode b_By_isFull 13 = .ok (.goto 4, 3) := by decide +kernel
theorem d_By_isFull_16 : decode b_By_isFull 16 = .ok (.iconst 0, 1) := by decide +kernel
theorem d_By_isFull_17 : decode b_By_isFull 17 = .ok (.ireturn, 1) := by decide +kernel
abbrev rm_By_isFull : Room := { frames := 1, cells := 0, slots := 0, locals := 20 }
theorem ce_By_isFull : gCe y_By_isFull (.code y_By_isFull b_By_isFull 1 (some .boolean)) 1 0 false := gCe.code wd_544 wd_58 wd_542 (by decide) (by decide +kernel)
def f_By_isFull (g0 : gG) (a0 : Nat) (w : gW) : gX Int32 := (gfA w a0 4 0).bind fun v1 => (gck w v1 1).bind fun _ => gbind (f_AL_size g0 v1 w) fun v7 w => gjoin (fun K17 => if v7 < 12 then (K17 0 w) else (K17 1 w)) (fun (y8 : Int32) (w : gW) => gguard (y8 = 0 ∨ y8 = 1) (some (.inr y8, w)))
set_option maxHeartbeats 4000000 in
set_option maxRecDepth 100000 in
theorem m_By_isFull (l : Launch) (hst : l.stackTraces = false) (D : gD) (g0 : gG) (a0 : Nat) (w : gW) (r : (String ⊕ Int32) × gW) (h : f_By_isFull g0 a0 w = some r) : gMet l y_By_isFull (.code y_By_isFull b_By_isFull 1 (some .boolean)) rm_By_isFull D g0 [.ref a0] w (goI r) := by
  refine gw_ofZ (by decide +kernel) (Nat.le_of_ble_eq_true rfl) ?_
  intro p e s m below meth c ls args A Q hx hb hml hown hlocks hin hnt hT hK hZ hA hret hexc hthr hI hl
  obtain ⟨H, hH⟩ : ∃ H, H = s.heap := ⟨_, rfl⟩
  rw [← hH] at hI ⊢
  obtain ⟨locs, hlocs⟩ : ∃ z : List Loc, z = [] := ⟨_, rfl⟩
  rw [← hlocs] at hI ⊢
  have hl : lv_has ls 1 [(0, .ref a0)] := hl
  unfold f_By_isFull at h
  refine lv_aload_n hx hb d_By_isFull_0 rfl (lv_at hl 0 rfl) ?_
  obtain ⟨v1, e2, h⟩ := gb h
  refine gw_getA hx hb hT hown hK hI (ci := 4) rfl i_4 0 (by decide) wd_236 (fun _ h9 => h9) e2 d_By_isFull_1 ?_
  obtain ⟨q5, e6, h⟩ := gb h
  obtain ⟨u3, e4⟩ := gsome h
  refine gw_callI e4 h (gw_runV (As := []) (rest := []) hx hb hml hown hT hK hZ hA hI (ci := 1) rfl e6 (m_AL_size l hst D g0 v1 w u3 e4) ce_AL_size wd_545 wd_226 ⟨by decide, by decide⟩ rfl rfl hl.1 rfl (lv_room (Nat.le_of_ble_eq_true rfl)) d_By_isFull_4 ⟨(show 0 + 0 ≤ 0 by omega), (show 0 + 0 ≤ 0 by omega)⟩) hI hA hexc (show 0 + 0 ≤ 0 by omega) (show 0 + 0 ≤ 0 by omega) (fun v7 w H locs h hI => ?_)
  refine lv_bipush (v := 12) hx hb d_By_isFull_7 (by decide) ?_
  obtain ⟨K17, eK17, h⟩ := gj h
  have hK17 : ∀ (y8 : Int32) (w : gW) (H : Heap) (locs : List Loc) (ls : Array Slot), K17 y8 w = some r → gI D s A w H locs → lv_has ls 1 [] → W p l e rm_By_isFull s m args below meth c H locs 0 0 Q (F0 m 17 ls [.int y8]) := by
    intro y8 w H locs ls h hI hl
    have h := gk2 eK17 h
    obtain ⟨g9, h⟩ := gif h
    exact W.widen (show 0 ≤ 0 by omega) (show 0 ≤ 0 by omega) (hret g9 0 _ (Option.some.inj h).symm _ _ _ _ d_By_isFull_17 hI)
  refine lv_icmp_lt (tgt := 16) hx hb d_By_isFull_9 (by decide) (fun c10 => ?_) (fun c10 => ?_)
  · skip
    have h := git c10 h
    refine lv_iconst (v := 0) hx hb d_By_isFull_16 (by decide) ?_
    exact hK17 _ w H locs ls h hI (lv_sub hl [] rfl)
  · skip
    have h := gie c10 h
    refine lv_iconst (v := 1) hx hb d_By_isFull_12 (by decide) ?_
    refine lv_goto (tgt := 17) hx hb d_By_isFull_13 (by decide) ?_
    exact hK17 _ w H locs ls h hI (lv_sub hl [] rfl)

abbrev b_Pl_init : ByteArray := prog_6_method_1_code
def y_Pl_init : MethodName := ⟨"BodySolids$Placement", "<init>", "(LBodySolids$Body;)V"⟩
theorem d_Pl_init_0 : decode b_Pl_init 0 = .ok (.aload_n 0, 1) := by decide +kernel
theorem d_Pl_init_1 : decode b_Pl_init 1 = .ok (.invokespecial 1, 3) := by decide +kernel
theorem d_Pl_init_4 : decode b_Pl_init 4 = .ok (.aload_n 0, 1) := by decide +kernel
theorem d_Pl_init_5 : decode b_Pl_init 5 = .ok (.aload_n 1, 1) := by decide +kernel
theorem d_Pl_init_6 : decode b_Pl_init 6 = .ok (.putfield 7, 3) := by decide +kernel
theorem d_Pl_init_9 : decode b_Pl_init 9 = .ok (.return_, 1) := by decide +kernel
abbrev rm_Pl_init : Room := { frames := 1, cells := 0, slots := 0, locals := 22 }
theorem ce_Pl_init : gCe y_Pl_init (.code y_Pl_init b_Pl_init 2 none) 2 1 false := gCe.code wd_649 wd_68 wd_648 (by decide) (by decide +kernel)
def f_Pl_init (g0 : gG) (a0 : Nat) (a1 : Nat) (w : gW) : gX Unit := (gp w a0 5 0 (.ref a1)).bind fun w => some (.inr (), w)
set_option maxHeartbeats 4000000 in
set_option maxRecDepth 100000 in
theorem m_Pl_init (l : Launch) (hst : l.stackTraces = false) (D : gD) (g0 : gG) (a0 : Nat) (a1 : Nat) (w : gW) (r : (String ⊕ Unit) × gW) (h : f_Pl_init g0 a0 a1 w = some r) : gMet l y_Pl_init (.code y_Pl_init b_Pl_init 2 none) rm_Pl_init D g0 [.ref a0, .ref a1] w (goV r) := by
  refine gw_ofV (by decide +kernel) (Nat.le_of_ble_eq_true rfl) ?_
  intro p e s m below meth c ls args A Q hx hb hml hown hlocks hin hnt hT hK hZ hA hret hexc hthr hI hl
  obtain ⟨H, hH⟩ : ∃ H, H = s.heap := ⟨_, rfl⟩
  rw [← hH] at hI ⊢
  obtain ⟨locs, hlocs⟩ : ∃ z : List Loc, z = [] := ⟨_, rfl⟩
  rw [← hlocs] at hI ⊢
  have hl : lv_has ls 2 [(0, .ref a0), (1, .ref a1)] := hl
  unfold f_Pl_init at h
  refine lv_aload_n hx hb d_Pl_init_0 rfl (lv_at hl 0 rfl) ?_
  refine W.objInit hx hb hown (hT _ wd_650 args) (hT _ wd_78 args) (hT _ wd_79 args) rfl (by rw [hml]; exact hl.1) rfl d_Pl_init_1 (Nat.le_of_ble_eq_true rfl) (Nat.le_of_ble_eq_true rfl) ?_
  refine W.eq (g2 := F0 m 4 ls []) rfl ?_
  refine lv_aload_n hx hb d_Pl_init_4 rfl (lv_at hl 0 rfl) ?_
  refine lv_aload_n hx hb d_Pl_init_5 rfl (lv_at hl 1 rfl) ?_
  obtain ⟨w, e1, h⟩ := gb h
  refine gw_putF hx hb hT hown hK hI (ci := 5) rfl i_5 t_5 t_5_ok n_5 0 (by decide) wd_651 (fun _ h9 => h9) rfl hin rfl (ty := .object "BodySolids$Body") (by decide +kernel) rfl rfl e1 d_Pl_init_6 (fun H locs hI => ?_)
  exact W.widen (show 0 ≤ 0 by omega) (show 0 ≤ 0 by omega) (hret _ _ (Option.some.inj h).symm _ _ _ _ d_Pl_init_9 hI)

abbrev b_Pl_goTo : ByteArray := prog_6_method_3_code
def y_Pl_goTo : MethodName := ⟨"BodySolids$Placement", "goTo", "(JJII)V"⟩
theorem d_Pl_goTo_0 : decode b_Pl_goTo 0 = .ok (.aload_n 0, 1) := by decide +kernel
theorem d_Pl_goTo_1 : decode b_Pl_goTo 1 = .ok (.lload_n 1, 1) := by decide +kernel
theorem d_Pl_goTo_2 : decode b_Pl_goTo 2 = .ok (.putfield 13, 3) := by decide +kernel
theorem d_Pl_goTo_5 : decode b_Pl_goTo 5 = .ok (.aload_n 0, 1) := by decide +kernel
theorem d_Pl_goTo_6 : decode b_Pl_goTo 6 = .ok (.lload_n 3, 1) := by decide +kernel
theorem d_Pl_goTo_7 : decode b_Pl_goTo 7 = .ok (.putfield 17, 3) := by decide +kernel
theorem d_Pl_goTo_10 : decode b_Pl_goTo 10 = .ok (.aload_n 0, 1) := by decide +kernel
theorem d_Pl_goTo_11 : decode b_Pl_goTo 11 = .ok (.iload 5, 2) := by decide +kernel
theorem d_Pl_goTo_13 : decode b_Pl_goTo 13 = .ok (.putfield 20, 3) := by decide +kernel
theorem d_Pl_goTo_16 : decode b_Pl_goTo 16 = .ok (.aload_n 0, 1) := by decide +kernel
theorem d_Pl_goTo_17 : decode b_Pl_goTo 17 = .ok (.iload 6, 2) := by decide +kernel
theorem d_Pl_goTo_19 : decode b_Pl_goTo 19 = .ok (.putfield 24, 3) := by decide +kernel
theorem d_Pl_goTo_22 : decode b_Pl_goTo 22 = .ok (.return_, 1) := by decide +kernel
abbrev rm_Pl_goTo : Room := { frames := 0, cells := 0, slots := 0, locals := 0 }
theorem ce_Pl_goTo : gCe y_Pl_goTo (.code y_Pl_goTo b_Pl_goTo 7 none) 7 4 false := gCe.code wd_674 wd_68 wd_672 (by decide) (by decide +kernel)
def f_Pl_goTo (g0 : gG) (a0 : Nat) (p1 : Int64) (p2 : Int64) (p3 : Int32) (p4 : Int32) (w : gW) : gX Unit := (gp w a0 5 1 (.long p1)).bind fun w => (gp w a0 5 2 (.long p2)).bind fun w => (gp w a0 5 3 (.int p3)).bind fun w => (gp w a0 5 4 (.int p4)).bind fun w => some (.inr (), w)
set_option maxHeartbeats 4000000 in
set_option maxRecDepth 100000 in
theorem m_Pl_goTo (l : Launch) (hst : l.stackTraces = false) (D : gD) (g0 : gG) (a0 : Nat) (p1 : Int64) (p2 : Int64) (p3 : Int32) (p4 : Int32) (w : gW) (r : (String ⊕ Unit) × gW) (h : f_Pl_goTo g0 a0 p1 p2 p3 p4 w = some r) : gMet l y_Pl_goTo (.code y_Pl_goTo b_Pl_goTo 7 none) rm_Pl_goTo D g0 [.ref a0, .long p1, .long p2, .int p3, .int p4] w (goV r) := by
  refine gw_ofV (by decide +kernel) (Nat.le_of_ble_eq_true rfl) ?_
  intro p e s m below meth c ls args A Q hx hb hml hown hlocks hin hnt hT hK hZ hA hret hexc hthr hI hl
  obtain ⟨H, hH⟩ : ∃ H, H = s.heap := ⟨_, rfl⟩
  rw [← hH] at hI ⊢
  obtain ⟨locs, hlocs⟩ : ∃ z : List Loc, z = [] := ⟨_, rfl⟩
  rw [← hlocs] at hI ⊢
  have hl : lv_has ls 7 [(0, .ref a0), (1, .long p1), (3, .long p2), (5, .int p3), (6, .int p4)] := hl
  unfold f_Pl_goTo at h
  refine lv_aload_n hx hb d_Pl_goTo_0 rfl (lv_at hl 0 rfl) ?_
  refine lv_lload_n hx hb d_Pl_goTo_1 rfl (lv_at hl 1 rfl) ?_
  obtain ⟨w, e1, h⟩ := gb h
  refine gw_put hx hb hT hown hK hI (ci := 5) rfl i_5 t_5 t_5_ok n_5 1 (by decide) wd_654 (fun _ h9 => h9) rfl (ty := .long) (by decide +kernel) rfl rfl e1 d_Pl_goTo_2 (fun H locs hI => ?_)
  refine lv_aload_n hx hb d_Pl_goTo_5 rfl (lv_at hl 0 rfl) ?_
  refine lv_lload_n hx hb d_Pl_goTo_6 rfl (lv_at hl 2 rfl) ?_
  obtain ⟨w, e2, h⟩ := gb h
  refine gw_put hx hb hT hown hK hI (ci := 5) rfl i_5 t_5 t_5_ok n_5 2 (by decide) wd_655 (fun _ h9 => h9) rfl (ty := .long) (by decide +kernel) rfl rfl e2 d_Pl_goTo_7 (fun H locs hI => ?_)
  refine lv_aload_n hx hb d_Pl_goTo_10 rfl (lv_at hl 0 rfl) ?_
  refine lv_iload hx hb d_Pl_goTo_11 (lv_at hl 3 rfl) ?_
  obtain ⟨w, e3, h⟩ := gb h
  refine gw_put hx hb hT hown hK hI (ci := 5) rfl i_5 t_5 t_5_ok n_5 3 (by decide) wd_656 (fun _ h9 => h9) rfl (ty := .int) (by decide +kernel) rfl rfl e3 d_Pl_goTo_13 (fun H locs hI => ?_)
  refine lv_aload_n hx hb d_Pl_goTo_16 rfl (lv_at hl 0 rfl) ?_
  refine lv_iload hx hb d_Pl_goTo_17 (lv_at hl 4 rfl) ?_
  obtain ⟨w, e4, h⟩ := gb h
  refine gw_put hx hb hT hown hK hI (ci := 5) rfl i_5 t_5 t_5_ok n_5 4 (by decide) wd_657 (fun _ h9 => h9) rfl (ty := .int) (by decide +kernel) rfl rfl e4 d_Pl_goTo_19 (fun H locs hI => ?_)
  exact W.widen (show 0 ≤ 0 by omega) (show 0 ≤ 0 by omega) (hret _ _ (Option.some.inj h).symm _ _ _ _ d_Pl_goTo_22 hI)

abbrev b_Pl_isAt : ByteArray := prog_6_method_2_code
def y_Pl_isAt : MethodName := ⟨"BodySolids$Placement", "isAt", "(JJII)Z"⟩
theorem d_Pl_isAt_0 : decode b_Pl_isAt 0 = .ok (.aload_n 0, 1) := by decide +kernel
theorem d_Pl_isAt_1 : decode b_Pl_isAt 1 = .ok (.getfield 13, 3) := by decide +kernel
theorem d_Pl_isAt_4 : decode b_Pl_isAt 4 = .ok (.lload_n 1, 1) := by decide +kernel
theorem d_Pl_isAt_5 : decode b_Pl_isAt 5 = .ok (.lcmp, 1) := by decide +kernel
theorem d_Pl_isAt_6 : decode b_Pl_isAt 6 = .ok (.ifCond .ne 34, 3) := by decide +kernel
theorem d_Pl_isAt_9 : decode b_Pl_isAt 9 = .ok (.aload_n 0, 1) := by decide +kernel
theorem d_Pl_isAt_10 : decode b_Pl_isAt 10 = .ok (.getfield 17, 3) := by decide +kernel
theorem d_Pl_isAt_13 : decode b_Pl_isAt 13 = .ok (.lload_n 3, 1) := by decide +kernel
theorem d_Pl_isAt_14 : decode b_Pl_isAt 14 = .ok (.lcmp, 1) := by decide +kernel
theorem d_Pl_isAt_15 : decode b_Pl_isAt 15 = .ok (.ifCond .ne 25, 3) := by decide +kernel
theorem d_Pl_isAt_18 : decode b_Pl_isAt 18 = .ok (.aload_n 0, 1) := by decide +kernel
theorem d_Pl_isAt_19 : decode b_Pl_isAt 19 = .ok (.getfield 20, 3) := by decide +kernel
theorem d_Pl_isAt_22 : decode b_Pl_isAt 22 = .ok (.iload 5, 2) := by decide +kernel
theorem d_Pl_isAt_24 : decode b_Pl_isAt 24 = .ok (.if_icmp .ne 16, 3) := by decide +kernel
theorem d_Pl_isAt_27 : decode b_Pl_isAt 27 = .ok (.aload_n 0, 1) := by decide +kernel
theorem d_Pl_isAt_28 : decode b_Pl_isAt 28 = .ok (.getfield 24, 3) := by decide +kernel
theorem d_Pl_isAt_31 : decode b_Pl_isAt 31 = .ok (.iload 6, 2) := by decide +kernel
theorem d_Pl_isAt_33 : decode b_Pl_isAt 33 = .ok (.if_icmp .ne 7, 3) := by decide +kernel
theorem d_Pl_isAt_36 : decode b_Pl_isAt 36 = .ok (.iconst 1, 1) := by decide +kernel
theorem d_Pl_isAt_37 : decode b_Pl_isAt 37 = .ok (.goto 4, 3) := by decide +kernel
theorem d_Pl_isAt_40 : decode b_Pl_isAt 40 = .ok (.iconst 0, 1) := by decide +kernel
theorem d_Pl_isAt_41 : decode b_Pl_isAt 41 = .ok (.ireturn, 1) := by decide +kernel
abbrev rm_Pl_isAt : Room := { frames := 0, cells := 0, slots := 0, locals := 0 }
theorem ce_Pl_isAt : gCe y_Pl_isAt (.code y_Pl_isAt b_Pl_isAt 7 (some .boolean)) 7 4 false := gCe.code wd_689 wd_68 wd_687 (by decide) (by decide +kernel)
def f_Pl_isAt (g0 : gG) (a0 : Nat) (p1 : Int64) (p2 : Int64) (p3 : Int32) (p4 : Int32) (w : gW) : gX Int32 := (gfJ w a0 5 1).bind fun v1 => gjoin (fun K41 => gjoin (fun K40 => if v1 = p1 then ((gfJ w a0 5 2).bind fun v6 => if v6 = p2 then ((gfI w a0 5 3).bind fun v9 => if v9 = p3 then ((gfI w a0 5 4).bind fun v12 => if v12 = p4 then (K41 1 w) else (K40 w)) else (K40 w)) else (K40 w)) else (K40 w)) (fun (w : gW) => K41 0 w)) (fun (y3 : Int32) (w : gW) => gguard (y3 = 0 ∨ y3 = 1) (some (.inr y3, w)))
set_option maxHeartbeats 4000000 in
set_option maxRecDepth 100000 in
theorem m_Pl_isAt (l : Launch) (hst : l.stackTraces = false) (D : gD) (g0 : gG) (a0 : Nat) (p1 : Int64) (p2 : Int64) (p3 : Int32) (p4 : Int32) (w : gW) (r : (String ⊕ Int32) × gW) (h : f_Pl_isAt g0 a0 p1 p2 p3 p4 w = some r) : gMet l y_Pl_isAt (.code y_Pl_isAt b_Pl_isAt 7 (some .boolean)) rm_Pl_isAt D g0 [.ref a0, .long p1, .long p2, .int p3, .int p4] w (goI r) := by
  refine gw_ofZ (by decide +kernel) (Nat.le_of_ble_eq_true rfl) ?_
  intro p e s m below meth c ls args A Q hx hb hml hown hlocks hin hnt hT hK hZ hA hret hexc hthr hI hl
  obtain ⟨H, hH⟩ : ∃ H, H = s.heap := ⟨_, rfl⟩
  rw [← hH] at hI ⊢
  obtain ⟨locs, hlocs⟩ : ∃ z : List Loc, z = [] := ⟨_, rfl⟩
  rw [← hlocs] at hI ⊢
  have hl : lv_has ls 7 [(0, .ref a0), (1, .long p1), (3, .long p2), (5, .int p3), (6, .int p4)] := hl
  unfold f_Pl_isAt at h
  refine lv_aload_n hx hb d_Pl_isAt_0 rfl (lv_at hl 0 rfl) ?_
  obtain ⟨v1, e2, h⟩ := gb h
  refine gw_getJ hx hb hT hown hK hI (ci := 5) rfl i_5 1 (by decide) wd_654 (fun _ h9 => h9) e2 d_Pl_isAt_1 ?_
  refine lv_lload_n hx hb d_Pl_isAt_4 rfl (lv_at hl 1 rfl) ?_
  refine W.lcmp hx hb d_Pl_isAt_5 ?_
  obtain ⟨K41, eK41, h⟩ := gj h
  have hK41 : ∀ (y3 : Int32) (w : gW) (H : Heap) (locs : List Loc) (ls : Array Slot), K41 y3 w = some r → gI D s A w H locs → lv_has ls 7 [] → W p l e rm_Pl_isAt s m args below meth c H locs 0 0 Q (F0 m 41 ls [.int y3]) := by
    intro y3 w H locs ls h hI hl
    have h := gk2 eK41 h
    obtain ⟨g4, h⟩ := gif h
    exact W.widen (show 0 ≤ 0 by omega) (show 0 ≤ 0 by omega) (hret g4 0 _ (Option.some.inj h).symm _ _ _ _ d_Pl_isAt_41 hI)
  obtain ⟨K40, eK40, h⟩ := gj h
  have hK40 : ∀ (w : gW) (H : Heap) (locs : List Loc) (ls : Array Slot), K40 w = some r → gI D s A w H locs → lv_has ls 7 [] → W p l e rm_Pl_isAt s m args below meth c H locs 0 0 Q (F0 m 40 ls []) := by
    intro w H locs ls h hI hl
    have h := gk1 eK40 h
    refine lv_iconst (v := 0) hx hb d_Pl_isAt_40 (by decide) ?_
    exact hK41 _ w H locs ls h hI (lv_sub hl [] rfl)
  refine lv_if_ne (tgt := 40) hx hb d_Pl_isAt_6 (by decide) (fun c5 => ?_) (fun c5 => ?_)
  · have c5 := mt (lg_cmp_eq _ _).mpr c5
    have h := gie c5 h
    exact hK40 w H locs ls h hI (lv_sub hl [] rfl)
  · have c5 := (lg_cmp_eq _ _).mp c5
    have h := git c5 h
    refine lv_aload_n hx hb d_Pl_isAt_9 rfl (lv_at hl 0 rfl) ?_
    obtain ⟨v6, e7, h⟩ := gb h
    refine gw_getJ hx hb hT hown hK hI (ci := 5) rfl i_5 2 (by decide) wd_655 (fun _ h9 => h9) e7 d_Pl_isAt_10 ?_
    refine lv_lload_n hx hb d_Pl_isAt_13 rfl (lv_at hl 2 rfl) ?_
    refine W.lcmp hx hb d_Pl_isAt_14 ?_
    refine lv_if_ne (tgt := 40) hx hb d_Pl_isAt_15 (by decide) (fun c8 => ?_) (fun c8 => ?_)
    · have c8 := mt (lg_cmp_eq _ _).mpr c8
      have h := gie c8 h
      exact hK40 w H locs ls h hI (lv_sub hl [] rfl)
    · have c8 := (lg_cmp_eq _ _).mp c8
      have h := git c8 h
      refine lv_aload_n hx hb d_Pl_isAt_18 rfl (lv_at hl 0 rfl) ?_
      obtain ⟨v9, e10, h⟩ := gb h
      refine gw_getI hx hb hT hown hK hI (ci := 5) rfl i_5 3 (by decide) wd_656 (fun _ h9 => h9) e10 d_Pl_isAt_19 ?_
      refine lv_iload hx hb d_Pl_isAt_22 (lv_at hl 3 rfl) ?_
      refine lv_icmp_ne (tgt := 40) hx hb d_Pl_isAt_24 (by decide) (fun c11 => ?_) (fun c11 => ?_)
      · skip
        have h := gie c11 h
        exact hK40 w H locs ls h hI (lv_sub hl [] rfl)
      · skip
        have h := git c11 h
        refine lv_aload_n hx hb d_Pl_isAt_27 rfl (lv_at hl 0 rfl) ?_
        obtain ⟨v12, e13, h⟩ := gb h
        refine gw_getI hx hb hT hown hK hI (ci := 5) rfl i_5 4 (by decide) wd_657 (fun _ h9 => h9) e13 d_Pl_isAt_28 ?_
        refine lv_iload hx hb d_Pl_isAt_31 (lv_at hl 4 rfl) ?_
        refine lv_icmp_ne (tgt := 40) hx hb d_Pl_isAt_33 (by decide) (fun c14 => ?_) (fun c14 => ?_)
        · skip
          have h := gie c14 h
          exact hK40 w H locs ls h hI (lv_sub hl [] rfl)
        · skip
          have h := git c14 h
          refine lv_iconst (v := 1) hx hb d_Pl_isAt_36 (by decide) ?_
          refine lv_goto (tgt := 41) hx hb d_Pl_isAt_37 (by decide) ?_
          exact hK41 _ w H locs ls h hI (lv_sub hl [] rfl)

abbrev b_Ko_init : ByteArray := prog_3_method_1_code
def y_Ko_init : MethodName := ⟨"BodySolids$KeepOut", "<init>", "(LBodySolids$Solid;I)V"⟩
theorem d_Ko_init_0 : decode b_Ko_init 0 = .ok (.aload_n 0, 1) := by decide +kernel
theorem d_Ko_init_1 : decode b_Ko_init 1 = .ok (.invokespecial 1, 3) := by decide +kernel
theorem d_Ko_init_4 : decode b_Ko_init 4 = .ok (.aload_n 0, 1) := by decide +kernel
theorem d_Ko_init_5 : decode b_Ko_init 5 = .ok (.aload_n 1, 1) := by decide +kernel
theorem d_Ko_init_6 : decode b_Ko_init 6 = .ok (.putfield 7, 3) := by decide +kernel
theorem d_Ko_init_9 : decode b_Ko_init 9 = .ok (.aload_n 0, 1) := by decide +kernel
theorem d_Ko_init_10 : decode b_Ko_init 10 = .ok (.iload_n 2, 1) := by decide +kernel
theorem d_Ko_init_11 : decode b_Ko_init 11 = .ok (.putfield 13, 3) := by decide +kernel
theorem d_Ko_init_14 : decode b_Ko_init 14 = .ok (.return_, 1) := by decide +kernel
abbrev rm_Ko_init : Room := { frames := 1, cells := 0, slots := 0, locals := 22 }
theorem ce_Ko_init : gCe y_Ko_init (.code y_Ko_init b_Ko_init 3 none) 3 2 false := gCe.code wd_717 wd_70 wd_716 (by decide) (by decide +kernel)
def f_Ko_init (g0 : gG) (a0 : Nat) (a1 : Nat) (p2 : Int32) (w : gW) : gX Unit := (gp w a0 6 0 (.ref a1)).bind fun w => (gp w a0 6 1 (.int p2)).bind fun w => some (.inr (), w)
set_option maxHeartbeats 4000000 in
set_option maxRecDepth 100000 in
theorem m_Ko_init (l : Launch) (hst : l.stackTraces = false) (D : gD) (g0 : gG) (a0 : Nat) (a1 : Nat) (p2 : Int32) (w : gW) (r : (String ⊕ Unit) × gW) (h : f_Ko_init g0 a0 a1 p2 w = some r) : gMet l y_Ko_init (.code y_Ko_init b_Ko_init 3 none) rm_Ko_init D g0 [.ref a0, .ref a1, .int p2] w (goV r) := by
  refine gw_ofV (by decide +kernel) (Nat.le_of_ble_eq_true rfl) ?_
  intro p e s m below meth c ls args A Q hx hb hml hown hlocks hin hnt hT hK hZ hA hret hexc hthr hI hl
  obtain ⟨H, hH⟩ : ∃ H, H = s.heap := ⟨_, rfl⟩
  rw [← hH] at hI ⊢
  obtain ⟨locs, hlocs⟩ : ∃ z : List Loc, z = [] := ⟨_, rfl⟩
  rw [← hlocs] at hI ⊢
  have hl : lv_has ls 3 [(0, .ref a0), (1, .ref a1), (2, .int p2)] := hl
  unfold f_Ko_init at h
  refine lv_aload_n hx hb d_Ko_init_0 rfl (lv_at hl 0 rfl) ?_
  refine W.objInit hx hb hown (hT _ wd_718 args) (hT _ wd_78 args) (hT _ wd_79 args) rfl (by rw [hml]; exact hl.1) rfl d_Ko_init_1 (Nat.le_of_ble_eq_true rfl) (Nat.le_of_ble_eq_true rfl) ?_
  refine W.eq (g2 := F0 m 4 ls []) rfl ?_
  refine lv_aload_n hx hb d_Ko_init_4 rfl (lv_at hl 0 rfl) ?_
  refine lv_aload_n hx hb d_Ko_init_5 rfl (lv_at hl 1 rfl) ?_
  obtain ⟨w, e1, h⟩ := gb h
  refine gw_putF hx hb hT hown hK hI (ci := 6) rfl i_6 t_6 t_6_ok n_6 0 (by decide) wd_719 (fun _ h9 => h9) rfl hin rfl (ty := .object "BodySolids$Solid") (by decide +kernel) rfl rfl e1 d_Ko_init_6 (fun H locs hI => ?_)
  refine lv_aload_n hx hb d_Ko_init_9 rfl (lv_at hl 0 rfl) ?_
  refine lv_iload_n hx hb d_Ko_init_10 rfl (lv_at hl 2 rfl) ?_
  obtain ⟨w, e2, h⟩ := gb h
  refine gw_putF hx hb hT hown hK hI (ci := 6) rfl i_6 t_6 t_6_ok n_6 1 (by decide) wd_721 (fun _ h9 => h9) rfl hin rfl (ty := .int) (by decide +kernel) rfl rfl e2 d_Ko_init_11 (fun H locs hI => ?_)
  exact W.widen (show 0 ≤ 0 by omega) (show 0 ≤ 0 by omega) (hret _ _ (Option.some.inj h).symm _ _ _ _ d_Ko_init_14 hI)

abbrev b_B_init : ByteArray := prog_1_method_1_code
def y_B_init : MethodName := ⟨"BodySolids", "<init>", "(J)V"⟩
theorem d_B_init_0 : decode b_B_init 0 = .ok (.aload_n 0, 1) := by decide +kernel
theorem d_B_init_1 : decode b_B_init 1 = .ok (.invokespecial 1, 3) := by decide +kernel
theorem d_B_init_4 : decode b_B_init 4 = .ok (.aload_n 0, 1) := by decide +kernel
theorem d_B_init_5 : decode b_B_init 5 = .ok (.lconst 0, 1) := by decide +kernel
theorem d_B_init_6 : decode b_B_init 6 = .ok (.ldc2_w 9, 3) := by decide +kernel
theorem d_B_init_9 : decode b_B_init 9 = .ok (.lload_n 1, 1) := by decide +kernel
theorem d_B_init_10 : decode b_B_init 10 = .ok (.invokestatic 11, 3) := by decide +kernel
theorem d_B_init_13 : decode b_B_init 13 = .ok (.invokestatic 17, 3) := by decide +kernel
theorem d_B_init_16 : decode b_B_init 16 = .ok (.putfield 20, 3) := by decide +kernel
theorem d_B_init_19 : decode b_B_init 19 = .ok (.aload_n 0, 1) := by decide +kernel
theorem d_B_init_20 : decode b_B_init 20 = .ok (.new 24, 3) := by decide +kernel
theorem d_B_init_23 : decode b_B_init 23 = .ok (.dup, 1) := by decide +kernel
theorem d_B_init_24 : decode b_B_init 24 = .ok (.invokespecial 26, 3) := by decide +kernel
theorem d_B_init_27 : decode b_B_init 27 = .ok (.putfield 27, 3) := by decide +kernel
theorem d_B_init_30 : decode b_B_init 30 = .ok (.aload_n 0, 1) := by decide +kernel
theorem d_B_init_31 : decode b_B_init 31 = .ok (.new 24, 3) := by decide +kernel
theorem d_B_init_34 : decode b_B_init 34 = .ok (.dup, 1) := by decide +kernel
theorem d_B_init_35 : decode b_B_init 35 = .ok (.invokespecial 26, 3) := by decide +kernel
theorem d_B_init_38 : decode b_B_init 38 = .ok (.putfield 31, 3) := by decide +kernel
theorem d_B_init_41 : decode b_B_init 41 = .ok (.aload_n 0, 1) := by decide +kernel
theorem d_B_init_42 : decode b_B_init 42 = .ok (.new 24, 3) := by decide +kernel
theorem d_B_init_45 : decode b_B_init 45 = .ok (.dup, 1) := by decide +kernel
theorem d_B_init_46 : decode b_B_init 46 = .ok (.invokespecial 26, 3) := by decide +kernel
theorem d_B_init_49 : decode b_B_init 49 = .ok (.putfield 34, 3) := by decide +kernel
theorem d_B_init_52 : decode b_B_init 52 = .ok (.aload_n 0, 1) := by decide +kernel
theorem d_B_init_53 : decode b_B_init 53 = .ok (.bipush 8, 2) := by decide +kernel
theorem d_B_init_55 : decode b_B_init 55 = .ok (.newarray .long, 2) := by decide +kernel
theorem d_B_init_57 : decode b_B_init 57 = .ok (.putfield 37, 3) := by decide +kernel
theorem d_B_init_60 : decode b_B_init 60 = .ok (.aload_n 0, 1) := by decide +kernel
theorem d_B_init_61 : decode b_B_init 61 = .ok (.bipush 8, 2) := by decide +kernel
theorem d_B_init_63 : decode b_B_init 63 = .ok (.newarray .long, 2) := by decide +kernel
theorem d_B_init_65 : decode b_B_init 65 = .ok (.putfield 41, 3) := by decide +kernel
theorem d_B_init_68 : decode b_B_init 68 = .ok (.aload_n 0, 1) := by decide +kernel
theorem d_B_init_69 : decode b_B_init 69 = .ok (.iconst 0, 1) := by decide +kernel
theorem d_B_init_70 : decode b_B_init 70 = .ok (.putfield 44, 3) := by decide +kernel
theorem d_B_init_73 : decode b_B_init 73 = .ok (.aload_n 0, 1) := by decide +kernel
theorem d_B_init_74 : decode b_B_init 74 = .ok (.sipush 900, 3) := by decide +kernel
theorem d_B_init_77 : decode b_B_init 77 = .ok (.newarray .int, 2) := by decide +kernel
theorem d_B_init_79 : decode b_B_init 79 = .ok (.putfield 48, 3) := by decide +kernel
theorem d_B_init_82 : decode b_B_init 82 = .ok (.aload_n 0, 1) := by decide +kernel
theorem d_B_init_83 : decode b_B_init 83 = .ok (.getfield 48, 3) := by decide +kernel
theorem d_B_init_86 : decode b_B_init 86 = .ok (.iconst (-1), 1) := by decide +kernel
theorem d_B_init_87 : decode b_B_init 87 = .ok (.invokestatic 52, 3) := by decide +kernel
theorem d_B_init_90 : decode b_B_init 90 = .ok (.aload_n 0, 1) := by decide +kernel
theorem d_B_init_91 : decode b_B_init 91 = .ok (.new 58, 3) := by decide +kernel
theorem d_B_init_94 : decode b_B_init 94 = .ok (.dup, 1) := by decide +kernel
theorem d_B_init_95 : decode b_B_init 95 = .ok (.invokespecial 60, 3) := by decide +kernel
theorem d_B_init_98 : decode b_B_init 98 = .ok (.putfield 61, 3) := by decide +kernel
theorem d_B_init_101 : decode b_B_init 101 = .ok (.aload_n 0, 1) := by decide +kernel
theorem d_B_init_102 : decode b_B_init 102 = .ok (.new 58, 3) := by decide +kernel
theorem d_B_init_105 : decode b_B_init 105 = .ok (.dup, 1) := by decide +kernel
theorem d_B_init_106 : decode b_B_init 106 = .ok (.invokespecial 60, 3) := by decide +kernel
theorem d_B_init_109 : decode b_B_init 109 = .ok (.putfield 65, 3) := by decide +kernel
theorem d_B_init_112 : decode b_B_init 112 = .ok (.return_, 1) := by decide +kernel
abbrev rm_B_init : Room := { frames := 4, cells := 88, slots := 1681, locals := 82 }
theorem ce_B_init : gCe y_B_init (.code y_B_init b_B_init 3 none) 3 1 false := gCe.code wd_76 wd_49 wd_75 (by decide) (by decide +kernel)
def f_B_init (g0 : gG) (a0 : Nat) (p1 : Int64) (w : gW) : gX Unit := gbind (f_Ma_min2 g0 1000 p1 w) fun v3 w => gbind (f_Ma_max2 g0 0 v3 w) fun v6 w => (gp w a0 0 0 (.long v6)).bind fun w => gb2f (gnw w 1 [.null, .int 0, .int 0]) fun o8 w => gbind (f_AL_init g0 o8 w) fun v12 w => (gp w a0 0 1 (.ref o8)).bind fun w => gb2f (gnw w 1 [.null, .int 0, .int 0]) fun o14 w => gbind (f_AL_init g0 o14 w) fun v18 w => (gp w a0 0 2 (.ref o14)).bind fun w => gb2f (gnw w 1 [.null, .int 0, .int 0]) fun o20 w => gbind (f_AL_init g0 o20 w) fun v24 w => (gp w a0 0 3 (.ref o20)).bind fun w => gb2f (gna w 1 8 8 (.long 0)) fun o26 w => (gp w a0 0 4 (.ref o26)).bind fun w => gb2f (gna w 1 8 8 (.long 0)) fun o29 w => (gp w a0 0 5 (.ref o29)).bind fun w => (gp w a0 0 6 (.int 0)).bind fun w => gb2f (gna w 0 900 900 (.int 0)) fun o33 w => (gp w a0 0 7 (.ref o33)).bind fun w => (gfA w a0 0 7).bind fun v36 => gbind (f_Ar_fill g0 v36 (-1) w) fun v40 w => gb2f (gnw w 2 [.null, .int 0]) fun o41 w => gbind (f_La_init g0 o41 w) fun v45 w => (gp w a0 0 8 (.ref o41)).bind fun w => gb2f (gnw w 2 [.null, .int 0]) fun o47 w => gbind (f_La_init g0 o47 w) fun v51 w => (gp w a0 0 9 (.ref o47)).bind fun w => some (.inr (), w)
set_option maxHeartbeats 4000000 in
set_option maxRecDepth 100000 in
theorem m_B_init (l : Launch) (hst : l.stackTraces = false) (D : gD) (g0 : gG) (a0 : Nat) (p1 : Int64) (w : gW) (r : (String ⊕ Unit) × gW) (h : f_B_init g0 a0 p1 w = some r) : gMet l y_B_init (.code y_B_init b_B_init 3 none) rm_B_init D g0 [.ref a0, .long p1] w (goV r) := by
  refine gw_ofV (by decide +kernel) (Nat.le_of_ble_eq_true rfl) ?_
  intro p e s m below meth c ls args A Q hx hb hml hown hlocks hin hnt hT hK hZ hA hret hexc hthr hI hl
  obtain ⟨H, hH⟩ : ∃ H, H = s.heap := ⟨_, rfl⟩
  rw [← hH] at hI ⊢
  obtain ⟨locs, hlocs⟩ : ∃ z : List Loc, z = [] := ⟨_, rfl⟩
  rw [← hlocs] at hI ⊢
  have hl : lv_has ls 3 [(0, .ref a0), (1, .long p1)] := hl
  unfold f_B_init at h
  refine lv_aload_n hx hb d_B_init_0 rfl (lv_at hl 0 rfl) ?_
  refine W.objInit hx hb hown (hT _ wd_77 args) (hT _ wd_78 args) (hT _ wd_79 args) rfl (by rw [hml]; exact hl.1) rfl d_B_init_1 (Nat.le_of_ble_eq_true rfl) (Nat.le_of_ble_eq_true rfl) ?_
  refine W.eq (g2 := F0 m 4 ls []) rfl ?_
  refine lv_aload_n hx hb d_B_init_4 rfl (lv_at hl 0 rfl) ?_
  refine lv_lconst (v := 0) hx hb d_B_init_5 (by decide) ?_
  refine lv_ldc2 (v := 1000) hx hb hown (hT _ wd_80 args) d_B_init_6 ?_
  refine lv_lload_n hx hb d_B_init_9 rfl (lv_at hl 1 rfl) ?_
  obtain ⟨u1, e2⟩ := gsome h
  refine gw_callJ e2 h (gw_runS (As := [.long 1000, .long p1]) (rest := [.long 0, .ref a0]) hx hb hml hown hT hK hZ hA hI (m_Ma_min2 l hst D g0 1000 p1 w u1 e2) ce_Ma_min2 wd_81 ⟨by decide, by decide⟩ rfl rfl hl.1 rfl (lv_room (Nat.le_of_ble_eq_true rfl)) d_B_init_10 ⟨(show 0 + 0 ≤ 88 by omega), (show 0 + 0 ≤ 1681 by omega)⟩) hI hA hexc (show 0 + 0 ≤ 88 by omega) (show 0 + 0 ≤ 1681 by omega) (fun v3 w H locs h hI => ?_)
  obtain ⟨u4, e5⟩ := gsome h
  refine gw_callJ e5 h (gw_runS (As := [.long 0, .long v3]) (rest := [.ref a0]) hx hb hml hown hT hK hZ hA hI (m_Ma_max2 l hst D g0 0 v3 w u4 e5) ce_Ma_max2 wd_84 ⟨by decide, by decide⟩ rfl rfl hl.1 rfl (lv_room (Nat.le_of_ble_eq_true rfl)) d_B_init_13 ⟨(show 0 + 0 ≤ 88 by omega), (show 0 + 0 ≤ 1681 by omega)⟩) hI hA hexc (show 0 + 0 ≤ 88 by omega) (show 0 + 0 ≤ 1681 by omega) (fun v6 w H locs h hI => ?_)
  obtain ⟨w, e7, h⟩ := gb h
  refine gw_putF hx hb hT hown hK hI (ci := 0) rfl i_0 t_0 t_0_ok n_0 0 (by decide) wd_189 (fun _ h9 => h9) rfl hin rfl (ty := .long) (by decide +kernel) rfl rfl e7 d_B_init_16 (fun H locs hI => ?_)
  refine lv_aload_n hx hb d_B_init_19 rfl (lv_at hl 0 rfl) ?_
  obtain ⟨o8, w, e9, h⟩ := gb2 h
  refine gw_new hx hb hT hown hK hI hA (ci := 1) rfl i_1 t_1 t_1_ok wd_87 wd_88 wd_53 (fs := [.null, .int 0, .int 0]) df_1 e9 (show 0 + 1 ≤ 88 by omega) (show 0 + 3 ≤ 1681 by omega) d_B_init_20 (fun H hI => ?_)
  refine W.widen (k := 1) (n := 3) (show 0 + 1 ≤ 1 by omega) (show 0 + 3 ≤ 3 by omega) ?_
  refine lv_dup hx hb d_B_init_23 rfl ?_
  obtain ⟨u10, e11⟩ := gsome h
  refine gw_callV e11 h (gw_runI (As := []) (rest := [.ref o8, .ref a0]) hx hb hml hown hT hK hZ hA hI (m_AL_init l hst D g0 o8 w u10 e11) ce_AL_init wd_89 rfl ⟨by decide, by decide⟩ rfl rfl hl.1 rfl (lv_room (Nat.le_of_ble_eq_true rfl)) d_B_init_24 ⟨(show 1 + 0 ≤ 88 by omega), (show 3 + 0 ≤ 1681 by omega)⟩) hI hA hexc (show 1 + 0 ≤ 88 by omega) (show 3 + 0 ≤ 1681 by omega) (fun v12 w H locs h hI => ?_)
  obtain ⟨w, e13, h⟩ := gb h
  refine gw_putF hx hb hT hown hK hI (ci := 0) rfl i_0 t_0 t_0_ok n_0 1 (by decide) wd_190 (fun _ h9 => h9) rfl hin rfl (ty := .object "java/util/ArrayList") (by decide +kernel) rfl rfl e13 d_B_init_27 (fun H locs hI => ?_)
  refine lv_aload_n hx hb d_B_init_30 rfl (lv_at hl 0 rfl) ?_
  obtain ⟨o14, w, e15, h⟩ := gb2 h
  refine gw_new hx hb hT hown hK hI hA (ci := 1) rfl i_1 t_1 t_1_ok wd_87 wd_88 wd_53 (fs := [.null, .int 0, .int 0]) df_1 e15 (show 1 + 1 ≤ 88 by omega) (show 3 + 3 ≤ 1681 by omega) d_B_init_31 (fun H hI => ?_)
  refine W.widen (k := 2) (n := 6) (show 1 + 1 ≤ 2 by omega) (show 3 + 3 ≤ 6 by omega) ?_
  refine lv_dup hx hb d_B_init_34 rfl ?_
  obtain ⟨u16, e17⟩ := gsome h
  refine gw_callV e17 h (gw_runI (As := []) (rest := [.ref o14, .ref a0]) hx hb hml hown hT hK hZ hA hI (m_AL_init l hst D g0 o14 w u16 e17) ce_AL_init wd_89 rfl ⟨by decide, by decide⟩ rfl rfl hl.1 rfl (lv_room (Nat.le_of_ble_eq_true rfl)) d_B_init_35 ⟨(show 2 + 0 ≤ 88 by omega), (show 6 + 0 ≤ 1681 by omega)⟩) hI hA hexc (show 2 + 0 ≤ 88 by omega) (show 6 + 0 ≤ 1681 by omega) (fun v18 w H locs h hI => ?_)
  obtain ⟨w, e19, h⟩ := gb h
  refine gw_putF hx hb hT hown hK hI (ci := 0) rfl i_0 t_0 t_0_ok n_0 2 (by decide) wd_191 (fun _ h9 => h9) rfl hin rfl (ty := .object "java/util/ArrayList") (by decide +kernel) rfl rfl e19 d_B_init_38 (fun H locs hI => ?_)
  refine lv_aload_n hx hb d_B_init_41 rfl (lv_at hl 0 rfl) ?_
  obtain ⟨o20, w, e21, h⟩ := gb2 h
  refine gw_new hx hb hT hown hK hI hA (ci := 1) rfl i_1 t_1 t_1_ok wd_87 wd_88 wd_53 (fs := [.null, .int 0, .int 0]) df_1 e21 (show 2 + 1 ≤ 88 by omega) (show 6 + 3 ≤ 1681 by omega) d_B_init_42 (fun H hI => ?_)
  refine W.widen (k := 3) (n := 9) (show 2 + 1 ≤ 3 by omega) (show 6 + 3 ≤ 9 by omega) ?_
  refine lv_dup hx hb d_B_init_45 rfl ?_
  obtain ⟨u22, e23⟩ := gsome h
  refine gw_callV e23 h (gw_runI (As := []) (rest := [.ref o20, .ref a0]) hx hb hml hown hT hK hZ hA hI (m_AL_init l hst D g0 o20 w u22 e23) ce_AL_init wd_89 rfl ⟨by decide, by decide⟩ rfl rfl hl.1 rfl (lv_room (Nat.le_of_ble_eq_true rfl)) d_B_init_46 ⟨(show 3 + 0 ≤ 88 by omega), (show 9 + 0 ≤ 1681 by omega)⟩) hI hA hexc (show 3 + 0 ≤ 88 by omega) (show 9 + 0 ≤ 1681 by omega) (fun v24 w H locs h hI => ?_)
  obtain ⟨w, e25, h⟩ := gb h
  refine gw_putF hx hb hT hown hK hI (ci := 0) rfl i_0 t_0 t_0_ok n_0 3 (by decide) wd_192 (fun _ h9 => h9) rfl hin rfl (ty := .object "java/util/ArrayList") (by decide +kernel) rfl rfl e25 d_B_init_49 (fun H locs hI => ?_)
  refine lv_aload_n hx hb d_B_init_52 rfl (lv_at hl 0 rfl) ?_
  refine lv_bipush (v := 8) hx hb d_B_init_53 (by decide) ?_
  obtain ⟨o26, w, e27, h⟩ := gb2 h
  refine gw_newa (atype := .long) (ty := .long) (M := 8) hx hb hK hI hA (hT _ wd_178 args) rfl (k := 1) rfl (fun h9 => h9) e27 (show 3 + 1 ≤ 88 by omega) (show 9 + 8 ≤ 1681 by omega) (show 8 * 8 ≤ 536870912 by omega) d_B_init_55 (fun H hI => ?_)
  refine W.widen (k := 4) (n := 17) (show 3 + 1 ≤ 4 by omega) (show 9 + 8 ≤ 17 by omega) ?_
  obtain ⟨w, e28, h⟩ := gb h
  refine gw_putF hx hb hT hown hK hI (ci := 0) rfl i_0 t_0 t_0_ok n_0 4 (by decide) wd_193 (fun _ h9 => h9) rfl hin rfl (ty := .array .long) (by decide +kernel) rfl rfl e28 d_B_init_57 (fun H locs hI => ?_)
  refine lv_aload_n hx hb d_B_init_60 rfl (lv_at hl 0 rfl) ?_
  refine lv_bipush (v := 8) hx hb d_B_init_61 (by decide) ?_
  obtain ⟨o29, w, e30, h⟩ := gb2 h
  refine gw_newa (atype := .long) (ty := .long) (M := 8) hx hb hK hI hA (hT _ wd_178 args) rfl (k := 1) rfl (fun h9 => h9) e30 (show 4 + 1 ≤ 88 by omega) (show 17 + 8 ≤ 1681 by omega) (show 8 * 8 ≤ 536870912 by omega) d_B_init_63 (fun H hI => ?_)
  refine W.widen (k := 5) (n := 25) (show 4 + 1 ≤ 5 by omega) (show 17 + 8 ≤ 25 by omega) ?_
  obtain ⟨w, e31, h⟩ := gb h
  refine gw_putF hx hb hT hown hK hI (ci := 0) rfl i_0 t_0 t_0_ok n_0 5 (by decide) wd_194 (fun _ h9 => h9) rfl hin rfl (ty := .array .long) (by decide +kernel) rfl rfl e31 d_B_init_65 (fun H locs hI => ?_)
  refine lv_aload_n hx hb d_B_init_68 rfl (lv_at hl 0 rfl) ?_
  refine lv_iconst (v := 0) hx hb d_B_init_69 (by decide) ?_
  obtain ⟨w, e32, h⟩ := gb h
  refine gw_put hx hb hT hown hK hI (ci := 0) rfl i_0 t_0 t_0_ok n_0 6 (by decide) wd_195 (fun _ h9 => h9) rfl (ty := .int) (by decide +kernel) rfl rfl e32 d_B_init_70 (fun H locs hI => ?_)
  refine lv_aload_n hx hb d_B_init_73 rfl (lv_at hl 0 rfl) ?_
  refine lv_sipush (v := 900) hx hb d_B_init_74 (by decide) ?_
  obtain ⟨o33, w, e34, h⟩ := gb2 h
  refine gw_newa (atype := .int) (ty := .int) (M := 900) hx hb hK hI hA (hT _ wd_179 args) rfl (k := 0) rfl (fun h9 => h9) e34 (show 5 + 1 ≤ 88 by omega) (show 25 + 900 ≤ 1681 by omega) (show 900 * 4 ≤ 536870912 by omega) d_B_init_77 (fun H hI => ?_)
  refine W.widen (k := 6) (n := 925) (show 5 + 1 ≤ 6 by omega) (show 25 + 900 ≤ 925 by omega) ?_
  obtain ⟨w, e35, h⟩ := gb h
  refine gw_putF hx hb hT hown hK hI (ci := 0) rfl i_0 t_0 t_0_ok n_0 7 (by decide) wd_196 (fun _ h9 => h9) rfl hin rfl (ty := .array .int) (by decide +kernel) rfl rfl e35 d_B_init_79 (fun H locs hI => ?_)
  refine lv_aload_n hx hb d_B_init_82 rfl (lv_at hl 0 rfl) ?_
  obtain ⟨v36, e37, h⟩ := gb h
  refine gw_getA hx hb hT hown hK hI (ci := 0) rfl i_0 7 (by decide) wd_196 (fun _ h9 => h9) e37 d_B_init_83 ?_
  refine lv_iconst (v := -1) hx hb d_B_init_86 (by decide) ?_
  obtain ⟨u38, e39⟩ := gsome h
  refine gw_callV e39 h (gw_runS (As := [.ref v36, .int (-1)]) (rest := []) hx hb hml hown hT hK hZ hA hI (m_Ar_fill l hst D g0 v36 (-1) w u38 e39) ce_Ar_fill wd_113 ⟨by decide, by decide⟩ rfl rfl hl.1 rfl (lv_room (Nat.le_of_ble_eq_true rfl)) d_B_init_87 ⟨(show 6 + 0 ≤ 88 by omega), (show 925 + 0 ≤ 1681 by omega)⟩) hI hA hexc (show 6 + 0 ≤ 88 by omega) (show 925 + 0 ≤ 1681 by omega) (fun v40 w H locs h hI => ?_)
  refine lv_aload_n hx hb d_B_init_90 rfl (lv_at hl 0 rfl) ?_
  obtain ⟨o41, w, e42, h⟩ := gb2 h
  refine gw_new hx hb hT hown hK hI hA (ci := 2) rfl i_2 t_2 t_2_ok wd_116 wd_117 wd_55 (fs := [.null, .int 0]) df_2 e42 (show 6 + 1 ≤ 88 by omega) (show 925 + 2 ≤ 1681 by omega) d_B_init_91 (fun H hI => ?_)
  refine W.widen (k := 7) (n := 927) (show 6 + 1 ≤ 7 by omega) (show 925 + 2 ≤ 927 by omega) ?_
  refine lv_dup hx hb d_B_init_94 rfl ?_
  obtain ⟨u43, e44⟩ := gsome h
  refine gw_callV e44 h (gw_runI (As := []) (rest := [.ref o41, .ref a0]) hx hb hml hown hT hK hZ hA hI (m_La_init l hst D g0 o41 w u43 e44) ce_La_init wd_118 rfl ⟨by decide, by decide⟩ rfl rfl hl.1 rfl (lv_room (Nat.le_of_ble_eq_true rfl)) d_B_init_95 ⟨(show 7 + 40 ≤ 88 by omega), (show 927 + 376 ≤ 1681 by omega)⟩) hI hA hexc (show 7 + 40 ≤ 88 by omega) (show 927 + 376 ≤ 1681 by omega) (fun v45 w H locs h hI => ?_)
  refine W.widen (k := 47) (n := 1303) (show 7 + 40 ≤ 47 by omega) (show 927 + 376 ≤ 1303 by omega) ?_
  obtain ⟨w, e46, h⟩ := gb h
  refine gw_putF hx hb hT hown hK hI (ci := 0) rfl i_0 t_0 t_0_ok n_0 8 (by decide) wd_197 (fun _ h9 => h9) rfl hin rfl (ty := .object "BodySolids$Layout") (by decide +kernel) rfl rfl e46 d_B_init_98 (fun H locs hI => ?_)
  refine lv_aload_n hx hb d_B_init_101 rfl (lv_at hl 0 rfl) ?_
  obtain ⟨o47, w, e48, h⟩ := gb2 h
  refine gw_new hx hb hT hown hK hI hA (ci := 2) rfl i_2 t_2 t_2_ok wd_116 wd_117 wd_55 (fs := [.null, .int 0]) df_2 e48 (show 47 + 1 ≤ 88 by omega) (show 1303 + 2 ≤ 1681 by omega) d_B_init_102 (fun H hI => ?_)
  refine W.widen (k := 48) (n := 1305) (show 47 + 1 ≤ 48 by omega) (show 1303 + 2 ≤ 1305 by omega) ?_
  refine lv_dup hx hb d_B_init_105 rfl ?_
  obtain ⟨u49, e50⟩ := gsome h
  refine gw_callV e50 h (gw_runI (As := []) (rest := [.ref o47, .ref a0]) hx hb hml hown hT hK hZ hA hI (m_La_init l hst D g0 o47 w u49 e50) ce_La_init wd_118 rfl ⟨by decide, by decide⟩ rfl rfl hl.1 rfl (lv_room (Nat.le_of_ble_eq_true rfl)) d_B_init_106 ⟨(show 48 + 40 ≤ 88 by omega), (show 1305 + 376 ≤ 1681 by omega)⟩) hI hA hexc (show 48 + 40 ≤ 88 by omega) (show 1305 + 376 ≤ 1681 by omega) (fun v51 w H locs h hI => ?_)
  refine W.widen (k := 88) (n := 1681) (show 48 + 40 ≤ 88 by omega) (show 1305 + 376 ≤ 1681 by omega) ?_
  obtain ⟨w, e52, h⟩ := gb h
  refine gw_putF hx hb hT hown hK hI (ci := 0) rfl i_0 t_0 t_0_ok n_0 9 (by decide) wd_198 (fun _ h9 => h9) rfl hin rfl (ty := .object "BodySolids$Layout") (by decide +kernel) rfl rfl e52 d_B_init_109 (fun H locs hI => ?_)
  exact W.widen (show 88 ≤ 88 by omega) (show 1681 ≤ 1681 by omega) (hret _ _ (Option.some.inj h).symm _ _ _ _ d_B_init_112 hI)

abbrev b_B_addBody : ByteArray := prog_1_method_27_code
def y_B_addBody : MethodName := ⟨"BodySolids", "addBody", "(LBodySolids$Body;)I"⟩
theorem d_B_addBody_0 : decode b_B_addBody 0 = .ok (.aload_n 0, 1) := by decide +kernel
theorem d_B_addBody_1 : decode b_B_addBody 1 = .ok (.getfield 27, 3) := by decide +kernel
theorem d_B_addBody_4 : decode b_B_addBody 4 = .ok (.aload_n 1, 1) := by decide +kernel
theorem d_B_addBody_5 : decode b_B_addBody 5 = .ok (.invokevirtual 171, 3) := by decide +kernel
theorem d_B_addBody_8 : decode b_B_addBody 8 = .ok (.pop, 1) := by decide +kernel
theorem d_B_addBody_9 : decode b_B_addBody 9 = .ok (.aload_n 0, 1) := by decide +kernel
theorem d_B_addBody_10 : decode b_B_addBody 10 = .ok (.getfield 27, 3) := by decide +kernel
theorem d_B_addBody_13 : decode b_B_addBody 13 = .ok (.invokevirtual 68, 3) := by decide +kernel
theorem d_B_addBody_16 : decode b_B_addBody 16 = .ok (.iconst 1, 1) := by decide +kernel
theorem d_B_addBody_17 : decode b_B_addBody 17 = .ok (.isub, 1) := by decide +kernel
theorem d_B_addBody_18 : decode b_B_addBody 18 = .ok (.ireturn, 1) := by decide +kernel
abbrev rm_B_addBody : Room := { frames := 7, cells := 1, slots := 64, locals := 179 }
theorem ce_B_addBody : gCe y_B_addBody (.code y_B_addBody b_B_addBody 2 (some .int)) 2 1 false := gCe.code wd_249 wd_49 wd_248 (by decide) (by decide +kernel)
def f_B_addBody (g0 : gG) (a0 : Nat) (a1 : Nat) (w : gW) : gX Int32 := (gfA w a0 0 1).bind fun v1 => (gck w v1 1).bind fun _ => gbind (f_AL_add g0 v1 a1 w) fun v7 w => (gfA w a0 0 1).bind fun v8 => (gck w v8 1).bind fun _ => gbind (f_AL_size g0 v8 w) fun v14 w => some (.inr (v14 - 1), w)
set_option maxHeartbeats 4000000 in
set_option maxRecDepth 100000 in
theorem m_B_addBody (l : Launch) (hst : l.stackTraces = false) (D : gD) (g0 : gG) (a0 : Nat) (a1 : Nat) (w : gW) (r : (String ⊕ Int32) × gW) (h : f_B_addBody g0 a0 a1 w = some r) : gMet l y_B_addBody (.code y_B_addBody b_B_addBody 2 (some .int)) rm_B_addBody D g0 [.ref a0, .ref a1] w (goI r) := by
  refine gw_ofI (by decide +kernel) (Nat.le_of_ble_eq_true rfl) ?_
  intro p e s m below meth c ls args A Q hx hb hml hown hlocks hin hnt hT hK hZ hA hret hexc hthr hI hl
  obtain ⟨H, hH⟩ : ∃ H, H = s.heap := ⟨_, rfl⟩
  rw [← hH] at hI ⊢
  obtain ⟨locs, hlocs⟩ : ∃ z : List Loc, z = [] := ⟨_, rfl⟩
  rw [← hlocs] at hI ⊢
  have hl : lv_has ls 2 [(0, .ref a0), (1, .ref a1)] := hl
  unfold f_B_addBody at h
  refine lv_aload_n hx hb d_B_addBody_0 rfl (lv_at hl 0 rfl) ?_
  obtain ⟨v1, e2, h⟩ := gb h
  refine gw_getA hx hb hT hown hK hI (ci := 0) rfl i_0 1 (by decide) wd_190 (fun _ h9 => h9) e2 d_B_addBody_1 ?_
  refine lv_aload_n hx hb d_B_addBody_4 rfl (lv_at hl 1 rfl) ?_
  obtain ⟨q5, e6, h⟩ := gb h
  obtain ⟨u3, e4⟩ := gsome h
  refine gw_callI e4 h (gw_runV (As := [.ref a1]) (rest := []) hx hb hml hown hT hK hZ hA hI (ci := 1) rfl e6 (m_AL_add l hst D g0 v1 a1 w u3 e4) ce_AL_add wd_250 wd_252 ⟨by decide, by decide⟩ rfl rfl hl.1 rfl (lv_room (Nat.le_of_ble_eq_true rfl)) d_B_addBody_5 ⟨(show 0 + 1 ≤ 1 by omega), (show 0 + 64 ≤ 64 by omega)⟩) hI hA hexc (show 0 + 1 ≤ 1 by omega) (show 0 + 64 ≤ 64 by omega) (fun v7 w H locs h hI => ?_)
  refine W.widen (k := 1) (n := 64) (show 0 + 1 ≤ 1 by omega) (show 0 + 64 ≤ 64 by omega) ?_
  refine lv_pop hx hb d_B_addBody_8 rfl ?_
  refine lv_aload_n hx hb d_B_addBody_9 rfl (lv_at hl 0 rfl) ?_
  obtain ⟨v8, e9, h⟩ := gb h
  refine gw_getA hx hb hT hown hK hI (ci := 0) rfl i_0 1 (by decide) wd_190 (fun _ h9 => h9) e9 d_B_addBody_10 ?_
  obtain ⟨q12, e13, h⟩ := gb h
  obtain ⟨u10, e11⟩ := gsome h
  refine gw_callI e11 h (gw_runV (As := []) (rest := []) hx hb hml hown hT hK hZ hA hI (ci := 1) rfl e13 (m_AL_size l hst D g0 v8 w u10 e11) ce_AL_size wd_224 wd_226 ⟨by decide, by decide⟩ rfl rfl hl.1 rfl (lv_room (Nat.le_of_ble_eq_true rfl)) d_B_addBody_13 ⟨(show 1 + 0 ≤ 1 by omega), (show 64 + 0 ≤ 64 by omega)⟩) hI hA hexc (show 1 + 0 ≤ 1 by omega) (show 64 + 0 ≤ 64 by omega) (fun v14 w H locs h hI => ?_)
  refine lv_iconst (v := 1) hx hb d_B_addBody_16 (by decide) ?_
  refine lv_isub hx hb d_B_addBody_17 ?_
  exact W.widen (show 1 ≤ 1 by omega) (show 64 ≤ 64 by omega) (hret _ _ (Option.some.inj h).symm _ _ _ _ d_B_addBody_18 hI)

abbrev b_B_body : ByteArray := prog_1_method_2_code
def y_B_body : MethodName := ⟨"BodySolids", "body", "()I"⟩
theorem d_B_body_0 : decode b_B_body 0 = .ok (.aload_n 0, 1) := by decide +kernel
theorem d_B_body_1 : decode b_B_body 1 = .ok (.getfield 27, 3) := by decide +kernel
theorem d_B_body_4 : decode b_B_body 4 = .ok (.invokevirtual 68, 3) := by decide +kernel
theorem d_B_body_7 : decode b_B_body 7 = .ok (.bipush 30, 2) := by decide +kernel
theorem d_B_body_9 : decode b_B_body 9 = .ok (.if_icmp .ge 17, 3) := by decide +kernel
theorem d_B_body_12 : decode b_B_body 12 = .ok (.aload_n 0, 1) := by decide +kernel
theorem d_B_body_13 : decode b_B_body 13 = .ok (.new 72, 3) := by decide +kernel
theorem d_B_body_16 : decode b_B_body 16 = .ok (.dup, 1) := by decide +kernel
theorem d_B_body_17 : decode b_B_body 17 = .ok (.invokespecial 74, 3) := by decide +kernel
theorem d_B_body_20 : decode b_B_body 20 = .ok (.invokevirtual 75, 3) := by decide +kernel
theorem d_B_body_23 : decode b_B_body 23 = .ok (.goto 4, 3) := by decide +kernel
theorem d_B_body_26 : decode b_B_body 26 = .ok (.iconst (-1), 1) := by decide +kernel
theorem d_B_body_27 : decode b_B_body 27 = .ok (.ireturn, 1) := by decide +kernel
abbrev rm_B_body : Room := { frames := 8, cells := 3, slots := 69, locals := 200 }
theorem ce_B_body : gCe y_B_body (.code y_B_body b_B_body 1 (some .int)) 1 0 false := gCe.code wd_223 wd_49 wd_221 (by decide) (by decide +kernel)
def f_B_body (g0 : gG) (a0 : Nat) (w : gW) : gX Int32 := (gfA w a0 0 1).bind fun v1 => (gck w v1 1).bind fun _ => gbind (f_AL_size g0 v1 w) fun v7 w => gjoin (fun K27 => if 30 ≤ v7 then (K27 (-1) w) else (gb2f (gnw w 4 [.null, .long 0]) fun o10 w => gbind (f_By_init g0 o10 w) fun v14 w => (gck w a0 0).bind fun _ => gbind (f_B_addBody g0 a0 o10 w) fun v19 w => K27 v19 w)) (fun (y8 : Int32) (w : gW) => some (.inr y8, w))
set_option maxHeartbeats 4000000 in
set_option maxRecDepth 100000 in
theorem m_B_body (l : Launch) (hst : l.stackTraces = false) (D : gD) (g0 : gG) (a0 : Nat) (w : gW) (r : (String ⊕ Int32) × gW) (h : f_B_body g0 a0 w = some r) : gMet l y_B_body (.code y_B_body b_B_body 1 (some .int)) rm_B_body D g0 [.ref a0] w (goI r) := by
  refine gw_ofI (by decide +kernel) (Nat.le_of_ble_eq_true rfl) ?_
  intro p e s m below meth c ls args A Q hx hb hml hown hlocks hin hnt hT hK hZ hA hret hexc hthr hI hl
  obtain ⟨H, hH⟩ : ∃ H, H = s.heap := ⟨_, rfl⟩
  rw [← hH] at hI ⊢
  obtain ⟨locs, hlocs⟩ : ∃ z : List Loc, z = [] := ⟨_, rfl⟩
  rw [← hlocs] at hI ⊢
  have hl : lv_has ls 1 [(0, .ref a0)] := hl
  unfold f_B_body at h
  refine lv_aload_n hx hb d_B_body_0 rfl (lv_at hl 0 rfl) ?_
  obtain ⟨v1, e2, h⟩ := gb h
  refine gw_getA hx hb hT hown hK hI (ci := 0) rfl i_0 1 (by decide) wd_190 (fun _ h9 => h9) e2 d_B_body_1 ?_
  obtain ⟨q5, e6, h⟩ := gb h
  obtain ⟨u3, e4⟩ := gsome h
  refine gw_callI e4 h (gw_runV (As := []) (rest := []) hx hb hml hown hT hK hZ hA hI (ci := 1) rfl e6 (m_AL_size l hst D g0 v1 w u3 e4) ce_AL_size wd_224 wd_226 ⟨by decide, by decide⟩ rfl rfl hl.1 rfl (lv_room (Nat.le_of_ble_eq_true rfl)) d_B_body_4 ⟨(show 0 + 0 ≤ 3 by omega), (show 0 + 0 ≤ 69 by omega)⟩) hI hA hexc (show 0 + 0 ≤ 3 by omega) (show 0 + 0 ≤ 69 by omega) (fun v7 w H locs h hI => ?_)
  refine lv_bipush (v := 30) hx hb d_B_body_7 (by decide) ?_
  obtain ⟨K27, eK27, h⟩ := gj h
  have hK27 : ∀ (y8 : Int32) (w : gW) (H : Heap) (locs : List Loc) (ls : Array Slot), K27 y8 w = some r → gI D s A w H locs → lv_has ls 1 [] → W p l e rm_B_body s m args below meth c H locs 3 69 Q (F0 m 27 ls [.int y8]) := by
    intro y8 w H locs ls h hI hl
    have h := gk2 eK27 h
    exact W.widen (show 3 ≤ 3 by omega) (show 69 ≤ 69 by omega) (hret _ _ (Option.some.inj h).symm _ _ _ _ d_B_body_27 hI)
  refine lv_icmp_ge (tgt := 26) hx hb d_B_body_9 (by decide) (fun c9 => ?_) (fun c9 => ?_)
  · skip
    have h := git c9 h
    refine lv_iconst (v := -1) hx hb d_B_body_26 (by decide) ?_
    refine W.widen (k := 3) (n := 69) (show 0 ≤ 3 by omega) (show 0 ≤ 69 by omega) ?_
    exact hK27 _ w H locs ls h hI (lv_sub hl [] rfl)
  · skip
    have h := gie c9 h
    refine lv_aload_n hx hb d_B_body_12 rfl (lv_at hl 0 rfl) ?_
    obtain ⟨o10, w, e11, h⟩ := gb2 h
    refine gw_new hx hb hT hown hK hI hA (ci := 4) rfl i_4 t_4 t_4_ok wd_228 wd_229 wd_58 (fs := [.null, .long 0]) df_4 e11 (show 0 + 1 ≤ 3 by omega) (show 0 + 2 ≤ 69 by omega) d_B_body_13 (fun H hI => ?_)
    refine W.widen (k := 1) (n := 2) (show 0 + 1 ≤ 1 by omega) (show 0 + 2 ≤ 2 by omega) ?_
    refine lv_dup hx hb d_B_body_16 rfl ?_
    obtain ⟨u12, e13⟩ := gsome h
    refine gw_callV e13 h (gw_runIN (As := []) (rest := [.ref o10, .ref a0]) hx hb hml hown hT hK hZ hA hI (m_By_init l hst D g0 o10 w u12 e13) ce_By_init wd_230 rfl ⟨by decide, by decide⟩ rfl rfl hl.1 rfl (lv_room (Nat.le_of_ble_eq_true rfl)) d_B_body_17 ⟨(show 1 + 1 ≤ 3 by omega), (show 2 + 3 ≤ 69 by omega)⟩) hI hA hexc (show 1 + 1 ≤ 3 by omega) (show 2 + 3 ≤ 69 by omega) (fun v14 w H locs h hI => ?_)
    refine W.widen (k := 2) (n := 5) (show 1 + 1 ≤ 2 by omega) (show 2 + 3 ≤ 5 by omega) ?_
    obtain ⟨q17, e18, h⟩ := gb h
    obtain ⟨u15, e16⟩ := gsome h
    refine gw_callI e16 h (gw_runV (As := [.ref o10]) (rest := []) hx hb hml hown hT hK hZ hA hI (ci := 0) rfl e18 (m_B_addBody l hst D g0 a0 o10 w u15 e16) ce_B_addBody wd_246 wd_0 ⟨by decide, by decide⟩ rfl rfl hl.1 rfl (lv_room (Nat.le_of_ble_eq_true rfl)) d_B_body_20 ⟨(show 2 + 1 ≤ 3 by omega), (show 5 + 64 ≤ 69 by omega)⟩) hI hA hexc (show 2 + 1 ≤ 3 by omega) (show 5 + 64 ≤ 69 by omega) (fun v19 w H locs h hI => ?_)
    refine W.widen (k := 3) (n := 69) (show 2 + 1 ≤ 3 by omega) (show 5 + 64 ≤ 69 by omega) ?_
    refine lv_goto (tgt := 27) hx hb d_B_body_23 (by decide) ?_
    exact hK27 _ w H locs ls h hI (lv_sub hl [] rfl)

abbrev b_B_needIndex : ByteArray := prog_1_method_19_code
def y_B_needIndex : MethodName := ⟨"BodySolids", "needIndex", "(II)V"⟩
theorem d_B_needIndex_0 : decode b_B_needIndex 0 = .ok (.iload_n 0, 1) := by decide +kernel
theorem d_B_needIndex_1 : decode b_B_needIndex 1 = .ok (.ifCond .lt 8, 3) := by decide +kernel
theorem d_B_needIndex_4 : decode b_B_needIndex 4 = .ok (.iload_n 0, 1) := by decide +kernel
theorem d_B_needIndex_5 : decode b_B_needIndex 5 = .ok (.iload_n 1, 1) := by decide +kernel
theorem d_B_needIndex_6 : decode b_B_needIndex 6 = .ok (.if_icmp .lt 13, 3) := by decide +kernel
theorem d_B_needIndex_9 : decode b_B_needIndex 9 = .ok (.new 247, 3) := by decide +kernel
theorem d_B_needIndex_12 : decode b_B_needIndex 12 = .ok (.dup, 1) := by decide +kernel
theorem d_B_needIndex_13 : decode b_B_needIndex 13 = .ok (.ldc 249, 2) := by decide +kernel
theorem d_B_needIndex_15 : decode b_B_needIndex 15 = .ok (.invokespecial 251, 3) := by decide +kernel
theorem d_B_needIndex_18 : decode b_B_needIndex 18 = .ok (.athrow, 1) := by decide +kernel
theorem d_B_needIndex_19 : decode b_B_needIndex 19 = .ok (.return_, 1) := by decide +kernel
abbrev rm_B_needIndex : Room := { frames := 7, cells := 1, slots := 6, locals := 90 }
theorem ce_B_needIndex : gCe y_B_needIndex (.code y_B_needIndex b_B_needIndex 2 none) 2 2 true := gCe.code wd_442 wd_49 wd_441 (by decide) (by decide +kernel)
def f_B_needIndex (g0 : gG) (p0 : Int32) (p1 : Int32) (w : gW) : gX Unit := gjoin (fun K9 => if p0 < 0 then (K9 w) else (if p0 < p1 then (some (.inr (), w)) else (K9 w))) (fun (w : gW) => gthrow "java/lang/IndexOutOfBoundsException" w)
set_option maxHeartbeats 4000000 in
set_option maxRecDepth 100000 in
theorem m_B_needIndex (l : Launch) (hst : l.stackTraces = false) (D : gD) (g0 : gG) (p0 : Int32) (p1 : Int32) (w : gW) (r : (String ⊕ Unit) × gW) (h : f_B_needIndex g0 p0 p1 w = some r) : gMet l y_B_needIndex (.code y_B_needIndex b_B_needIndex 2 none) rm_B_needIndex D g0 [.int p0, .int p1] w (goV r) := by
  refine gw_ofV (by decide +kernel) (Nat.le_of_ble_eq_true rfl) ?_
  intro p e s m below meth c ls args A Q hx hb hml hown hlocks hin hnt hT hK hZ hA hret hexc hthr hI hl
  obtain ⟨H, hH⟩ : ∃ H, H = s.heap := ⟨_, rfl⟩
  rw [← hH] at hI ⊢
  obtain ⟨locs, hlocs⟩ : ∃ z : List Loc, z = [] := ⟨_, rfl⟩
  rw [← hlocs] at hI ⊢
  have hl : lv_has ls 2 [(0, .int p0), (1, .int p1)] := hl
  unfold f_B_needIndex at h
  refine lv_iload_n hx hb d_B_needIndex_0 rfl (lv_at hl 0 rfl) ?_
  obtain ⟨K9, eK9, h⟩ := gj h
  have hK9 : ∀ (w : gW) (H : Heap) (locs : List Loc) (ls : Array Slot), K9 w = some r → gI D s A w H locs → lv_has ls 2 [] → W p l e rm_B_needIndex s m args below meth c H locs 0 0 Q (F0 m 9 ls []) := by
    intro w H locs ls h hI hl
    have h := gk1 eK9 h
    exact gw_throwS (names := ["java/lang/RuntimeException", "java/lang/Exception"]) (text := "no such number") hx hb hst hown hT hZ hI hl.1 hml hnt hlocks (by decide +kernel) (by decide +kernel) wd_443 wd_64 (by decide) at_IOB d_B_needIndex_9 d_B_needIndex_12 d_B_needIndex_13 d_B_needIndex_15 d_B_needIndex_18 (by decide) (Nat.le_of_ble_eq_true rfl) (show 0 + 1 ≤ 1 by omega) (show 0 + 6 ≤ 6 by omega) hthr h
  refine lv_if_lt (tgt := 9) hx hb d_B_needIndex_1 (by decide) (fun c1 => ?_) (fun c1 => ?_)
  · skip
    have h := git c1 h
    exact hK9 w H locs ls h hI (lv_sub hl [] rfl)
  · skip
    have h := gie c1 h
    refine lv_iload_n hx hb d_B_needIndex_4 rfl (lv_at hl 0 rfl) ?_
    refine lv_iload_n hx hb d_B_needIndex_5 rfl (lv_at hl 1 rfl) ?_
    refine lv_icmp_lt (tgt := 19) hx hb d_B_needIndex_6 (by decide) (fun c2 => ?_) (fun c2 => ?_)
    · skip
      have h := git c2 h
      exact W.widen (show 0 ≤ 1 by omega) (show 0 ≤ 6 by omega) (hret _ _ (Option.some.inj h).symm _ _ _ _ d_B_needIndex_19 hI)
    · skip
      have h := gie c2 h
      exact hK9 w H locs ls h hI (lv_sub hl [] rfl)

abbrev b_B_bodyAt : ByteArray := prog_1_method_25_code
def y_B_bodyAt : MethodName := ⟨"BodySolids", "bodyAt", "(I)LBodySolids$Body;"⟩
theorem d_B_bodyAt_0 : decode b_B_bodyAt 0 = .ok (.iload_n 1, 1) := by decide +kernel
theorem d_B_bodyAt_1 : decode b_B_bodyAt 1 = .ok (.aload_n 0, 1) := by decide +kernel
theorem d_B_bodyAt_2 : decode b_B_bodyAt 2 = .ok (.getfield 27, 3) := by decide +kernel
theorem d_B_bodyAt_5 : decode b_B_bodyAt 5 = .ok (.invokevirtual 68, 3) := by decide +kernel
theorem d_B_bodyAt_8 : decode b_B_bodyAt 8 = .ok (.invokestatic 190, 3) := by decide +kernel
theorem d_B_bodyAt_11 : decode b_B_bodyAt 11 = .ok (.aload_n 0, 1) := by decide +kernel
theorem d_B_bodyAt_12 : decode b_B_bodyAt 12 = .ok (.getfield 27, 3) := by decide +kernel
theorem d_B_bodyAt_15 : decode b_B_bodyAt 15 = .ok (.iload_n 1, 1) := by decide +kernel
theorem d_B_bodyAt_16 : decode b_B_bodyAt 16 = .ok (.invokevirtual 205, 3) := by decide +kernel
theorem d_B_bodyAt_19 : decode b_B_bodyAt 19 = .ok (.checkcast 72, 3) := by decide +kernel
theorem d_B_bodyAt_22 : decode b_B_bodyAt 22 = .ok (.areturn, 1) := by decide +kernel
abbrev rm_B_bodyAt : Room := { frames := 8, cells := 1, slots := 6, locals := 111 }
theorem ce_B_bodyAt : gCe y_B_bodyAt (.code y_B_bodyAt b_B_bodyAt 2 (some (.object "BodySolids$Body"))) 2 1 false := gCe.code wd_439 wd_49 wd_438 (by decide) (by decide +kernel)
def f_B_bodyAt (g0 : gG) (a0 : Nat) (p1 : Int32) (w : gW) : gX Nat := (gfA w a0 0 1).bind fun v1 => (gck w v1 1).bind fun _ => gbind (f_AL_size g0 v1 w) fun v7 w => gbind (f_B_needIndex g0 p1 v7 w) fun v10 w => (gfA w a0 0 1).bind fun v11 => (gck w v11 1).bind fun _ => gbind (f_AL_get g0 v11 p1 w) fun v17 w => (gck w v17 4).bind fun _ => some (.inr v17, w)
set_option maxHeartbeats 4000000 in
set_option maxRecDepth 100000 in
theorem m_B_bodyAt (l : Launch) (hst : l.stackTraces = false) (D : gD) (g0 : gG) (a0 : Nat) (p1 : Int32) (w : gW) (r : (String ⊕ Nat) × gW) (h : f_B_bodyAt g0 a0 p1 w = some r) : gMet l y_B_bodyAt (.code y_B_bodyAt b_B_bodyAt 2 (some (.object "BodySolids$Body"))) rm_B_bodyAt D g0 [.ref a0, .int p1] w (goA r) := by
  refine gw_ofA (by decide +kernel) (Nat.le_of_ble_eq_true rfl) (Or.inl ⟨_, rfl⟩) ?_
  intro p e s m below meth c ls args A Q hx hb hml hown hlocks hin hnt hT hK hZ hA hret hexc hthr hI hl
  obtain ⟨H, hH⟩ : ∃ H, H = s.heap := ⟨_, rfl⟩
  rw [← hH] at hI ⊢
  obtain ⟨locs, hlocs⟩ : ∃ z : List Loc, z = [] := ⟨_, rfl⟩
  rw [← hlocs] at hI ⊢
  have hl : lv_has ls 2 [(0, .ref a0), (1, .int p1)] := hl
  unfold f_B_bodyAt at h
  refine lv_iload_n hx hb d_B_bodyAt_0 rfl (lv_at hl 1 rfl) ?_
  refine lv_aload_n hx hb d_B_bodyAt_1 rfl (lv_at hl 0 rfl) ?_
  obtain ⟨v1, e2, h⟩ := gb h
  refine gw_getA hx hb hT hown hK hI (ci := 0) rfl i_0 1 (by decide) wd_190 (fun _ h9 => h9) e2 d_B_bodyAt_2 ?_
  obtain ⟨q5, e6, h⟩ := gb h
  obtain ⟨u3, e4⟩ := gsome h
  refine gw_callI e4 h (gw_runV (As := []) (rest := [.int p1]) hx hb hml hown hT hK hZ hA hI (ci := 1) rfl e6 (m_AL_size l hst D g0 v1 w u3 e4) ce_AL_size wd_224 wd_226 ⟨by decide, by decide⟩ rfl rfl hl.1 rfl (lv_room (Nat.le_of_ble_eq_true rfl)) d_B_bodyAt_5 ⟨(show 0 + 0 ≤ 1 by omega), (show 0 + 0 ≤ 6 by omega)⟩) hI hA hexc (show 0 + 0 ≤ 1 by omega) (show 0 + 0 ≤ 6 by omega) (fun v7 w H locs h hI => ?_)
  obtain ⟨u8, e9⟩ := gsome h
  refine gw_callV e9 h (gw_runS (As := [.int p1, .int v7]) (rest := []) hx hb hml hown hT hK hZ hA hI (m_B_needIndex l hst D g0 p1 v7 w u8 e9) ce_B_needIndex wd_440 ⟨by decide, by decide⟩ rfl rfl hl.1 rfl (lv_room (Nat.le_of_ble_eq_true rfl)) d_B_bodyAt_8 ⟨(show 0 + 1 ≤ 1 by omega), (show 0 + 6 ≤ 6 by omega)⟩) hI hA hexc (show 0 + 1 ≤ 1 by omega) (show 0 + 6 ≤ 6 by omega) (fun v10 w H locs h hI => ?_)
  refine W.widen (k := 1) (n := 6) (show 0 + 1 ≤ 1 by omega) (show 0 + 6 ≤ 6 by omega) ?_
  refine lv_aload_n hx hb d_B_bodyAt_11 rfl (lv_at hl 0 rfl) ?_
  obtain ⟨v11, e12, h⟩ := gb h
  refine gw_getA hx hb hT hown hK hI (ci := 0) rfl i_0 1 (by decide) wd_190 (fun _ h9 => h9) e12 d_B_bodyAt_12 ?_
  refine lv_iload_n hx hb d_B_bodyAt_15 rfl (lv_at hl 1 rfl) ?_
  obtain ⟨q15, e16, h⟩ := gb h
  obtain ⟨u13, e14⟩ := gsome h
  refine gw_callA e14 h (gw_runV (As := [.int p1]) (rest := []) hx hb hml hown hT hK hZ hA hI (ci := 1) rfl e16 (m_AL_get l hst D g0 v11 p1 w u13 e14) ce_AL_get wd_321 wd_323 ⟨by decide, by decide⟩ rfl rfl hl.1 rfl (lv_room (Nat.le_of_ble_eq_true rfl)) d_B_bodyAt_16 ⟨(show 1 + 0 ≤ 1 by omega), (show 6 + 0 ≤ 6 by omega)⟩) hI hA hexc (show 1 + 0 ≤ 1 by omega) (show 6 + 0 ≤ 6 by omega) (fun v17 w H locs h hI => ?_)
  obtain ⟨q19, e18, h⟩ := gb h
  refine gw_cast hx hb hT hown hK hI wd_228 (ci := 4) rfl wd_1126 e18 d_B_bodyAt_19 ?_
  exact W.widen (show 1 ≤ 1 by omega) (show 6 ≤ 6 by omega) (hret _ _ (Option.some.inj h).symm _ _ _ _ d_B_bodyAt_22 hI)

abbrev b_B_placementAt : ByteArray := prog_1_method_26_code
def y_B_placementAt : MethodName := ⟨"BodySolids", "placementAt", "(I)LBodySolids$Placement;"⟩
theorem d_B_placementAt_0 : decode b_B_placementAt 0 = .ok (.iload_n 1, 1) := by decide +kernel
theorem d_B_placementAt_1 : decode b_B_placementAt 1 = .ok (.aload_n 0, 1) := by decide +kernel
theorem d_B_placementAt_2 : decode b_B_placementAt 2 = .ok (.getfield 31, 3) := by decide +kernel
theorem d_B_placementAt_5 : decode b_B_placementAt 5 = .ok (.invokevirtual 68, 3) := by decide +kernel
theorem d_B_placementAt_8 : decode b_B_placementAt 8 = .ok (.invokestatic 190, 3) := by decide +kernel
theorem d_B_placementAt_11 : decode b_B_placementAt 11 = .ok (.aload_n 0, 1) := by decide +kernel
theorem d_B_placementAt_12 : decode b_B_placementAt 12 = .ok (.getfield 31, 3) := by decide +kernel
theorem d_B_placementAt_15 : decode b_B_placementAt 15 = .ok (.iload_n 1, 1) := by decide +kernel
theorem d_B_placementAt_16 : decode b_B_placementAt 16 = .ok (.invokevirtual 205, 3) := by decide +kernel
theorem d_B_placementAt_19 : decode b_B_placementAt 19 = .ok (.checkcast 164, 3) := by decide +kernel
theorem d_B_placementAt_22 : decode b_B_placementAt 22 = .ok (.areturn, 1) := by decide +kernel
abbrev rm_B_placementAt : Room := { frames := 8, cells := 1, slots := 6, locals := 111 }
theorem ce_B_placementAt : gCe y_B_placementAt (.code y_B_placementAt b_B_placementAt 2 (some (.object "BodySolids$Placement"))) 2 1 false := gCe.code wd_685 wd_49 wd_684 (by decide) (by decide +kernel)
def f_B_placementAt (g0 : gG) (a0 : Nat) (p1 : Int32) (w : gW) : gX Nat := (gfA w a0 0 2).bind fun v1 => (gck w v1 1).bind fun _ => gbind (f_AL_size g0 v1 w) fun v7 w => gbind (f_B_needIndex g0 p1 v7 w) fun v10 w => (gfA w a0 0 2).bind fun v11 => (gck w v11 1).bind fun _ => gbind (f_AL_get g0 v11 p1 w) fun v17 w => (gck w v17 5).bind fun _ => some (.inr v17, w)
set_option maxHeartbeats 4000000 in
set_option maxRecDepth 100000 in
theorem m_B_placementAt (l : Launch) (hst : l.stackTraces = false) (D : gD) (g0 : gG) (a0 : Nat) (p1 : Int32) (w : gW) (r : (String ⊕ Nat) × gW) (h : f_B_placementAt g0 a0 p1 w = some r) : gMet l y_B_placementAt (.code y_B_placementAt b_B_placementAt 2 (some (.object "BodySolids$Placement"))) rm_B_placementAt D g0 [.ref a0, .int p1] w (goA r) := by
  refine gw_ofA (by decide +kernel) (Nat.le_of_ble_eq_true rfl) (Or.inl ⟨_, rfl⟩) ?_
  intro p e s m below meth c ls args A Q hx hb hml hown hlocks hin hnt hT hK hZ hA hret hexc hthr hI hl
  obtain ⟨H, hH⟩ : ∃ H, H = s.heap := ⟨_, rfl⟩
  rw [← hH] at hI ⊢
  obtain ⟨locs, hlocs⟩ : ∃ z : List Loc, z = [] := ⟨_, rfl⟩
  rw [← hlocs] at hI ⊢
  have hl : lv_has ls 2 [(0, .ref a0), (1, .int p1)] := hl
  unfold f_B_placementAt at h
  refine lv_iload_n hx hb d_B_placementAt_0 rfl (lv_at hl 1 rfl) ?_
  refine lv_aload_n hx hb d_B_placementAt_1 rfl (lv_at hl 0 rfl) ?_
  obtain ⟨v1, e2, h⟩ := gb h
  refine gw_getA hx hb hT hown hK hI (ci := 0) rfl i_0 2 (by decide) wd_191 (fun _ h9 => h9) e2 d_B_placementAt_2 ?_
  obtain ⟨q5, e6, h⟩ := gb h
  obtain ⟨u3, e4⟩ := gsome h
  refine gw_callI e4 h (gw_runV (As := []) (rest := [.int p1]) hx hb hml hown hT hK hZ hA hI (ci := 1) rfl e6 (m_AL_size l hst D g0 v1 w u3 e4) ce_AL_size wd_224 wd_226 ⟨by decide, by decide⟩ rfl rfl hl.1 rfl (lv_room (Nat.le_of_ble_eq_true rfl)) d_B_placementAt_5 ⟨(show 0 + 0 ≤ 1 by omega), (show 0 + 0 ≤ 6 by omega)⟩) hI hA hexc (show 0 + 0 ≤ 1 by omega) (show 0 + 0 ≤ 6 by omega) (fun v7 w H locs h hI => ?_)
  obtain ⟨u8, e9⟩ := gsome h
  refine gw_callV e9 h (gw_runS (As := [.int p1, .int v7]) (rest := []) hx hb hml hown hT hK hZ hA hI (m_B_needIndex l hst D g0 p1 v7 w u8 e9) ce_B_needIndex wd_440 ⟨by decide, by decide⟩ rfl rfl hl.1 rfl (lv_room (Nat.le_of_ble_eq_true rfl)) d_B_placementAt_8 ⟨(show 0 + 1 ≤ 1 by omega), (show 0 + 6 ≤ 6 by omega)⟩) hI hA hexc (show 0 + 1 ≤ 1 by omega) (show 0 + 6 ≤ 6 by omega) (fun v10 w H locs h hI => ?_)
  refine W.widen (k := 1) (n := 6) (show 0 + 1 ≤ 1 by omega) (show 0 + 6 ≤ 6 by omega) ?_
  refine lv_aload_n hx hb d_B_placementAt_11 rfl (lv_at hl 0 rfl) ?_
  obtain ⟨v11, e12, h⟩ := gb h
  refine gw_getA hx hb hT hown hK hI (ci := 0) rfl i_0 2 (by decide) wd_191 (fun _ h9 => h9) e12 d_B_placementAt_12 ?_
  refine lv_iload_n hx hb d_B_placementAt_15 rfl (lv_at hl 1 rfl) ?_
  obtain ⟨q15, e16, h⟩ := gb h
  obtain ⟨u13, e14⟩ := gsome h
  refine gw_callA e14 h (gw_runV (As := [.int p1]) (rest := []) hx hb hml hown hT hK hZ hA hI (ci := 1) rfl e16 (m_AL_get l hst D g0 v11 p1 w u13 e14) ce_AL_get wd_321 wd_323 ⟨by decide, by decide⟩ rfl rfl hl.1 rfl (lv_room (Nat.le_of_ble_eq_true rfl)) d_B_placementAt_16 ⟨(show 1 + 0 ≤ 1 by omega), (show 6 + 0 ≤ 6 by omega)⟩) hI hA hexc (show 1 + 0 ≤ 1 by omega) (show 6 + 0 ≤ 6 by omega) (fun v17 w H locs h hI => ?_)
  obtain ⟨q19, e18, h⟩ := gb h
  refine gw_cast hx hb hT hown hK hI wd_335 (ci := 5) rfl wd_1123 e18 d_B_placementAt_19 ?_
  exact W.widen (show 1 ≤ 1 by omega) (show 6 ≤ 6 by omega) (hret _ _ (Option.some.inj h).symm _ _ _ _ d_B_placementAt_22 hI)

abbrev b_B_bound : ByteArray := prog_1_method_16_code
def y_B_bound : MethodName := ⟨"BodySolids", "bound", "(II)J"⟩
theorem d_B_bound_0 : decode b_B_bound 0 = .ok (.aload_n 0, 1) := by decide +kernel
theorem d_B_bound_1 : decode b_B_bound 1 = .ok (.iload_n 1, 1) := by decide +kernel
theorem d_B_bound_2 : decode b_B_bound 2 = .ok (.invokevirtual 174, 3) := by decide +kernel
theorem d_B_bound_5 : decode b_B_bound 5 = .ok (.astore_n 3, 1) := by decide +kernel
theorem d_B_bound_6 : decode b_B_bound 6 = .ok (.iload_n 2, 1) := by decide +kernel
theorem d_B_bound_7 : decode b_B_bound 7 = .ok (.bipush 6, 2) := by decide +kernel
theorem d_B_bound_9 : decode b_B_bound 9 = .ok (.invokestatic 190, 3) := by decide +kernel
theorem d_B_bound_12 : decode b_B_bound 12 = .ok (.aload_n 0, 1) := by decide +kernel
theorem d_B_bound_13 : decode b_B_bound 13 = .ok (.getfield 61, 3) := by decide +kernel
theorem d_B_bound_16 : decode b_B_bound 16 = .ok (.aload_n 3, 1) := by decide +kernel
theorem d_B_bound_17 : decode b_B_bound 17 = .ok (.aload_n 0, 1) := by decide +kernel
theorem d_B_bound_18 : decode b_B_bound 18 = .ok (.getfield 20, 3) := by decide +kernel
theorem d_B_bound_21 : decode b_B_bound 21 = .ok (.invokevirtual 213, 3) := by decide +kernel
theorem d_B_bound_24 : decode b_B_bound 24 = .ok (.aload_n 0, 1) := by decide +kernel
theorem d_B_bound_25 : decode b_B_bound 25 = .ok (.getfield 61, 3) := by decide +kernel
theorem d_B_bound_28 : decode b_B_bound 28 = .ok (.getfield 217, 3) := by decide +kernel
theorem d_B_bound_31 : decode b_B_bound 31 = .ok (.ifCond .ne 13, 3) := by decide +kernel
theorem d_B_bound_34 : decode b_B_bound 34 = .ok (.new 220, 3) := by decide +kernel
theorem d_B_bound_37 : decode b_B_bound 37 = .ok (.dup, 1) := by decide +kernel
theorem d_B_bound_38 : decode b_B_bound 38 = .ok (.ldc 222, 2) := by decide +kernel
theorem d_B_bound_40 : decode b_B_bound 40 = .ok (.invokespecial 224, 3) := by decide +kernel
theorem d_B_bound_43 : decode b_B_bound 43 = .ok (.athrow, 1) := by decide +kernel
theorem d_B_bound_44 : decode b_B_bound 44 = .ok (.aload_n 0, 1) := by decide +kernel
theorem d_B_bound_45 : decode b_B_bound 45 = .ok (.getfield 61, 3) := by decide +kernel
theorem d_B_bound_48 : decode b_B_bound 48 = .ok (.getfield 227, 3) := by decide +kernel
theorem d_B_bound_51 : decode b_B_bound 51 = .ok (.iconst 0, 1) := by decide +kernel
theorem d_B_bound_52 : decode b_B_bound 52 = .ok (.aaload, 1) := by decide +kernel
theorem d_B_bound_53 : decode b_B_bound 53 = .ok (.iload_n 2, 1) := by decide +kernel
theorem d_B_bound_54 : decode b_B_bound 54 = .ok (.invokevirtual 230, 3) := by decide +kernel
theorem d_B_bound_57 : decode b_B_bound 57 = .ok (.lstore 4, 2) := by decide +kernel
theorem d_B_bound_59 : decode b_B_bound 59 = .ok (.iconst 1, 1) := by decide +kernel
theorem d_B_bound_60 : decode b_B_bound 60 = .ok (.istore 6, 2) := by decide +kernel
theorem d_B_bound_62 : decode b_B_bound 62 = .ok (.iload 6, 2) := by decide +kernel
theorem d_B_bound_64 : decode b_B_bound 64 = .ok (.aload_n 0, 1) := by decide +kernel
theorem d_B_bound_65 : decode b_B_bound 65 = .ok (.getfield 61, 3) := by decide +kernel
theorem d_B_bound_68 : decode b_B_bound 68 = .ok (.getfield 217, 3) := by decide +kernel
theorem d_B_bound_71 : decode b_B_bound 71 = .ok (.if_icmp .ge 49, 3) := by decide +kernel
theorem d_B_bound_74 : decode b_B_bound 74 = .ok (.aload_n 0, 1) := by decide +kernel
theorem d_B_bound_75 : decode b_B_bound 75 = .ok (.getfield 61, 3) := by decide +kernel
theorem d_B_bound_78 : decode b_B_bound 78 = .ok (.getfield 227, 3) := by decide +kernel
theorem d_B_bound_81 : decode b_B_bound 81 = .ok (.iload 6, 2) := by decide +kernel
theorem d_B_bound_83 : decode b_B_bound 83 = .ok (.aaload, 1) := by decide +kernel
theorem d_B_bound_84 : decode b_B_bound 84 = .ok (.iload_n 2, 1) := by decide +kernel
theorem d_B_bound_85 : decode b_B_bound 85 = .ok (.invokevirtual 230, 3) := by decide +kernel
theorem d_B_bound_88 : decode b_B_bound 88 = .ok (.lstore 7, 2) := by decide +kernel
theorem d_B_bound_90 : decode b_B_bound 90 = .ok (.iload_n 2, 1) := by decide +kernel
theorem d_B_bound_91 : decode b_B_bound 91 = .ok (.iconst 3, 1) := by decide +kernel
theorem d_B_bound_92 : decode b_B_bound 92 = .ok (.if_icmp .ge 13, 3) := by decide +kernel
theorem d_B_bound_95 : decode b_B_bound 95 = .ok (.lload 4, 2) := by decide +kernel
theorem d_B_bound_97 : decode b_B_bound 97 = .ok (.lload 7, 2) := by decide +kernel
theorem d_B_bound_99 : decode b_B_bound 99 = .ok (.invokestatic 11, 3) := by decide +kernel
theorem d_B_bound_102 : decode b_B_bound 102 = .ok (.goto 10, 3) := by decide +kernel
theorem d_B_bound_105 : decode b_B_bound 105 = .ok (.lload 4, 2) := by decide +kernel
theorem d_B_bound_107 : decode b_B_bound 107 = .ok (.lload 7, 2) := by decide +kernel
theorem d_B_bound_109 : decode b_B_bound 109 = .ok (.invokestatic 17, 3) := by decide +kernel
theorem d_B_bound_112 : decode b_B_bound 112 = .ok (.lstore 4, 2) := by decide +kernel
theorem d_B_bound_114 : decode b_B_bound 114 = .ok (.iinc 6 1, 3) := by decide +kernel
theorem d_B_bound_117 : decode b_B_bound 117 = .ok (.goto (-55), 3) := by decide +kernel
theorem d_B_bound_120 : decode b_B_bound 120 = .ok (.lload 4, 2) := by decide +kernel
theorem d_B_bound_122 : decode b_B_bound 122 = .ok (.lreturn, 1) := by decide +kernel
abbrev rm_B_bound : Room := { frames := 9, cells := 3, slots := 18, locals := 132 }
theorem ce_B_bound : gCe y_B_bound (.code y_B_bound b_B_bound 9 (some .long)) 9 2 false := gCe.code wd_735 wd_49 wd_733 (by decide) (by decide +kernel)
def f_B_bound_L62 (g0 : gG) (c0 : Nat) (c2 : Int32) (K120 : Int64 → gW → gX Int64) : Nat → Int64 → Int32 → gW → gX Int64
  | 0, _, _, _ => none
  | n + 1, z4, z6, w => (gfA w c0 0 8).bind fun v35 => (gfI w v35 2 1).bind fun v37 => if v37 ≤ z6 then (K120 z4 w) else ((gfA w c0 0 8).bind fun v40 => (gfA w v40 2 0).bind fun v42 => (gaA w v42 z6).bind fun v44 => (gck w v44 3).bind fun _ => gbind (f_So_limit g0 v44 c2 w) fun v50 w => gjoin (fun K112 => if 3 ≤ c2 then (gbind (f_Ma_max2 g0 z4 v50 w) fun v55 w => K112 v55 w) else (gbind (f_Ma_min2 g0 z4 v50 w) fun v58 w => K112 v58 w)) (fun (y51 : Int64) (w : gW) => f_B_bound_L62 g0 c0 c2 K120 n y51 (z6 + 1) w))
def f_B_bound (g0 : gG) (a0 : Nat) (p1 : Int32) (p2 : Int32) (w : gW) : gX Int64 := (gck w a0 0).bind fun _ => gbind (f_B_placementAt g0 a0 p1 w) fun v5 w => gbind (f_B_needIndex g0 p2 6 w) fun v8 w => (gfA w a0 0 8).bind fun v9 => (gfJ w a0 0 0).bind fun v11 => (gck w v9 2).bind fun _ => gbind (f_La_lay g0 v9 v5 v11 w) fun v17 w => (gfA w a0 0 8).bind fun v18 => (gfI w v18 2 1).bind fun v20 => if v20 = 0 then (gthrow "java/lang/IllegalStateException" w) else ((gfA w a0 0 8).bind fun v23 => (gfA w v23 2 0).bind fun v25 => (gaA w v25 0).bind fun v27 => (gck w v27 3).bind fun _ => gbind (f_So_limit g0 v27 p2 w) fun v33 w => gjoin (fun K120 => f_B_bound_L62 g0 a0 p2 K120 64 v33 1 w) (fun (x34 : Int64) (w : gW) => some (.inr x34, w)))
set_option maxHeartbeats 4000000 in
set_option maxRecDepth 100000 in
theorem m_B_bound (l : Launch) (hst : l.stackTraces = false) (D : gD) (g0 : gG) (a0 : Nat) (p1 : Int32) (p2 : Int32) (w : gW) (r : (String ⊕ Int64) × gW) (h : f_B_bound g0 a0 p1 p2 w = some r) : gMet l y_B_bound (.code y_B_bound b_B_bound 9 (some .long)) rm_B_bound D g0 [.ref a0, .int p1, .int p2] w (goJ r) := by
  refine gw_ofJ (by decide +kernel) (Nat.le_of_ble_eq_true rfl) ?_
  intro p e s m below meth c ls args A Q hx hb hml hown hlocks hin hnt hT hK hZ hA hret hexc hthr hI hl
  obtain ⟨H, hH⟩ : ∃ H, H = s.heap := ⟨_, rfl⟩
  rw [← hH] at hI ⊢
  obtain ⟨locs, hlocs⟩ : ∃ z : List Loc, z = [] := ⟨_, rfl⟩
  rw [← hlocs] at hI ⊢
  have hl : lv_has ls 9 [(0, .ref a0), (1, .int p1), (2, .int p2)] := hl
  unfold f_B_bound at h
  refine lv_aload_n hx hb d_B_bound_0 rfl (lv_at hl 0 rfl) ?_
  refine lv_iload_n hx hb d_B_bound_1 rfl (lv_at hl 1 rfl) ?_
  obtain ⟨q3, e4, h⟩ := gb h
  obtain ⟨u1, e2⟩ := gsome h
  refine gw_callA e2 h (gw_runV (As := [.int p1]) (rest := []) hx hb hml hown hT hK hZ hA hI (ci := 0) rfl e4 (m_B_placementAt l hst D g0 a0 p1 w u1 e2) ce_B_placementAt wd_682 wd_15 ⟨by decide, by decide⟩ rfl rfl hl.1 rfl (lv_room (Nat.le_of_ble_eq_true rfl)) d_B_bound_2 ⟨(show 0 + 1 ≤ 3 by omega), (show 0 + 6 ≤ 18 by omega)⟩) hI hA hexc (show 0 + 1 ≤ 3 by omega) (show 0 + 6 ≤ 18 by omega) (fun v5 w H locs h hI => ?_)
  refine W.widen (k := 1) (n := 6) (show 0 + 1 ≤ 1 by omega) (show 0 + 6 ≤ 6 by omega) ?_
  refine lv_astore_n (lv' := [(3, .ref v5), (0, .ref a0), (1, .int p1), (2, .int p2)]) hx hb d_B_bound_5 rfl hl (by decide) rfl (fun ls hl => ?_)
  refine lv_iload_n hx hb d_B_bound_6 rfl (lv_at hl 3 rfl) ?_
  refine lv_bipush (v := 6) hx hb d_B_bound_7 (by decide) ?_
  obtain ⟨u6, e7⟩ := gsome h
  refine gw_callV e7 h (gw_runS (As := [.int p2, .int 6]) (rest := []) hx hb hml hown hT hK hZ hA hI (m_B_needIndex l hst D g0 p2 6 w u6 e7) ce_B_needIndex wd_440 ⟨by decide, by decide⟩ rfl rfl hl.1 rfl (lv_room (Nat.le_of_ble_eq_true rfl)) d_B_bound_9 ⟨(show 1 + 1 ≤ 3 by omega), (show 6 + 6 ≤ 18 by omega)⟩) hI hA hexc (show 1 + 1 ≤ 3 by omega) (show 6 + 6 ≤ 18 by omega) (fun v8 w H locs h hI => ?_)
  refine W.widen (k := 2) (n := 12) (show 1 + 1 ≤ 2 by omega) (show 6 + 6 ≤ 12 by omega) ?_
  refine lv_aload_n hx hb d_B_bound_12 rfl (lv_at hl 1 rfl) ?_
  obtain ⟨v9, e10, h⟩ := gb h
  refine gw_getA hx hb hT hown hK hI (ci := 0) rfl i_0 8 (by decide) wd_197 (fun _ h9 => h9) e10 d_B_bound_13 ?_
  refine lv_aload_n hx hb d_B_bound_16 rfl (lv_at hl 0 rfl) ?_
  refine lv_aload_n hx hb d_B_bound_17 rfl (lv_at hl 1 rfl) ?_
  obtain ⟨v11, e12, h⟩ := gb h
  refine gw_getJ hx hb hT hown hK hI (ci := 0) rfl i_0 0 (by decide) wd_189 (fun _ h9 => h9) e12 d_B_bound_18 ?_
  obtain ⟨q15, e16, h⟩ := gb h
  obtain ⟨u13, e14⟩ := gsome h
  refine gw_callV e14 h (gw_runV (As := [.ref v5, .long v11]) (rest := []) hx hb hml hown hT hK hZ hA hI (ci := 2) rfl e16 (m_La_lay l hst D g0 v9 v5 v11 w u13 e14) ce_La_lay wd_336 wd_338 ⟨by decide, by decide⟩ rfl rfl hl.1 rfl (lv_room (Nat.le_of_ble_eq_true rfl)) d_B_bound_21 ⟨(show 2 + 0 ≤ 3 by omega), (show 12 + 0 ≤ 18 by omega)⟩) hI hA hexc (show 2 + 0 ≤ 3 by omega) (show 12 + 0 ≤ 18 by omega) (fun v17 w H locs h hI => ?_)
  refine lv_aload_n hx hb d_B_bound_24 rfl (lv_at hl 1 rfl) ?_
  obtain ⟨v18, e19, h⟩ := gb h
  refine gw_getA hx hb hT hown hK hI (ci := 0) rfl i_0 8 (by decide) wd_197 (fun _ h9 => h9) e19 d_B_bound_25 ?_
  obtain ⟨v20, e21, h⟩ := gb h
  refine gw_getI hx hb hT hown hK hI (ci := 2) rfl i_2 1 (by decide) wd_183 (fun _ h9 => h9) e21 d_B_bound_28 ?_
  refine lv_if_ne (tgt := 44) hx hb d_B_bound_31 (by decide) (fun c22 => ?_) (fun c22 => ?_)
  · skip
    have h := gie c22 h
    refine lv_aload_n hx hb d_B_bound_44 rfl (lv_at hl 1 rfl) ?_
    obtain ⟨v23, e24, h⟩ := gb h
    refine gw_getA hx hb hT hown hK hI (ci := 0) rfl i_0 8 (by decide) wd_197 (fun _ h9 => h9) e24 d_B_bound_45 ?_
    obtain ⟨v25, e26, h⟩ := gb h
    refine gw_getA hx hb hT hown hK hI (ci := 2) rfl i_2 0 (by decide) wd_181 (fun _ h9 => h9) e26 d_B_bound_48 ?_
    refine lv_iconst (v := 0) hx hb d_B_bound_51 (by decide) ?_
    obtain ⟨v27, e28, h⟩ := gb h
    refine gw_aldA hx hb hK hI e28 d_B_bound_52 ?_
    refine lv_iload_n hx hb d_B_bound_53 rfl (lv_at hl 3 rfl) ?_
    obtain ⟨q31, e32, h⟩ := gb h
    obtain ⟨u29, e30⟩ := gsome h
    refine gw_callJ e30 h (gw_runV (As := [.int p2]) (rest := []) hx hb hml hown hT hK hZ hA hI (ci := 3) rfl e32 (m_So_limit l hst D g0 v27 p2 w u29 e30) ce_So_limit wd_752 wd_754 ⟨by decide, by decide⟩ rfl rfl hl.1 rfl (lv_room (Nat.le_of_ble_eq_true rfl)) d_B_bound_54 ⟨(show 2 + 0 ≤ 3 by omega), (show 12 + 0 ≤ 18 by omega)⟩) hI hA hexc (show 2 + 0 ≤ 3 by omega) (show 12 + 0 ≤ 18 by omega) (fun v33 w H locs h hI => ?_)
    refine lv_lstore (lv' := [(4, .long v33), (3, .ref v5), (0, .ref a0), (1, .int p1), (2, .int p2)]) hx hb d_B_bound_57 hl (by decide) rfl (fun ls hl => ?_)
    refine lv_iconst (v := 1) hx hb d_B_bound_59 (by decide) ?_
    refine lv_istore (lv' := [(6, .int 1), (4, .long v33), (3, .ref v5), (0, .ref a0), (1, .int p1), (2, .int p2)]) hx hb d_B_bound_60 hl (by decide) rfl (fun ls hl => ?_)
    obtain ⟨K120, eK120, h⟩ := gj h
    have hK120 : ∀ (x34 : Int64) (w : gW) (H : Heap) (locs : List Loc) (ls : Array Slot), K120 x34 w = some r → gI D s A w H locs → lv_has ls 9 [(4, .long x34)] → W p l e rm_B_bound s m args below meth c H locs 2 12 Q (F0 m 120 ls []) := by
      intro x34 w H locs ls h hI hl
      have h := gk2 eK120 h
      refine lv_lload hx hb d_B_bound_120 (lv_at hl 0 rfl) ?_
      exact W.widen (show 2 ≤ 3 by omega) (show 12 ≤ 18 by omega) (hret _ _ (Option.some.inj h).symm _ _ _ _ d_B_bound_122 hI)
    have hL62 : ∀ (n : Nat), ∀ (z35 : Int64) (z36 : Int32) (w : gW) (H : Heap) (locs : List Loc) (ls : Array Slot), f_B_bound_L62 g0 a0 p2 K120 n z35 z36 w = some r → gI D s A w H locs → lv_has ls 9 [(0, .ref a0), (2, .int p2), (4, .long z35), (6, .int z36)] → W p l e rm_B_bound s m args below meth c H locs 2 12 Q (F0 m 62 ls []) := by
      intro n
      induction n with
      | zero => intro z35 z36 w H locs ls h hI hl; exact absurd h (by simp [f_B_bound_L62])
      | succ n ih =>
        intro z35 z36 w H locs ls h hI hl
        rw [f_B_bound_L62] at h
        refine lv_iload hx hb d_B_bound_62 (lv_at hl 3 rfl) ?_
        refine lv_aload_n hx hb d_B_bound_64 rfl (lv_at hl 0 rfl) ?_
        obtain ⟨v37, e38, h⟩ := gb h
        refine gw_getA hx hb hT hown hK hI (ci := 0) rfl i_0 8 (by decide) wd_197 (fun _ h9 => h9) e38 d_B_bound_65 ?_
        obtain ⟨v39, e40, h⟩ := gb h
        refine gw_getI hx hb hT hown hK hI (ci := 2) rfl i_2 1 (by decide) wd_183 (fun _ h9 => h9) e40 d_B_bound_68 ?_
        refine lv_icmp_ge (tgt := 120) hx hb d_B_bound_71 (by decide) (fun c41 => ?_) (fun c41 => ?_)
        · skip
          have h := git c41 h
          exact hK120 _ w H locs ls h hI (lv_sub hl [2] rfl)
        · skip
          have h := gie c41 h
          refine lv_aload_n hx hb d_B_bound_74 rfl (lv_at hl 0 rfl) ?_
          obtain ⟨v42, e43, h⟩ := gb h
          refine gw_getA hx hb hT hown hK hI (ci := 0) rfl i_0 8 (by decide) wd_197 (fun _ h9 => h9) e43 d_B_bound_75 ?_
          obtain ⟨v44, e45, h⟩ := gb h
          refine gw_getA hx hb hT hown hK hI (ci := 2) rfl i_2 0 (by decide) wd_181 (fun _ h9 => h9) e45 d_B_bound_78 ?_
          refine lv_iload hx hb d_B_bound_81 (lv_at hl 3 rfl) ?_
          obtain ⟨v46, e47, h⟩ := gb h
          refine gw_aldA hx hb hK hI e47 d_B_bound_83 ?_
          refine lv_iload_n hx hb d_B_bound_84 rfl (lv_at hl 1 rfl) ?_
          obtain ⟨q50, e51, h⟩ := gb h
          obtain ⟨u48, e49⟩ := gsome h
          refine gw_callJ e49 h (gw_runV (As := [.int p2]) (rest := []) hx hb hml hown hT hK hZ hA hI (ci := 3) rfl e51 (m_So_limit l hst D g0 v46 p2 w u48 e49) ce_So_limit wd_752 wd_754 ⟨by decide, by decide⟩ rfl rfl hl.1 rfl (lv_room (Nat.le_of_ble_eq_true rfl)) d_B_bound_85 ⟨(show 2 + 0 ≤ 3 by omega), (show 12 + 0 ≤ 18 by omega)⟩) hI hA hexc (show 2 + 0 ≤ 3 by omega) (show 12 + 0 ≤ 18 by omega) (fun v52 w H locs h hI => ?_)
          refine lv_lstore (lv' := [(7, .long v52), (0, .ref a0), (2, .int p2), (4, .long z35), (6, .int z36)]) hx hb d_B_bound_88 hl (by decide) rfl (fun ls hl => ?_)
          refine lv_iload_n hx hb d_B_bound_90 rfl (lv_at hl 2 rfl) ?_
          refine lv_iconst (v := 3) hx hb d_B_bound_91 (by decide) ?_
          obtain ⟨K112, eK112, h⟩ := gj h
          have hK112 : ∀ (y53 : Int64) (w : gW) (H : Heap) (locs : List Loc) (ls : Array Slot), K112 y53 w = some r → gI D s A w H locs → lv_has ls 9 [(0, .ref a0), (2, .int p2), (6, .int z36)] → W p l e rm_B_bound s m args below meth c H locs 2 12 Q (F0 m 112 ls [.long y53]) := by
            intro y53 w H locs ls h hI hl
            have h := gk2 eK112 h
            refine lv_lstore (lv' := [(4, .long y53), (0, .ref a0), (2, .int p2), (6, .int z36)]) hx hb d_B_bound_112 hl (by decide) rfl (fun ls hl => ?_)
            refine lv_iinc (v := z36 + 1) (lv' := [(6, .int (z36 + 1)), (4, .long y53), (0, .ref a0), (2, .int p2)]) hx hb d_B_bound_114 hl (k := 3) rfl rfl (by decide) rfl (fun ls hl => ?_)
            refine lv_goto (tgt := 62) hx hb d_B_bound_117 (by decide) ?_
            exact ih _ _ w H locs ls h hI (lv_sub hl [2, 3, 1, 0] rfl)
          refine lv_icmp_ge (tgt := 105) hx hb d_B_bound_92 (by decide) (fun c54 => ?_) (fun c54 => ?_)
          · skip
            have h := git c54 h
            refine lv_lload hx hb d_B_bound_105 (lv_at hl 3 rfl) ?_
            refine lv_lload hx hb d_B_bound_107 (lv_at hl 0 rfl) ?_
            obtain ⟨u55, e56⟩ := gsome h
            refine gw_callJ e56 h (gw_runS (As := [.long z35, .long v52]) (rest := []) hx hb hml hown hT hK hZ hA hI (m_Ma_max2 l hst D g0 z35 v52 w u55 e56) ce_Ma_max2 wd_84 ⟨by decide, by decide⟩ rfl rfl hl.1 rfl (lv_room (Nat.le_of_ble_eq_true rfl)) d_B_bound_109 ⟨(show 2 + 0 ≤ 3 by omega), (show 12 + 0 ≤ 18 by omega)⟩) hI hA hexc (show 2 + 0 ≤ 3 by omega) (show 12 + 0 ≤ 18 by omega) (fun v57 w H locs h hI => ?_)
            exact hK112 _ w H locs ls h hI (lv_sub hl [1, 2, 4] rfl)
          · skip
            have h := gie c54 h
            refine lv_lload hx hb d_B_bound_95 (lv_at hl 3 rfl) ?_
            refine lv_lload hx hb d_B_bound_97 (lv_at hl 0 rfl) ?_
            obtain ⟨u58, e59⟩ := gsome h
            refine gw_callJ e59 h (gw_runS (As := [.long z35, .long v52]) (rest := []) hx hb hml hown hT hK hZ hA hI (m_Ma_min2 l hst D g0 z35 v52 w u58 e59) ce_Ma_min2 wd_81 ⟨by decide, by decide⟩ rfl rfl hl.1 rfl (lv_room (Nat.le_of_ble_eq_true rfl)) d_B_bound_99 ⟨(show 2 + 0 ≤ 3 by omega), (show 12 + 0 ≤ 18 by omega)⟩) hI hA hexc (show 2 + 0 ≤ 3 by omega) (show 12 + 0 ≤ 18 by omega) (fun v60 w H locs h hI => ?_)
            refine lv_goto (tgt := 112) hx hb d_B_bound_102 (by decide) ?_
            exact hK112 _ w H locs ls h hI (lv_sub hl [1, 2, 4] rfl)
    exact hL62 64 _ _ w H locs ls h hI (lv_sub hl [3, 5, 1, 0] rfl)
  · skip
    have h := git c22 h
    exact gw_throwS (names := ["java/lang/RuntimeException", "java/lang/Exception"]) (text := "the placement's body is empty") hx hb hst hown hT hZ hI hl.1 hml hnt hlocks (by decide +kernel) (by decide +kernel) wd_736 wd_71 (by decide) at_ISE d_B_bound_34 d_B_bound_37 d_B_bound_38 d_B_bound_40 d_B_bound_43 (by decide) (Nat.le_of_ble_eq_true rfl) (show 2 + 1 ≤ 3 by omega) (show 12 + 6 ≤ 18 by omega) hthr h

abbrev b_B_needWithin : ByteArray := prog_1_method_20_code
def y_B_needWithin : MethodName := ⟨"BodySolids", "needWithin", "(JJJ)V"⟩
theorem d_B_needWithin_0 : decode b_B_needWithin 0 = .ok (.lload_n 0, 1) := by decide +kernel
theorem d_B_needWithin_1 : decode b_B_needWithin 1 = .ok (.lload_n 2, 1) := by decide +kernel
theorem d_B_needWithin_2 : decode b_B_needWithin 2 = .ok (.lcmp, 1) := by decide +kernel
theorem d_B_needWithin_3 : decode b_B_needWithin 3 = .ok (.ifCond .lt 10, 3) := by decide +kernel
theorem d_B_needWithin_6 : decode b_B_needWithin 6 = .ok (.lload_n 0, 1) := by decide +kernel
theorem d_B_needWithin_7 : decode b_B_needWithin 7 = .ok (.lload 4, 2) := by decide +kernel
theorem d_B_needWithin_9 : decode b_B_needWithin 9 = .ok (.lcmp, 1) := by decide +kernel
theorem d_B_needWithin_10 : decode b_B_needWithin 10 = .ok (.ifCond .le 13, 3) := by decide +kernel
theorem d_B_needWithin_13 : decode b_B_needWithin 13 = .ok (.new 252, 3) := by decide +kernel
theorem d_B_needWithin_16 : decode b_B_needWithin 16 = .ok (.dup, 1) := by decide +kernel
theorem d_B_needWithin_17 : decode b_B_needWithin 17 = .ok (.ldc 254, 2) := by decide +kernel
theorem d_B_needWithin_19 : decode b_B_needWithin 19 = .ok (.invokespecial 256, 3) := by decide +kernel
theorem d_B_needWithin_22 : decode b_B_needWithin 22 = .ok (.athrow, 1) := by decide +kernel
theorem d_B_needWithin_23 : decode b_B_needWithin 23 = .ok (.return_, 1) := by decide +kernel
abbrev rm_B_needWithin : Room := { frames := 7, cells := 1, slots := 6, locals := 90 }
theorem ce_B_needWithin : gCe y_B_needWithin (.code y_B_needWithin b_B_needWithin 6 none) 6 3 true := gCe.code wd_518 wd_49 wd_517 (by decide) (by decide +kernel)
def f_B_needWithin (g0 : gG) (p0 : Int64) (p1 : Int64) (p2 : Int64) (w : gW) : gX Unit := gjoin (fun K13 => if p0 < p1 then (K13 w) else (if p0 ≤ p2 then (some (.inr (), w)) else (K13 w))) (fun (w : gW) => gthrow "java/lang/IllegalArgumentException" w)
set_option maxHeartbeats 4000000 in
set_option maxRecDepth 100000 in
theorem m_B_needWithin (l : Launch) (hst : l.stackTraces = false) (D : gD) (g0 : gG) (p0 : Int64) (p1 : Int64) (p2 : Int64) (w : gW) (r : (String ⊕ Unit) × gW) (h : f_B_needWithin g0 p0 p1 p2 w = some r) : gMet l y_B_needWithin (.code y_B_needWithin b_B_needWithin 6 none) rm_B_needWithin D g0 [.long p0, .long p1, .long p2] w (goV r) := by
  refine gw_ofV (by decide +kernel) (Nat.le_of_ble_eq_true rfl) ?_
  intro p e s m below meth c ls args A Q hx hb hml hown hlocks hin hnt hT hK hZ hA hret hexc hthr hI hl
  obtain ⟨H, hH⟩ : ∃ H, H = s.heap := ⟨_, rfl⟩
  rw [← hH] at hI ⊢
  obtain ⟨locs, hlocs⟩ : ∃ z : List Loc, z = [] := ⟨_, rfl⟩
  rw [← hlocs] at hI ⊢
  have hl : lv_has ls 6 [(0, .long p0), (2, .long p1), (4, .long p2)] := hl
  unfold f_B_needWithin at h
  refine lv_lload_n hx hb d_B_needWithin_0 rfl (lv_at hl 0 rfl) ?_
  refine lv_lload_n hx hb d_B_needWithin_1 rfl (lv_at hl 1 rfl) ?_
  refine W.lcmp hx hb d_B_needWithin_2 ?_
  obtain ⟨K13, eK13, h⟩ := gj h
  have hK13 : ∀ (w : gW) (H : Heap) (locs : List Loc) (ls : Array Slot), K13 w = some r → gI D s A w H locs → lv_has ls 6 [] → W p l e rm_B_needWithin s m args below meth c H locs 0 0 Q (F0 m 13 ls []) := by
    intro w H locs ls h hI hl
    have h := gk1 eK13 h
    exact gw_throwS (names := ["java/lang/RuntimeException", "java/lang/Exception"]) (text := "a value is out of its range") hx hb hst hown hT hZ hI hl.1 hml hnt hlocks (by decide +kernel) (by decide +kernel) wd_519 wd_67 (by decide) at_IAE d_B_needWithin_13 d_B_needWithin_16 d_B_needWithin_17 d_B_needWithin_19 d_B_needWithin_22 (by decide) (Nat.le_of_ble_eq_true rfl) (show 0 + 1 ≤ 1 by omega) (show 0 + 6 ≤ 6 by omega) hthr h
  refine lv_if_lt (tgt := 13) hx hb d_B_needWithin_3 (by decide) (fun c1 => ?_) (fun c1 => ?_)
  · have c1 := (lg_cmp_lt _ _).mp c1
    have h := git c1 h
    exact hK13 w H locs ls h hI (lv_sub hl [] rfl)
  · have c1 := mt (lg_cmp_lt _ _).mpr c1
    have h := gie c1 h
    refine lv_lload_n hx hb d_B_needWithin_6 rfl (lv_at hl 0 rfl) ?_
    refine lv_lload hx hb d_B_needWithin_7 (lv_at hl 2 rfl) ?_
    refine W.lcmp hx hb d_B_needWithin_9 ?_
    refine lv_if_le (tgt := 23) hx hb d_B_needWithin_10 (by decide) (fun c2 => ?_) (fun c2 => ?_)
    · have c2 := (lg_cmp_le _ _).mp c2
      have h := git c2 h
      exact W.widen (show 0 ≤ 1 by omega) (show 0 ≤ 6 by omega) (hret _ _ (Option.some.inj h).symm _ _ _ _ d_B_needWithin_23 hI)
    · have c2 := mt (lg_cmp_le _ _).mpr c2
      have h := gie c2 h
      exact hK13 w H locs ls h hI (lv_sub hl [] rfl)

abbrev b_B_needPlace : ByteArray := prog_1_method_21_code
def y_B_needPlace : MethodName := ⟨"BodySolids", "needPlace", "(JJ)V"⟩
theorem d_B_needPlace_0 : decode b_B_needPlace 0 = .ok (.lload_n 0, 1) := by decide +kernel
theorem d_B_needPlace_1 : decode b_B_needPlace 1 = .ok (.ldc2_w 257, 3) := by decide +kernel
theorem d_B_needPlace_4 : decode b_B_needPlace 4 = .ok (.ldc2_w 148, 3) := by decide +kernel
theorem d_B_needPlace_7 : decode b_B_needPlace 7 = .ok (.invokestatic 138, 3) := by decide +kernel
theorem d_B_needPlace_10 : decode b_B_needPlace 10 = .ok (.lload_n 2, 1) := by decide +kernel
theorem d_B_needPlace_11 : decode b_B_needPlace 11 = .ok (.ldc2_w 257, 3) := by decide +kernel
theorem d_B_needPlace_14 : decode b_B_needPlace 14 = .ok (.ldc2_w 148, 3) := by decide +kernel
theorem d_B_needPlace_17 : decode b_B_needPlace 17 = .ok (.invokestatic 138, 3) := by decide +kernel
theorem d_B_needPlace_20 : decode b_B_needPlace 20 = .ok (.return_, 1) := by decide +kernel
abbrev rm_B_needPlace : Room := { frames := 8, cells := 2, slots := 12, locals := 115 }
theorem ce_B_needPlace : gCe y_B_needPlace (.code y_B_needPlace b_B_needPlace 4 none) 4 2 true := gCe.code wd_513 wd_49 wd_512 (by decide) (by decide +kernel)
def f_B_needPlace (g0 : gG) (p0 : Int64) (p1 : Int64) (w : gW) : gX Unit := gbind (f_B_needWithin g0 p0 (-5000) 5000 w) fun v3 w => gbind (f_B_needWithin g0 p1 (-5000) 5000 w) fun v6 w => some (.inr (), w)
set_option maxHeartbeats 4000000 in
set_option maxRecDepth 100000 in
theorem m_B_needPlace (l : Launch) (hst : l.stackTraces = false) (D : gD) (g0 : gG) (p0 : Int64) (p1 : Int64) (w : gW) (r : (String ⊕ Unit) × gW) (h : f_B_needPlace g0 p0 p1 w = some r) : gMet l y_B_needPlace (.code y_B_needPlace b_B_needPlace 4 none) rm_B_needPlace D g0 [.long p0, .long p1] w (goV r) := by
  refine gw_ofV (by decide +kernel) (Nat.le_of_ble_eq_true rfl) ?_
  intro p e s m below meth c ls args A Q hx hb hml hown hlocks hin hnt hT hK hZ hA hret hexc hthr hI hl
  obtain ⟨H, hH⟩ : ∃ H, H = s.heap := ⟨_, rfl⟩
  rw [← hH] at hI ⊢
  obtain ⟨locs, hlocs⟩ : ∃ z : List Loc, z = [] := ⟨_, rfl⟩
  rw [← hlocs] at hI ⊢
  have hl : lv_has ls 4 [(0, .long p0), (2, .long p1)] := hl
  unfold f_B_needPlace at h
  refine lv_lload_n hx hb d_B_needPlace_0 rfl (lv_at hl 0 rfl) ?_
  refine lv_ldc2 (v := (-5000)) hx hb hown (hT _ wd_514 args) d_B_needPlace_1 ?_
  refine lv_ldc2 (v := 5000) hx hb hown (hT _ wd_515 args) d_B_needPlace_4 ?_
  obtain ⟨u1, e2⟩ := gsome h
  refine gw_callV e2 h (gw_runS (As := [.long p0, .long (-5000), .long 5000]) (rest := []) hx hb hml hown hT hK hZ hA hI (m_B_needWithin l hst D g0 p0 (-5000) 5000 w u1 e2) ce_B_needWithin wd_516 ⟨by decide, by decide⟩ rfl rfl hl.1 rfl (lv_room (Nat.le_of_ble_eq_true rfl)) d_B_needPlace_7 ⟨(show 0 + 1 ≤ 2 by omega), (show 0 + 6 ≤ 12 by omega)⟩) hI hA hexc (show 0 + 1 ≤ 2 by omega) (show 0 + 6 ≤ 12 by omega) (fun v3 w H locs h hI => ?_)
  refine W.widen (k := 1) (n := 6) (show 0 + 1 ≤ 1 by omega) (show 0 + 6 ≤ 6 by omega) ?_
  refine lv_lload_n hx hb d_B_needPlace_10 rfl (lv_at hl 1 rfl) ?_
  refine lv_ldc2 (v := (-5000)) hx hb hown (hT _ wd_514 args) d_B_needPlace_11 ?_
  refine lv_ldc2 (v := 5000) hx hb hown (hT _ wd_515 args) d_B_needPlace_14 ?_
  obtain ⟨u4, e5⟩ := gsome h
  refine gw_callV e5 h (gw_runS (As := [.long p1, .long (-5000), .long 5000]) (rest := []) hx hb hml hown hT hK hZ hA hI (m_B_needWithin l hst D g0 p1 (-5000) 5000 w u4 e5) ce_B_needWithin wd_516 ⟨by decide, by decide⟩ rfl rfl hl.1 rfl (lv_room (Nat.le_of_ble_eq_true rfl)) d_B_needPlace_17 ⟨(show 1 + 1 ≤ 2 by omega), (show 6 + 6 ≤ 12 by omega)⟩) hI hA hexc (show 1 + 1 ≤ 2 by omega) (show 6 + 6 ≤ 12 by omega) (fun v6 w H locs h hI => ?_)
  refine W.widen (k := 2) (n := 12) (show 1 + 1 ≤ 2 by omega) (show 6 + 6 ≤ 12 by omega) ?_
  exact W.widen (show 2 ≤ 2 by omega) (show 12 ≤ 12 by omega) (hret _ _ (Option.some.inj h).symm _ _ _ _ d_B_needPlace_20 hI)

abbrev b_B_needSize : ByteArray := prog_1_method_22_code
def y_B_needSize : MethodName := ⟨"BodySolids", "needSize", "(J)V"⟩
theorem d_B_needSize_0 : decode b_B_needSize 0 = .ok (.lload_n 0, 1) := by decide +kernel
theorem d_B_needSize_1 : decode b_B_needSize 1 = .ok (.lconst 1, 1) := by decide +kernel
theorem d_B_needSize_2 : decode b_B_needSize 2 = .ok (.ldc2_w 148, 3) := by decide +kernel
theorem d_B_needSize_5 : decode b_B_needSize 5 = .ok (.invokestatic 138, 3) := by decide +kernel
theorem d_B_needSize_8 : decode b_B_needSize 8 = .ok (.return_, 1) := by decide +kernel
abbrev rm_B_needSize : Room := { frames := 8, cells := 1, slots := 6, locals := 115 }
theorem ce_B_needSize : gCe y_B_needSize (.code y_B_needSize b_B_needSize 2 none) 2 1 true := gCe.code wd_537 wd_49 wd_536 (by decide) (by decide +kernel)
def f_B_needSize (g0 : gG) (p0 : Int64) (w : gW) : gX Unit := gbind (f_B_needWithin g0 p0 1 5000 w) fun v3 w => some (.inr (), w)
set_option maxHeartbeats 4000000 in
set_option maxRecDepth 100000 in
theorem m_B_needSize (l : Launch) (hst : l.stackTraces = false) (D : gD) (g0 : gG) (p0 : Int64) (w : gW) (r : (String ⊕ Unit) × gW) (h : f_B_needSize g0 p0 w = some r) : gMet l y_B_needSize (.code y_B_needSize b_B_needSize 2 none) rm_B_needSize D g0 [.long p0] w (goV r) := by
  refine gw_ofV (by decide +kernel) (Nat.le_of_ble_eq_true rfl) ?_
  intro p e s m below meth c ls args A Q hx hb hml hown hlocks hin hnt hT hK hZ hA hret hexc hthr hI hl
  obtain ⟨H, hH⟩ : ∃ H, H = s.heap := ⟨_, rfl⟩
  rw [← hH] at hI ⊢
  obtain ⟨locs, hlocs⟩ : ∃ z : List Loc, z = [] := ⟨_, rfl⟩
  rw [← hlocs] at hI ⊢
  have hl : lv_has ls 2 [(0, .long p0)] := hl
  unfold f_B_needSize at h
  refine lv_lload_n hx hb d_B_needSize_0 rfl (lv_at hl 0 rfl) ?_
  refine lv_lconst (v := 1) hx hb d_B_needSize_1 (by decide) ?_
  refine lv_ldc2 (v := 5000) hx hb hown (hT _ wd_515 args) d_B_needSize_2 ?_
  obtain ⟨u1, e2⟩ := gsome h
  refine gw_callV e2 h (gw_runS (As := [.long p0, .long 1, .long 5000]) (rest := []) hx hb hml hown hT hK hZ hA hI (m_B_needWithin l hst D g0 p0 1 5000 w u1 e2) ce_B_needWithin wd_516 ⟨by decide, by decide⟩ rfl rfl hl.1 rfl (lv_room (Nat.le_of_ble_eq_true rfl)) d_B_needSize_5 ⟨(show 0 + 1 ≤ 1 by omega), (show 0 + 6 ≤ 6 by omega)⟩) hI hA hexc (show 0 + 1 ≤ 1 by omega) (show 0 + 6 ≤ 6 by omega) (fun v3 w H locs h hI => ?_)
  refine W.widen (k := 1) (n := 6) (show 0 + 1 ≤ 1 by omega) (show 0 + 6 ≤ 6 by omega) ?_
  exact W.widen (show 1 ≤ 1 by omega) (show 6 ≤ 6 by omega) (hret _ _ (Option.some.inj h).symm _ _ _ _ d_B_needSize_8 hI)

abbrev b_B_needUpright : ByteArray := prog_1_method_23_code
def y_B_needUpright : MethodName := ⟨"BodySolids", "needUpright", "(JJ)V"⟩
theorem d_B_needUpright_0 : decode b_B_needUpright 0 = .ok (.lload_n 0, 1) := by decide +kernel
theorem d_B_needUpright_1 : decode b_B_needUpright 1 = .ok (.lconst 0, 1) := by decide +kernel
theorem d_B_needUpright_2 : decode b_B_needUpright 2 = .ok (.ldc2_w 148, 3) := by decide +kernel
theorem d_B_needUpright_5 : decode b_B_needUpright 5 = .ok (.invokestatic 138, 3) := by decide +kernel
theorem d_B_needUpright_8 : decode b_B_needUpright 8 = .ok (.lload_n 2, 1) := by decide +kernel
theorem d_B_needUpright_9 : decode b_B_needUpright 9 = .ok (.invokestatic 87, 3) := by decide +kernel
theorem d_B_needUpright_12 : decode b_B_needUpright 12 = .ok (.lload_n 0, 1) := by decide +kernel
theorem d_B_needUpright_13 : decode b_B_needUpright 13 = .ok (.lload_n 2, 1) := by decide +kernel
theorem d_B_needUpright_14 : decode b_B_needUpright 14 = .ok (.ladd, 1) := by decide +kernel
theorem d_B_needUpright_15 : decode b_B_needUpright 15 = .ok (.lconst 0, 1) := by decide +kernel
theorem d_B_needUpright_16 : decode b_B_needUpright 16 = .ok (.ldc2_w 148, 3) := by decide +kernel
theorem d_B_needUpright_19 : decode b_B_needUpright 19 = .ok (.invokestatic 138, 3) := by decide +kernel
theorem d_B_needUpright_22 : decode b_B_needUpright 22 = .ok (.return_, 1) := by decide +kernel
abbrev rm_B_needUpright : Room := { frames := 9, cells := 3, slots := 18, locals := 136 }
theorem ce_B_needUpright : gCe y_B_needUpright (.code y_B_needUpright b_B_needUpright 4 none) 4 2 true := gCe.code wd_540 wd_49 wd_539 (by decide) (by decide +kernel)
def f_B_needUpright (g0 : gG) (p0 : Int64) (p1 : Int64) (w : gW) : gX Unit := gbind (f_B_needWithin g0 p0 0 5000 w) fun v3 w => gbind (f_B_needSize g0 p1 w) fun v6 w => gbind (f_B_needWithin g0 (p0 + p1) 0 5000 w) fun v9 w => some (.inr (), w)
set_option maxHeartbeats 4000000 in
set_option maxRecDepth 100000 in
theorem m_B_needUpright (l : Launch) (hst : l.stackTraces = false) (D : gD) (g0 : gG) (p0 : Int64) (p1 : Int64) (w : gW) (r : (String ⊕ Unit) × gW) (h : f_B_needUpright g0 p0 p1 w = some r) : gMet l y_B_needUpright (.code y_B_needUpright b_B_needUpright 4 none) rm_B_needUpright D g0 [.long p0, .long p1] w (goV r) := by
  refine gw_ofV (by decide +kernel) (Nat.le_of_ble_eq_true rfl) ?_
  intro p e s m below meth c ls args A Q hx hb hml hown hlocks hin hnt hT hK hZ hA hret hexc hthr hI hl
  obtain ⟨H, hH⟩ : ∃ H, H = s.heap := ⟨_, rfl⟩
  rw [← hH] at hI ⊢
  obtain ⟨locs, hlocs⟩ : ∃ z : List Loc, z = [] := ⟨_, rfl⟩
  rw [← hlocs] at hI ⊢
  have hl : lv_has ls 4 [(0, .long p0), (2, .long p1)] := hl
  unfold f_B_needUpright at h
  refine lv_lload_n hx hb d_B_needUpright_0 rfl (lv_at hl 0 rfl) ?_
  refine lv_lconst (v := 0) hx hb d_B_needUpright_1 (by decide) ?_
  refine lv_ldc2 (v := 5000) hx hb hown (hT _ wd_515 args) d_B_needUpright_2 ?_
  obtain ⟨u1, e2⟩ := gsome h
  refine gw_callV e2 h (gw_runS (As := [.long p0, .long 0, .long 5000]) (rest := []) hx hb hml hown hT hK hZ hA hI (m_B_needWithin l hst D g0 p0 0 5000 w u1 e2) ce_B_needWithin wd_516 ⟨by decide, by decide⟩ rfl rfl hl.1 rfl (lv_room (Nat.le_of_ble_eq_true rfl)) d_B_needUpright_5 ⟨(show 0 + 1 ≤ 3 by omega), (show 0 + 6 ≤ 18 by omega)⟩) hI hA hexc (show 0 + 1 ≤ 3 by omega) (show 0 + 6 ≤ 18 by omega) (fun v3 w H locs h hI => ?_)
  refine W.widen (k := 1) (n := 6) (show 0 + 1 ≤ 1 by omega) (show 0 + 6 ≤ 6 by omega) ?_
  refine lv_lload_n hx hb d_B_needUpright_8 rfl (lv_at hl 1 rfl) ?_
  obtain ⟨u4, e5⟩ := gsome h
  refine gw_callV e5 h (gw_runS (As := [.long p1]) (rest := []) hx hb hml hown hT hK hZ hA hI (m_B_needSize l hst D g0 p1 w u4 e5) ce_B_needSize wd_535 ⟨by decide, by decide⟩ rfl rfl hl.1 rfl (lv_room (Nat.le_of_ble_eq_true rfl)) d_B_needUpright_9 ⟨(show 1 + 1 ≤ 3 by omega), (show 6 + 6 ≤ 18 by omega)⟩) hI hA hexc (show 1 + 1 ≤ 3 by omega) (show 6 + 6 ≤ 18 by omega) (fun v6 w H locs h hI => ?_)
  refine W.widen (k := 2) (n := 12) (show 1 + 1 ≤ 2 by omega) (show 6 + 6 ≤ 12 by omega) ?_
  refine lv_lload_n hx hb d_B_needUpright_12 rfl (lv_at hl 0 rfl) ?_
  refine lv_lload_n hx hb d_B_needUpright_13 rfl (lv_at hl 1 rfl) ?_
  refine lv_ladd hx hb d_B_needUpright_14 ?_
  refine lv_lconst (v := 0) hx hb d_B_needUpright_15 (by decide) ?_
  refine lv_ldc2 (v := 5000) hx hb hown (hT _ wd_515 args) d_B_needUpright_16 ?_
  obtain ⟨u7, e8⟩ := gsome h
  refine gw_callV e8 h (gw_runS (As := [.long (p0 + p1), .long 0, .long 5000]) (rest := []) hx hb hml hown hT hK hZ hA hI (m_B_needWithin l hst D g0 (p0 + p1) 0 5000 w u7 e8) ce_B_needWithin wd_516 ⟨by decide, by decide⟩ rfl rfl hl.1 rfl (lv_room (Nat.le_of_ble_eq_true rfl)) d_B_needUpright_19 ⟨(show 2 + 1 ≤ 3 by omega), (show 12 + 6 ≤ 18 by omega)⟩) hI hA hexc (show 2 + 1 ≤ 3 by omega) (show 12 + 6 ≤ 18 by omega) (fun v9 w H locs h hI => ?_)
  refine W.widen (k := 3) (n := 18) (show 2 + 1 ≤ 3 by omega) (show 12 + 6 ≤ 18 by omega) ?_
  exact W.widen (show 3 ≤ 3 by omega) (show 18 ≤ 18 by omega) (hret _ _ (Option.some.inj h).symm _ _ _ _ d_B_needUpright_22 hI)

abbrev b_B_relationSlot : ByteArray := prog_1_method_32_code
def y_B_relationSlot : MethodName := ⟨"BodySolids", "relationSlot", "(II)I"⟩
theorem d_B_relationSlot_0 : decode b_B_relationSlot 0 = .ok (.iload_n 0, 1) := by decide +kernel
theorem d_B_relationSlot_1 : decode b_B_relationSlot 1 = .ok (.iload_n 1, 1) := by decide +kernel
theorem d_B_relationSlot_2 : decode b_B_relationSlot 2 = .ok (.invokestatic 268, 3) := by decide +kernel
theorem d_B_relationSlot_5 : decode b_B_relationSlot 5 = .ok (.bipush 30, 2) := by decide +kernel
theorem d_B_relationSlot_7 : decode b_B_relationSlot 7 = .ok (.imul, 1) := by decide +kernel
theorem d_B_relationSlot_8 : decode b_B_relationSlot 8 = .ok (.iload_n 0, 1) := by decide +kernel
theorem d_B_relationSlot_9 : decode b_B_relationSlot 9 = .ok (.iload_n 1, 1) := by decide +kernel
theorem d_B_relationSlot_10 : decode b_B_relationSlot 10 = .ok (.invokestatic 270, 3) := by decide +kernel
theorem d_B_relationSlot_13 : decode b_B_relationSlot 13 = .ok (.iadd, 1) := by decide +kernel
theorem d_B_relationSlot_14 : decode b_B_relationSlot 14 = .ok (.ireturn, 1) := by decide +kernel
abbrev rm_B_relationSlot : Room := { frames := 1, cells := 0, slots := 0, locals := 21 }
theorem ce_B_relationSlot : gCe y_B_relationSlot (.code y_B_relationSlot b_B_relationSlot 2 (some .int)) 2 2 true := gCe.code wd_318 wd_49 wd_317 (by decide) (by decide +kernel)
def f_B_relationSlot (g0 : gG) (p0 : Int32) (p1 : Int32) (w : gW) : gX Int32 := gbind (f_Ma_min g0 p0 p1 w) fun v3 w => gbind (f_Ma_max g0 p0 p1 w) fun v6 w => some (.inr ((v3 * 30) + v6), w)
set_option maxHeartbeats 4000000 in
set_option maxRecDepth 100000 in
theorem m_B_relationSlot (l : Launch) (hst : l.stackTraces = false) (D : gD) (g0 : gG) (p0 : Int32) (p1 : Int32) (w : gW) (r : (String ⊕ Int32) × gW) (h : f_B_relationSlot g0 p0 p1 w = some r) : gMet l y_B_relationSlot (.code y_B_relationSlot b_B_relationSlot 2 (some .int)) rm_B_relationSlot D g0 [.int p0, .int p1] w (goI r) := by
  refine gw_ofI (by decide +kernel) (Nat.le_of_ble_eq_true rfl) ?_
  intro p e s m below meth c ls args A Q hx hb hml hown hlocks hin hnt hT hK hZ hA hret hexc hthr hI hl
  obtain ⟨H, hH⟩ : ∃ H, H = s.heap := ⟨_, rfl⟩
  rw [← hH] at hI ⊢
  obtain ⟨locs, hlocs⟩ : ∃ z : List Loc, z = [] := ⟨_, rfl⟩
  rw [← hlocs] at hI ⊢
  have hl : lv_has ls 2 [(0, .int p0), (1, .int p1)] := hl
  unfold f_B_relationSlot at h
  refine lv_iload_n hx hb d_B_relationSlot_0 rfl (lv_at hl 0 rfl) ?_
  refine lv_iload_n hx hb d_B_relationSlot_1 rfl (lv_at hl 1 rfl) ?_
  obtain ⟨u1, e2⟩ := gsome h
  refine gw_callI e2 h (gw_runS (As := [.int p0, .int p1]) (rest := []) hx hb hml hown hT hK hZ hA hI (m_Ma_min l hst D g0 p0 p1 w u1 e2) ce_Ma_min wd_319 ⟨by decide, by decide⟩ rfl rfl hl.1 rfl (lv_room (Nat.le_of_ble_eq_true rfl)) d_B_relationSlot_2 ⟨(show 0 + 0 ≤ 0 by omega), (show 0 + 0 ≤ 0 by omega)⟩) hI hA hexc (show 0 + 0 ≤ 0 by omega) (show 0 + 0 ≤ 0 by omega) (fun v3 w H locs h hI => ?_)
  refine lv_bipush (v := 30) hx hb d_B_relationSlot_5 (by decide) ?_
  refine lv_imul hx hb d_B_relationSlot_7 ?_
  refine lv_iload_n hx hb d_B_relationSlot_8 rfl (lv_at hl 0 rfl) ?_
  refine lv_iload_n hx hb d_B_relationSlot_9 rfl (lv_at hl 1 rfl) ?_
  obtain ⟨u4, e5⟩ := gsome h
  refine gw_callI e5 h (gw_runS (As := [.int p0, .int p1]) (rest := [.int (v3 * 30)]) hx hb hml hown hT hK hZ hA hI (m_Ma_max l hst D g0 p0 p1 w u4 e5) ce_Ma_max wd_320 ⟨by decide, by decide⟩ rfl rfl hl.1 rfl (lv_room (Nat.le_of_ble_eq_true rfl)) d_B_relationSlot_10 ⟨(show 0 + 0 ≤ 0 by omega), (show 0 + 0 ≤ 0 by omega)⟩) hI hA hexc (show 0 + 0 ≤ 0 by omega) (show 0 + 0 ≤ 0 by omega) (fun v6 w H locs h hI => ?_)
  refine lv_iadd hx hb d_B_relationSlot_13 ?_
  exact W.widen (show 0 ≤ 0 by omega) (show 0 ≤ 0 by omega) (hret _ _ (Option.some.inj h).symm _ _ _ _ d_B_relationSlot_14 hI)

abbrev b_B_forgetRelationsAt : ByteArray := prog_1_method_33_code
def y_B_forgetRelationsAt : MethodName := ⟨"BodySolids", "forgetRelationsAt", "(I)V"⟩
theorem d_B_forgetRelationsAt_0 : decode b_B_forgetRelationsAt 0 = .ok (.iconst 0, 1) := by decide +kernel
theorem d_B_forgetRelationsAt_1 : decode b_B_forgetRelationsAt 1 = .ok (.istore_n 2, 1) := by decide +kernel
theorem d_B_forgetRelationsAt_2 : decode b_B_forgetRelationsAt 2 = .ok (.iload_n 2, 1) := by decide +kernel
theorem d_B_forgetRelationsAt_3 : decode b_B_forgetRelationsAt 3 = .ok (.bipush 30, 2) := by decide +kernel
theorem d_B_forgetRelationsAt_5 : decode b_B_forgetRelationsAt 5 = .ok (.if_icmp .ge 20, 3) := by decide +kernel
theorem d_B_forgetRelationsAt_8 : decode b_B_forgetRelationsAt 8 = .ok (.aload_n 0, 1) := by decide +kernel
theorem d_B_forgetRelationsAt_9 : decode b_B_forgetRelationsAt 9 = .ok (.getfield 48, 3) := by decide +kernel
theorem d_B_forgetRelationsAt_12 : decode b_B_forgetRelationsAt 12 = .ok (.iload_n 1, 1) := by decide +kernel
theorem d_B_forgetRelationsAt_13 : decode b_B_forgetRelationsAt 13 = .ok (.iload_n 2, 1) := by decide +kernel
theorem d_B_forgetRelationsAt_14 : decode b_B_forgetRelationsAt 14 = .ok (.invokestatic 272, 3) := by decide +kernel
theorem d_B_forgetRelationsAt_17 : decode b_B_forgetRelationsAt 17 = .ok (.iconst (-1), 1) := by decide +kernel
theorem d_B_forgetRelationsAt_18 : decode b_B_forgetRelationsAt 18 = .ok (.iastore, 1) := by decide +kernel
theorem d_B_forgetRelationsAt_19 : decode b_B_forgetRelationsAt 19 = .ok (.iinc 2 1, 3) := by decide +kernel
theorem d_B_forgetRelationsAt_22 : decode b_B_forgetRelationsAt 22 = .ok (.goto (-20), 3) := by decide +kernel
theorem d_B_forgetRelationsAt_25 : decode b_B_forgetRelationsAt 25 = .ok (.return_, 1) := by decide +kernel
abbrev rm_B_forgetRelationsAt : Room := { frames := 2, cells := 0, slots := 0, locals := 42 }
theorem ce_B_forgetRelationsAt : gCe y_B_forgetRelationsAt (.code y_B_forgetRelationsAt b_B_forgetRelationsAt 3 none) 3 1 false := gCe.code wd_567 wd_49 wd_566 (by decide) (by decide +kernel)
def f_B_forgetRelationsAt_L2 (g0 : gG) (c0 : Nat) (c1 : Int32) (K25 : gW → gX Unit) : Nat → Int32 → gW → gX Unit
  | 0, _, _ => none
  | n + 1, z2, w => if 30 ≤ z2 then (K25 w) else ((gfA w c0 0 7).bind fun v2 => gbind (f_B_relationSlot g0 c1 z2 w) fun v6 w => (gsI w v2 v6 (-1)).bind fun w => f_B_forgetRelationsAt_L2 g0 c0 c1 K25 n (z2 + 1) w)
def f_B_forgetRelationsAt (g0 : gG) (a0 : Nat) (p1 : Int32) (w : gW) : gX Unit := gjoin (fun K25 => f_B_forgetRelationsAt_L2 g0 a0 p1 K25 64 0 w) (fun (w : gW) => some (.inr (), w))
set_option maxHeartbeats 4000000 in
set_option maxRecDepth 100000 in
theorem m_B_forgetRelationsAt (l : Launch) (hst : l.stackTraces = false) (D : gD) (g0 : gG) (a0 : Nat) (p1 : Int32) (w : gW) (r : (String ⊕ Unit) × gW) (h : f_B_forgetRelationsAt g0 a0 p1 w = some r) : gMet l y_B_forgetRelationsAt (.code y_B_forgetRelationsAt b_B_forgetRelationsAt 3 none) rm_B_forgetRelationsAt D g0 [.ref a0, .int p1] w (goV r) := by
  refine gw_ofV (by decide +kernel) (Nat.le_of_ble_eq_true rfl) ?_
  intro p e s m below meth c ls args A Q hx hb hml hown hlocks hin hnt hT hK hZ hA hret hexc hthr hI hl
  obtain ⟨H, hH⟩ : ∃ H, H = s.heap := ⟨_, rfl⟩
  rw [← hH] at hI ⊢
  obtain ⟨locs, hlocs⟩ : ∃ z : List Loc, z = [] := ⟨_, rfl⟩
  rw [← hlocs] at hI ⊢
  have hl : lv_has ls 3 [(0, .ref a0), (1, .int p1)] := hl
  unfold f_B_forgetRelationsAt at h
  refine lv_iconst (v := 0) hx hb d_B_forgetRelationsAt_0 (by decide) ?_
  refine lv_istore_n (lv' := [(2, .int 0), (0, .ref a0), (1, .int p1)]) hx hb d_B_forgetRelationsAt_1 rfl hl (by decide) rfl (fun ls hl => ?_)
  obtain ⟨K25, eK25, h⟩ := gj h
  have hK25 : ∀ (w : gW) (H : Heap) (locs : List Loc) (ls : Array Slot), K25 w = some r → gI D s A w H locs → lv_has ls 3 [] → W p l e rm_B_forgetRelationsAt s m args below meth c H locs 0 0 Q (F0 m 25 ls []) := by
    intro w H locs ls h hI hl
    have h := gk1 eK25 h
    exact W.widen (show 0 ≤ 0 by omega) (show 0 ≤ 0 by omega) (hret _ _ (Option.some.inj h).symm _ _ _ _ d_B_forgetRelationsAt_25 hI)
  have hL2 : ∀ (n : Nat), ∀ (z1 : Int32) (w : gW) (H : Heap) (locs : List Loc) (ls : Array Slot), f_B_forgetRelationsAt_L2 g0 a0 p1 K25 n z1 w = some r → gI D s A w H locs → lv_has ls 3 [(0, .ref a0), (1, .int p1), (2, .int z1)] → W p l e rm_B_forgetRelationsAt s m args below meth c H locs 0 0 Q (F0 m 2 ls []) := by
    intro n
    induction n with
    | zero => intro z1 w H locs ls h hI hl; exact absurd h (by simp [f_B_forgetRelationsAt_L2])
    | succ n ih =>
      intro z1 w H locs ls h hI hl
      rw [f_B_forgetRelationsAt_L2] at h
      refine lv_iload_n hx hb d_B_forgetRelationsAt_2 rfl (lv_at hl 2 rfl) ?_
      refine lv_bipush (v := 30) hx hb d_B_forgetRelationsAt_3 (by decide) ?_
      refine lv_icmp_ge (tgt := 25) hx hb d_B_forgetRelationsAt_5 (by decide) (fun c2 => ?_) (fun c2 => ?_)
      · skip
        have h := git c2 h
        exact hK25 w H locs ls h hI (lv_sub hl [] rfl)
      · skip
        have h := gie c2 h
        refine lv_aload_n hx hb d_B_forgetRelationsAt_8 rfl (lv_at hl 0 rfl) ?_
        obtain ⟨v3, e4, h⟩ := gb h
        refine gw_getA hx hb hT hown hK hI (ci := 0) rfl i_0 7 (by decide) wd_196 (fun _ h9 => h9) e4 d_B_forgetRelationsAt_9 ?_
        refine lv_iload_n hx hb d_B_forgetRelationsAt_12 rfl (lv_at hl 1 rfl) ?_
        refine lv_iload_n hx hb d_B_forgetRelationsAt_13 rfl (lv_at hl 2 rfl) ?_
        obtain ⟨u5, e6⟩ := gsome h
        refine gw_callI e6 h (gw_runS (As := [.int p1, .int z1]) (rest := [.ref v3]) hx hb hml hown hT hK hZ hA hI (m_B_relationSlot l hst D g0 p1 z1 w u5 e6) ce_B_relationSlot wd_316 ⟨by decide, by decide⟩ rfl rfl hl.1 rfl (lv_room (Nat.le_of_ble_eq_true rfl)) d_B_forgetRelationsAt_14 ⟨(show 0 + 0 ≤ 0 by omega), (show 0 + 0 ≤ 0 by omega)⟩) hI hA hexc (show 0 + 0 ≤ 0 by omega) (show 0 + 0 ≤ 0 by omega) (fun v7 w H locs h hI => ?_)
        refine lv_iconst (v := -1) hx hb d_B_forgetRelationsAt_17 (by decide) ?_
        obtain ⟨w, e8, h⟩ := gb h
        refine gw_astI hx hb hK hI e8 d_B_forgetRelationsAt_18 (fun H locs hI => ?_)
        refine lv_iinc (v := z1 + 1) (lv' := [(2, .int (z1 + 1)), (0, .ref a0), (1, .int p1)]) hx hb d_B_forgetRelationsAt_19 hl (k := 2) rfl rfl (by decide) rfl (fun ls hl => ?_)
        refine lv_goto (tgt := 2) hx hb d_B_forgetRelationsAt_22 (by decide) ?_
        exact ih _ w H locs ls h hI (lv_sub hl [1, 2, 0] rfl)
  exact hL2 64 _ w H locs ls h hI (lv_sub hl [1, 2, 0] rfl)

abbrev b_B_forgetRelationsOf : ByteArray := prog_1_method_34_code
def y_B_forgetRelationsOf : MethodName := ⟨"BodySolids", "forgetRelationsOf", "(LBodySolids$Body;)V"⟩
theorem d_B_forgetRelationsOf_0 : decode b_B_forgetRelationsOf 0 = .ok (.iconst 0, 1) := by decide +kernel
theorem d_B_forgetRelationsOf_1 : decode b_B_forgetRelationsOf 1 = .ok (.istore_n 2, 1) := by decide +kernel
theorem d_B_forgetRelationsOf_2 : decode b_B_forgetRelationsOf 2 = .ok (.iload_n 2, 1) := by decide +kernel
theorem d_B_forgetRelationsOf_3 : decode b_B_forgetRelationsOf 3 = .ok (.aload_n 0, 1) := by decide +kernel
theorem d_B_forgetRelationsOf_4 : decode b_B_forgetRelationsOf 4 = .ok (.getfield 31, 3) := by decide +kernel
theorem d_B_forgetRelationsOf_7 : decode b_B_forgetRelationsOf 7 = .ok (.invokevirtual 68, 3) := by decide +kernel
theorem d_B_forgetRelationsOf_10 : decode b_B_forgetRelationsOf 10 = .ok (.if_icmp .ge 32, 3) := by decide +kernel
theorem d_B_forgetRelationsOf_13 : decode b_B_forgetRelationsOf 13 = .ok (.aload_n 0, 1) := by decide +kernel
theorem d_B_forgetRelationsOf_14 : decode b_B_forgetRelationsOf 14 = .ok (.getfield 31, 3) := by decide +kernel
theorem d_B_forgetRelationsOf_17 : decode b_B_forgetRelationsOf 17 = .ok (.iload_n 2, 1) := by decide +kernel
theorem d_B_forgetRelationsOf_18 : decode b_B_forgetRelationsOf 18 = .ok (.invokevirtual 205, 3) := by decide +kernel
theorem d_B_forgetRelationsOf_21 : decode b_B_forgetRelationsOf 21 = .ok (.checkcast 164, 3) := by decide +kernel
theorem d_B_forgetRelationsOf_24 : decode b_B_forgetRelationsOf 24 = .ok (.getfield 275, 3) := by decide +kernel
theorem d_B_forgetRelationsOf_27 : decode b_B_forgetRelationsOf 27 = .ok (.aload_n 1, 1) := by decide +kernel
theorem d_B_forgetRelationsOf_28 : decode b_B_forgetRelationsOf 28 = .ok (.if_acmp .ne 8, 3) := by decide +kernel
theorem d_B_forgetRelationsOf_31 : decode b_B_forgetRelationsOf 31 = .ok (.aload_n 0, 1) := by decide +kernel
theorem d_B_forgetRelationsOf_32 : decode b_B_forgetRelationsOf 32 = .ok (.iload_n 2, 1) := by decide +kernel
theorem d_B_forgetRelationsOf_33 : decode b_B_forgetRelationsOf 33 = .ok (.invokevirtual 182, 3) := by decide +kernel
theorem d_B_forgetRelationsOf_36 : decode b_B_forgetRelationsOf 36 = .ok (.iinc 2 1, 3) := by decide +kernel
theorem d_B_forgetRelationsOf_39 : decode b_B_forgetRelationsOf 39 = .ok (.goto (-37), 3) := by decide +kernel
theorem d_B_forgetRelationsOf_42 : decode b_B_forgetRelationsOf 42 = .ok (.return_, 1) := by decide +kernel
abbrev rm_B_forgetRelationsOf : Room := { frames := 3, cells := 0, slots := 0, locals := 64 }
theorem ce_B_forgetRelationsOf : gCe y_B_forgetRelationsOf (.code y_B_forgetRelationsOf b_B_forgetRelationsOf 3 none) 3 1 false := gCe.code wd_563 wd_49 wd_562 (by decide) (by decide +kernel)
def f_B_forgetRelationsOf_L2 (g0 : gG) (c0 : Nat) (c1 : Nat) (K42 : gW → gX Unit) : Nat → Int32 → gW → gX Unit
  | 0, _, _ => none
  | n + 1, z2, w => (gfA w c0 0 2).bind fun v1 => (gck w v1 1).bind fun _ => gbind (f_AL_size g0 v1 w) fun v7 w => if v7 ≤ z2 then (K42 w) else ((gfA w c0 0 2).bind fun v9 => (gck w v9 1).bind fun _ => gbind (f_AL_get g0 v9 z2 w) fun v15 w => (gck w v15 5).bind fun _ => (gfA w v15 5 0).bind fun v18 => gjoin (fun K36 => if v18 = c1 then ((gck w c0 0).bind fun _ => gbind (f_B_forgetRelationsAt g0 c0 z2 w) fun v25 w => K36 w) else (K36 w)) (fun (w : gW) => f_B_forgetRelationsOf_L2 g0 c0 c1 K42 n (z2 + 1) w))
def f_B_forgetRelationsOf (g0 : gG) (a0 : Nat) (a1 : Nat) (w : gW) : gX Unit := gjoin (fun K42 => f_B_forgetRelationsOf_L2 g0 a0 a1 K42 64 0 w) (fun (w : gW) => some (.inr (), w))
set_option maxHeartbeats 4000000 in
set_option maxRecDepth 100000 in
theorem m_B_forgetRelationsOf (l : Launch) (hst : l.stackTraces = false) (D : gD) (g0 : gG) (a0 : Nat) (a1 : Nat) (w : gW) (r : (String ⊕ Unit) × gW) (h : f_B_forgetRelationsOf g0 a0 a1 w = some r) : gMet l y_B_forgetRelationsOf (.code y_B_forgetRelationsOf b_B_forgetRelationsOf 3 none) rm_B_forgetRelationsOf D g0 [.ref a0, .ref a1] w (goV r) := by
  refine gw_ofV (by decide +kernel) (Nat.le_of_ble_eq_true rfl) ?_
  intro p e s m below meth c ls args A Q hx hb hml hown hlocks hin hnt hT hK hZ hA hret hexc hthr hI hl
  obtain ⟨H, hH⟩ : ∃ H, H = s.heap := ⟨_, rfl⟩
  rw [← hH] at hI ⊢
  obtain ⟨locs, hlocs⟩ : ∃ z : List Loc, z = [] := ⟨_, rfl⟩
  rw [← hlocs] at hI ⊢
  have hl : lv_has ls 3 [(0, .ref a0), (1, .ref a1)] := hl
  unfold f_B_forgetRelationsOf at h
  refine lv_iconst (v := 0) hx hb d_B_forgetRelationsOf_0 (by decide) ?_
  refine lv_istore_n (lv' := [(2, .int 0), (0, .ref a0), (1, .ref a1)]) hx hb d_B_forgetRelationsOf_1 rfl hl (by decide) rfl (fun ls hl => ?_)
  obtain ⟨K42, eK42, h⟩ := gj h
  have hK42 : ∀ (w : gW) (H : Heap) (locs : List Loc) (ls : Array Slot), K42 w = some r → gI D s A w H locs → lv_has ls 3 [] → W p l e rm_B_forgetRelationsOf s m args below meth c H locs 0 0 Q (F0 m 42 ls []) := by
    intro w H locs ls h hI hl
    have h := gk1 eK42 h
    exact W.widen (show 0 ≤ 0 by omega) (show 0 ≤ 0 by omega) (hret _ _ (Option.some.inj h).symm _ _ _ _ d_B_forgetRelationsOf_42 hI)
  have hL2 : ∀ (n : Nat), ∀ (z1 : Int32) (w : gW) (H : Heap) (locs : List Loc) (ls : Array Slot), f_B_forgetRelationsOf_L2 g0 a0 a1 K42 n z1 w = some r → gI D s A w H locs → lv_has ls 3 [(0, .ref a0), (1, .ref a1), (2, .int z1)] → W p l e rm_B_forgetRelationsOf s m args below meth c H locs 0 0 Q (F0 m 2 ls []) := by
    intro n
    induction n with
    | zero => intro z1 w H locs ls h hI hl; exact absurd h (by simp [f_B_forgetRelationsOf_L2])
    | succ n ih =>
      intro z1 w H locs ls h hI hl
      rw [f_B_forgetRelationsOf_L2] at h
      refine lv_iload_n hx hb d_B_forgetRelationsOf_2 rfl (lv_at hl 2 rfl) ?_
      refine lv_aload_n hx hb d_B_forgetRelationsOf_3 rfl (lv_at hl 0 rfl) ?_
      obtain ⟨v2, e3, h⟩ := gb h
      refine gw_getA hx hb hT hown hK hI (ci := 0) rfl i_0 2 (by decide) wd_191 (fun _ h9 => h9) e3 d_B_forgetRelationsOf_4 ?_
      obtain ⟨q6, e7, h⟩ := gb h
      obtain ⟨u4, e5⟩ := gsome h
      refine gw_callI e5 h (gw_runV (As := []) (rest := [.int z1]) hx hb hml hown hT hK hZ hA hI (ci := 1) rfl e7 (m_AL_size l hst D g0 v2 w u4 e5) ce_AL_size wd_224 wd_226 ⟨by decide, by decide⟩ rfl rfl hl.1 rfl (lv_room (Nat.le_of_ble_eq_true rfl)) d_B_forgetRelationsOf_7 ⟨(show 0 + 0 ≤ 0 by omega), (show 0 + 0 ≤ 0 by omega)⟩) hI hA hexc (show 0 + 0 ≤ 0 by omega) (show 0 + 0 ≤ 0 by omega) (fun v8 w H locs h hI => ?_)
      refine lv_icmp_ge (tgt := 42) hx hb d_B_forgetRelationsOf_10 (by decide) (fun c9 => ?_) (fun c9 => ?_)
      · skip
        have h := git c9 h
        exact hK42 w H locs ls h hI (lv_sub hl [] rfl)
      · skip
        have h := gie c9 h
        refine lv_aload_n hx hb d_B_forgetRelationsOf_13 rfl (lv_at hl 0 rfl) ?_
        obtain ⟨v10, e11, h⟩ := gb h
        refine gw_getA hx hb hT hown hK hI (ci := 0) rfl i_0 2 (by decide) wd_191 (fun _ h9 => h9) e11 d_B_forgetRelationsOf_14 ?_
        refine lv_iload_n hx hb d_B_forgetRelationsOf_17 rfl (lv_at hl 2 rfl) ?_
        obtain ⟨q14, e15, h⟩ := gb h
        obtain ⟨u12, e13⟩ := gsome h
        refine gw_callA e13 h (gw_runV (As := [.int z1]) (rest := []) hx hb hml hown hT hK hZ hA hI (ci := 1) rfl e15 (m_AL_get l hst D g0 v10 z1 w u12 e13) ce_AL_get wd_321 wd_323 ⟨by decide, by decide⟩ rfl rfl hl.1 rfl (lv_room (Nat.le_of_ble_eq_true rfl)) d_B_forgetRelationsOf_18 ⟨(show 0 + 0 ≤ 0 by omega), (show 0 + 0 ≤ 0 by omega)⟩) hI hA hexc (show 0 + 0 ≤ 0 by omega) (show 0 + 0 ≤ 0 by omega) (fun v16 w H locs h hI => ?_)
        obtain ⟨q18, e17, h⟩ := gb h
        refine gw_cast hx hb hT hown hK hI wd_335 (ci := 5) rfl wd_1123 e17 d_B_forgetRelationsOf_21 ?_
        obtain ⟨v19, e20, h⟩ := gb h
        refine gw_getA hx hb hT hown hK hI (ci := 5) rfl i_5 0 (by decide) wd_653 (fun _ h9 => h9) e20 d_B_forgetRelationsOf_24 ?_
        refine lv_aload_n hx hb d_B_forgetRelationsOf_27 rfl (lv_at hl 1 rfl) ?_
        obtain ⟨K36, eK36, h⟩ := gj h
        have hK36 : ∀ (w : gW) (H : Heap) (locs : List Loc) (ls : Array Slot), K36 w = some r → gI D s A w H locs → lv_has ls 3 [(0, .ref a0), (1, .ref a1), (2, .int z1)] → W p l e rm_B_forgetRelationsOf s m args below meth c H locs 0 0 Q (F0 m 36 ls []) := by
          intro w H locs ls h hI hl
          have h := gk1 eK36 h
          refine lv_iinc (v := z1 + 1) (lv' := [(2, .int (z1 + 1)), (0, .ref a0), (1, .ref a1)]) hx hb d_B_forgetRelationsOf_36 hl (k := 2) rfl rfl (by decide) rfl (fun ls hl => ?_)
          refine lv_goto (tgt := 2) hx hb d_B_forgetRelationsOf_39 (by decide) ?_
          exact ih _ w H locs ls h hI (lv_sub hl [1, 2, 0] rfl)
        refine gw_acmp_ne (tgt := 36) hx hb d_B_forgetRelationsOf_28 (by decide) (fun c21 => ?_) (fun c21 => ?_)
        · skip
          have h := gie c21 h
          exact hK36 w H locs ls h hI (lv_sub hl [0, 1, 2] rfl)
        · skip
          have h := git c21 h
          refine lv_aload_n hx hb d_B_forgetRelationsOf_31 rfl (lv_at hl 0 rfl) ?_
          refine lv_iload_n hx hb d_B_forgetRelationsOf_32 rfl (lv_at hl 2 rfl) ?_
          obtain ⟨q24, e25, h⟩ := gb h
          obtain ⟨u22, e23⟩ := gsome h
          refine gw_callV e23 h (gw_runV (As := [.int z1]) (rest := []) hx hb hml hown hT hK hZ hA hI (ci := 0) rfl e25 (m_B_forgetRelationsAt l hst D g0 a0 z1 w u22 e23) ce_B_forgetRelationsAt wd_564 wd_10 ⟨by decide, by decide⟩ rfl rfl hl.1 rfl (lv_room (Nat.le_of_ble_eq_true rfl)) d_B_forgetRelationsOf_33 ⟨(show 0 + 0 ≤ 0 by omega), (show 0 + 0 ≤ 0 by omega)⟩) hI hA hexc (show 0 + 0 ≤ 0 by omega) (show 0 + 0 ≤ 0 by omega) (fun v26 w H locs h hI => ?_)
          exact hK36 w H locs ls h hI (lv_sub hl [0, 1, 2] rfl)
  exact hL2 64 _ w H locs ls h hI (lv_sub hl [1, 2, 0] rfl)
