abbrev b_M_of : ByteArray := prog_9_method_10_code
def y_M_of : MethodName := ⟨"BodySolidsModel", "of", "(II)J"⟩
theorem d_M_of_0 : decode b_M_of 0 = .ok (.aload_n 0, 1) := by decide +kernel
theorem d_M_of_1 : decode b_M_of 1 = .ok (.getfield 16, 3) := by decide +kernel
theorem d_M_of_4 : decode b_M_of 4 = .ok (.bipush 6, 2) := by decide +kernel
theorem d_M_of_6 : decode b_M_of 6 = .ok (.iload_n 1, 1) := by decide +kernel
theorem d_M_of_7 : decode b_M_of 7 = .ok (.imul, 1) := by decide +kernel
theorem d_M_of_8 : decode b_M_of 8 = .ok (.iload_n 2, 1) := by decide +kernel
theorem d_M_of_9 : decode b_M_of 9 = .ok (.iadd, 1) := by decide +kernel
theorem d_M_of_10 : decode b_M_of 10 = .ok (.laload, 1) := by decide +kernel
theorem d_M_of_11 : decode b_M_of 11 = .ok (.lreturn, 1) := by decide +kernel
abbrev rm_M_of : Room := { frames := 0, cells := 0, slots := 0, locals := 0 }
theorem ce_M_of : gCe y_M_of (.code y_M_of b_M_of 3 (some .long)) 3 2 false := gCe.code wd_974 wd_57 wd_973 (by decide) (by decide +kernel)
def f_M_of (g0 : gG) (a0 : Nat) (p1 : Int32) (p2 : Int32) (w : gW) : gX Int64 := (gfA w a0 7 5).bind fun v1 => (gaJ w v1 ((6 * p1) + p2)).bind fun v3 => some (.inr v3, w)
set_option maxHeartbeats 4000000 in
set_option maxRecDepth 100000 in
theorem m_M_of (l : Launch) (hst : l.stackTraces = false) (D : gD) (g0 : gG) (a0 : Nat) (p1 : Int32) (p2 : Int32) (w : gW) (r : (String ⊕ Int64) × gW) (h : f_M_of g0 a0 p1 p2 w = some r) : gMet l y_M_of (.code y_M_of b_M_of 3 (some .long)) rm_M_of D g0 [.ref a0, .int p1, .int p2] w (goJ r) := by
  refine gw_ofJ (by decide +kernel) (Nat.le_of_ble_eq_true rfl) ?_
  intro p e s m below meth c ls args A Q hx hb hml hown hlocks hin hnt hT hK hZ hA hret hexc hthr hI hl
  obtain ⟨H, hH⟩ : ∃ H, H = s.heap := ⟨_, rfl⟩
  rw [← hH] at hI ⊢
  obtain ⟨locs, hlocs⟩ : ∃ z : List Loc, z = [] := ⟨_, rfl⟩
  rw [← hlocs] at hI ⊢
  have hl : lv_has ls 3 [(0, .ref a0), (1, .int p1), (2, .int p2)] := hl
  unfold f_M_of at h
  refine lv_aload_n hx hb d_M_of_0 rfl (lv_at hl 0 rfl) ?_
  obtain ⟨v1, e2, h⟩ := gb h
  refine gw_getA hx hb hT hown hK hI (ci := 7) rfl i_7 5 (by decide) wd_791 (fun _ h9 => h9) e2 d_M_of_1 ?_
  refine lv_bipush (v := 6) hx hb d_M_of_4 (by decide) ?_
  refine lv_iload_n hx hb d_M_of_6 rfl (lv_at hl 1 rfl) ?_
  refine lv_imul hx hb d_M_of_7 ?_
  refine lv_iload_n hx hb d_M_of_8 rfl (lv_at hl 2 rfl) ?_
  refine lv_iadd hx hb d_M_of_9 ?_
  obtain ⟨v3, e4, h⟩ := gb h
  refine gw_aldJ hx hb hK hI e4 d_M_of_10 ?_
  exact W.widen (show 0 ≤ 0 by omega) (show 0 ≤ 0 by omega) (hret _ _ (Option.some.inj h).symm _ _ _ _ d_M_of_11 hI)

abbrev b_M_xOf : ByteArray := prog_9_method_26_code
def y_M_xOf : MethodName := ⟨"BodySolidsModel", "xOf", "(IJJ)J"⟩
theorem d_M_xOf_0 : decode b_M_xOf 0 = .ok (.aload_n 0, 1) := by decide +kernel
theorem d_M_xOf_1 : decode b_M_xOf 1 = .ok (.getfield 47, 3) := by decide +kernel
theorem d_M_xOf_4 : decode b_M_xOf 4 = .ok (.iload_n 1, 1) := by decide +kernel
theorem d_M_xOf_5 : decode b_M_xOf 5 = .ok (.iaload, 1) := by decide +kernel
theorem d_M_xOf_6 : decode b_M_xOf 6 = .ok (.iconst 1, 1) := by decide +kernel
theorem d_M_xOf_7 : decode b_M_xOf 7 = .ok (.if_icmp .ne 9, 3) := by decide +kernel
theorem d_M_xOf_10 : decode b_M_xOf 10 = .ok (.lconst 0, 1) := by decide +kernel
theorem d_M_xOf_11 : decode b_M_xOf 11 = .ok (.lload_n 2, 1) := by decide +kernel
theorem d_M_xOf_12 : decode b_M_xOf 12 = .ok (.lsub, 1) := by decide +kernel
theorem d_M_xOf_13 : decode b_M_xOf 13 = .ok (.goto 4, 3) := by decide +kernel
theorem d_M_xOf_16 : decode b_M_xOf 16 = .ok (.lload_n 2, 1) := by decide +kernel
theorem d_M_xOf_17 : decode b_M_xOf 17 = .ok (.lstore 6, 2) := by decide +kernel
theorem d_M_xOf_19 : decode b_M_xOf 19 = .ok (.aload_n 0, 1) := by decide +kernel
theorem d_M_xOf_20 : decode b_M_xOf 20 = .ok (.getfield 44, 3) := by decide +kernel
theorem d_M_xOf_23 : decode b_M_xOf 23 = .ok (.iload_n 1, 1) := by decide +kernel
theorem d_M_xOf_24 : decode b_M_xOf 24 = .ok (.iaload, 1) := by decide +kernel
theorem d_M_xOf_25 : decode b_M_xOf 25 = .ok (.tableswitch 57 0 2 #[27, 37, 47], 27) := by decide +kernel
theorem d_M_xOf_52 : decode b_M_xOf 52 = .ok (.aload_n 0, 1) := by decide +kernel
theorem d_M_xOf_53 : decode b_M_xOf 53 = .ok (.getfield 38, 3) := by decide +kernel
theorem d_M_xOf_56 : decode b_M_xOf 56 = .ok (.iload_n 1, 1) := by decide +kernel
theorem d_M_xOf_57 : decode b_M_xOf 57 = .ok (.laload, 1) := by decide +kernel
theorem d_M_xOf_58 : decode b_M_xOf 58 = .ok (.lload 6, 2) := by decide +kernel
theorem d_M_xOf_60 : decode b_M_xOf 60 = .ok (.ladd, 1) := by decide +kernel
theorem d_M_xOf_61 : decode b_M_xOf 61 = .ok (.lreturn, 1) := by decide +kernel
theorem d_M_xOf_62 : decode b_M_xOf 62 = .ok (.aload_n 0, 1) := by decide +kernel
theorem d_M_xOf_63 : decode b_M_xOf 63 = .ok (.getfield 38, 3) := by decide +kernel
theorem d_M_xOf_66 : decode b_M_xOf 66 = .ok (.iload_n 1, 1) := by decide +kernel
theorem d_M_xOf_67 : decode b_M_xOf 67 = .ok (.laload, 1) := by decide +kernel
theorem d_M_xOf_68 : decode b_M_xOf 68 = .ok (.lload 4, 2) := by decide +kernel
theorem d_M_xOf_70 : decode b_M_xOf 70 = .ok (.lsub, 1) := by decide +kernel
theorem d_M_xOf_71 : decode b_M_xOf 71 = .ok (.lreturn, 1) := by decide +kernel
theorem d_M_xOf_72 : decode b_M_xOf 72 = .ok (.aload_n 0, 1) := by decide +kernel
theorem d_M_xOf_73 : decode b_M_xOf 73 = .ok (.getfield 38, 3) := by decide +kernel
theorem d_M_xOf_76 : decode b_M_xOf 76 = .ok (.iload_n 1, 1) := by decide +kernel
theorem d_M_xOf_77 : decode b_M_xOf 77 = .ok (.laload, 1) := by decide +kernel
theorem d_M_xOf_78 : decode b_M_xOf 78 = .ok (.lload 6, 2) := by decide +kernel
theorem d_M_xOf_80 : decode b_M_xOf 80 = .ok (.lsub, 1) := by decide +kernel
theorem d_M_xOf_81 : decode b_M_xOf 81 = .ok (.lreturn, 1) := by decide +kernel
theorem d_M_xOf_82 : decode b_M_xOf 82 = .ok (.aload_n 0, 1) := by decide +kernel
theorem d_M_xOf_83 : decode b_M_xOf 83 = .ok (.getfield 38, 3) := by decide +kernel
theorem d_M_xOf_86 : decode b_M_xOf 86 = .ok (.iload_n 1, 1) := by decide +kernel
theorem d_M_xOf_87 : decode b_M_xOf 87 = .ok (.laload, 1) := by decide +kernel
theorem d_M_xOf_88 : decode b_M_xOf 88 = .ok (.lload 4, 2) := by decide +kernel
theorem d_M_xOf_90 : decode b_M_xOf 90 = .ok (.ladd, 1) := by decide +kernel
theorem d_M_xOf_91 : decode b_M_xOf 91 = .ok (.lreturn, 1) := by decide +kernel
abbrev rm_M_xOf : Room := { frames := 0, cells := 0, slots := 0, locals := 0 }
theorem ce_M_xOf : gCe y_M_xOf (.code y_M_xOf b_M_xOf 8 (some .long)) 8 3 false := gCe.code wd_982 wd_57 wd_981 (by decide) (by decide +kernel)
def f_M_xOf (g0 : gG) (a0 : Nat) (p1 : Int32) (p2 : Int64) (p3 : Int64) (w : gW) : gX Int64 := (gfA w a0 7 17).bind fun v1 => (gaI w v1 p1).bind fun v3 => gjoin (fun K17 => if v3 = 1 then (K17 (0 - p2) w) else (K17 p2 w)) (fun (y5 : Int64) (w : gW) => (gfA w a0 7 16).bind fun v6 => (gaI w v6 p1).bind fun v8 => if v8 = 0 then ((gfA w a0 7 14).bind fun v11 => (gaJ w v11 p1).bind fun v13 => some (.inr (v13 + y5), w)) else (if v8 = 1 then ((gfA w a0 7 14).bind fun v16 => (gaJ w v16 p1).bind fun v18 => some (.inr (v18 - p3), w)) else (if v8 = 2 then ((gfA w a0 7 14).bind fun v21 => (gaJ w v21 p1).bind fun v23 => some (.inr (v23 - y5), w)) else ((gfA w a0 7 14).bind fun v25 => (gaJ w v25 p1).bind fun v27 => some (.inr (v27 + p3), w)))))
set_option maxHeartbeats 4000000 in
set_option maxRecDepth 100000 in
theorem m_M_xOf (l : Launch) (hst : l.stackTraces = false) (D : gD) (g0 : gG) (a0 : Nat) (p1 : Int32) (p2 : Int64) (p3 : Int64) (w : gW) (r : (String ⊕ Int64) × gW) (h : f_M_xOf g0 a0 p1 p2 p3 w = some r) : gMet l y_M_xOf (.code y_M_xOf b_M_xOf 8 (some .long)) rm_M_xOf D g0 [.ref a0, .int p1, .long p2, .long p3] w (goJ r) := by
  refine gw_ofJ (by decide +kernel) (Nat.le_of_ble_eq_true rfl) ?_
  intro p e s m below meth c ls args A Q hx hb hml hown hlocks hin hnt hT hK hZ hA hret hexc hthr hI hl
  obtain ⟨H, hH⟩ : ∃ H, H = s.heap := ⟨_, rfl⟩
  rw [← hH] at hI ⊢
  obtain ⟨locs, hlocs⟩ : ∃ z : List Loc, z = [] := ⟨_, rfl⟩
  rw [← hlocs] at hI ⊢
  have hl : lv_has ls 8 [(0, .ref a0), (1, .int p1), (2, .long p2), (4, .long p3)] := hl
  unfold f_M_xOf at h
  refine lv_aload_n hx hb d_M_xOf_0 rfl (lv_at hl 0 rfl) ?_
  obtain ⟨v1, e2, h⟩ := gb h
  refine gw_getA hx hb hT hown hK hI (ci := 7) rfl i_7 17 (by decide) wd_803 (fun _ h9 => h9) e2 d_M_xOf_1 ?_
  refine lv_iload_n hx hb d_M_xOf_4 rfl (lv_at hl 1 rfl) ?_
  obtain ⟨v3, e4, h⟩ := gb h
  refine gw_aldI hx hb hK hI e4 d_M_xOf_5 ?_
  refine lv_iconst (v := 1) hx hb d_M_xOf_6 (by decide) ?_
  obtain ⟨K17, eK17, h⟩ := gj h
  have hK17 : ∀ (y5 : Int64) (w : gW) (H : Heap) (locs : List Loc) (ls : Array Slot), K17 y5 w = some r → gI D s A w H locs → lv_has ls 8 [(0, .ref a0), (1, .int p1), (4, .long p3)] → W p l e rm_M_xOf s m args below meth c H locs 0 0 Q (F0 m 17 ls [.long y5]) := by
    intro y5 w H locs ls h hI hl
    have h := gk2 eK17 h
    refine lv_lstore (lv' := [(6, .long y5), (0, .ref a0), (1, .int p1), (4, .long p3)]) hx hb d_M_xOf_17 hl (by decide) rfl (fun ls hl => ?_)
    refine lv_aload_n hx hb d_M_xOf_19 rfl (lv_at hl 1 rfl) ?_
    obtain ⟨v6, e7, h⟩ := gb h
    refine gw_getA hx hb hT hown hK hI (ci := 7) rfl i_7 16 (by decide) wd_802 (fun _ h9 => h9) e7 d_M_xOf_20 ?_
    refine lv_iload_n hx hb d_M_xOf_23 rfl (lv_at hl 2 rfl) ?_
    obtain ⟨v8, e9, h⟩ := gb h
    refine gw_aldI hx hb hK hI e9 d_M_xOf_24 ?_
    rcases Decidable.em (v8 = 0) with c10 | c10
    · have h := git c10 h
      refine lv_tableIn (off := 27) (tgt := 52) hx hb d_M_xOf_25 (by rw [c10]; decide) (by rw [c10]; decide) (by rw [c10]; decide) (by decide) ?_
      refine lv_aload_n hx hb d_M_xOf_52 rfl (lv_at hl 1 rfl) ?_
      obtain ⟨v11, e12, h⟩ := gb h
      refine gw_getA hx hb hT hown hK hI (ci := 7) rfl i_7 14 (by decide) wd_800 (fun _ h9 => h9) e12 d_M_xOf_53 ?_
      refine lv_iload_n hx hb d_M_xOf_56 rfl (lv_at hl 2 rfl) ?_
      obtain ⟨v13, e14, h⟩ := gb h
      refine gw_aldJ hx hb hK hI e14 d_M_xOf_57 ?_
      refine lv_lload hx hb d_M_xOf_58 (lv_at hl 0 rfl) ?_
      refine lv_ladd hx hb d_M_xOf_60 ?_
      exact W.widen (show 0 ≤ 0 by omega) (show 0 ≤ 0 by omega) (hret _ _ (Option.some.inj h).symm _ _ _ _ d_M_xOf_61 hI)
    have h := gie c10 h
    rcases Decidable.em (v8 = 1) with c15 | c15
    · have h := git c15 h
      refine lv_tableIn (off := 37) (tgt := 62) hx hb d_M_xOf_25 (by rw [c15]; decide) (by rw [c15]; decide) (by rw [c15]; decide) (by decide) ?_
      refine lv_aload_n hx hb d_M_xOf_62 rfl (lv_at hl 1 rfl) ?_
      obtain ⟨v16, e17, h⟩ := gb h
      refine gw_getA hx hb hT hown hK hI (ci := 7) rfl i_7 14 (by decide) wd_800 (fun _ h9 => h9) e17 d_M_xOf_63 ?_
      refine lv_iload_n hx hb d_M_xOf_66 rfl (lv_at hl 2 rfl) ?_
      obtain ⟨v18, e19, h⟩ := gb h
      refine gw_aldJ hx hb hK hI e19 d_M_xOf_67 ?_
      refine lv_lload hx hb d_M_xOf_68 (lv_at hl 3 rfl) ?_
      refine lv_lsub hx hb d_M_xOf_70 ?_
      exact W.widen (show 0 ≤ 0 by omega) (show 0 ≤ 0 by omega) (hret _ _ (Option.some.inj h).symm _ _ _ _ d_M_xOf_71 hI)
    have h := gie c15 h
    rcases Decidable.em (v8 = 2) with c20 | c20
    · have h := git c20 h
      refine lv_tableIn (off := 47) (tgt := 72) hx hb d_M_xOf_25 (by rw [c20]; decide) (by rw [c20]; decide) (by rw [c20]; decide) (by decide) ?_
      refine lv_aload_n hx hb d_M_xOf_72 rfl (lv_at hl 1 rfl) ?_
      obtain ⟨v21, e22, h⟩ := gb h
      refine gw_getA hx hb hT hown hK hI (ci := 7) rfl i_7 14 (by decide) wd_800 (fun _ h9 => h9) e22 d_M_xOf_73 ?_
      refine lv_iload_n hx hb d_M_xOf_76 rfl (lv_at hl 2 rfl) ?_
      obtain ⟨v23, e24, h⟩ := gb h
      refine gw_aldJ hx hb hK hI e24 d_M_xOf_77 ?_
      refine lv_lload hx hb d_M_xOf_78 (lv_at hl 0 rfl) ?_
      refine lv_lsub hx hb d_M_xOf_80 ?_
      exact W.widen (show 0 ≤ 0 by omega) (show 0 ≤ 0 by omega) (hret _ _ (Option.some.inj h).symm _ _ _ _ d_M_xOf_81 hI)
    have h := gie c20 h
    refine lv_tableOut (tgt := 82) hx hb d_M_xOf_25 (by have q0 := lv_neT c10 (show (0 : Int32).toInt = 0 by decide); have q1 := lv_neT c15 (show (1 : Int32).toInt = 1 by decide); have q2 := lv_neT c20 (show (2 : Int32).toInt = 2 by decide); omega) (by decide) ?_
    refine lv_aload_n hx hb d_M_xOf_82 rfl (lv_at hl 1 rfl) ?_
    obtain ⟨v25, e26, h⟩ := gb h
    refine gw_getA hx hb hT hown hK hI (ci := 7) rfl i_7 14 (by decide) wd_800 (fun _ h9 => h9) e26 d_M_xOf_83 ?_
    refine lv_iload_n hx hb d_M_xOf_86 rfl (lv_at hl 2 rfl) ?_
    obtain ⟨v27, e28, h⟩ := gb h
    refine gw_aldJ hx hb hK hI e28 d_M_xOf_87 ?_
    refine lv_lload hx hb d_M_xOf_88 (lv_at hl 3 rfl) ?_
    refine lv_ladd hx hb d_M_xOf_90 ?_
    exact W.widen (show 0 ≤ 0 by omega) (show 0 ≤ 0 by omega) (hret _ _ (Option.some.inj h).symm _ _ _ _ d_M_xOf_91 hI)
  refine lv_icmp_ne (tgt := 16) hx hb d_M_xOf_7 (by decide) (fun c29 => ?_) (fun c29 => ?_)
  · skip
    have h := gie c29 h
    refine lv_lload_n hx hb d_M_xOf_16 rfl (lv_at hl 2 rfl) ?_
    exact hK17 _ w H locs ls h hI (lv_sub hl [0, 1, 3] rfl)
  · skip
    have h := git c29 h
    refine lv_lconst (v := 0) hx hb d_M_xOf_10 (by decide) ?_
    refine lv_lload_n hx hb d_M_xOf_11 rfl (lv_at hl 2 rfl) ?_
    refine lv_lsub hx hb d_M_xOf_12 ?_
    refine lv_goto (tgt := 17) hx hb d_M_xOf_13 (by decide) ?_
    exact hK17 _ w H locs ls h hI (lv_sub hl [0, 1, 3] rfl)

abbrev b_M_yOf : ByteArray := prog_9_method_27_code
def y_M_yOf : MethodName := ⟨"BodySolidsModel", "yOf", "(IJJ)J"⟩
theorem d_M_yOf_0 : decode b_M_yOf 0 = .ok (.aload_n 0, 1) := by decide +kernel
theorem d_M_yOf_1 : decode b_M_yOf 1 = .ok (.getfield 47, 3) := by decide +kernel
theorem d_M_yOf_4 : decode b_M_yOf 4 = .ok (.iload_n 1, 1) := by decide +kernel
theorem d_M_yOf_5 : decode b_M_yOf 5 = .ok (.iaload, 1) := by decide +kernel
theorem d_M_yOf_6 : decode b_M_yOf 6 = .ok (.iconst 1, 1) := by decide +kernel
theorem d_M_yOf_7 : decode b_M_yOf 7 = .ok (.if_icmp .ne 9, 3) := by decide +kernel
theorem d_M_yOf_10 : decode b_M_yOf 10 = .ok (.lconst 0, 1) := by decide +kernel
theorem d_M_yOf_11 : decode b_M_yOf 11 = .ok (.lload_n 2, 1) := by decide +kernel
theorem d_M_yOf_12 : decode b_M_yOf 12 = .ok (.lsub, 1) := by decide +kernel
theorem d_M_yOf_13 : decode b_M_yOf 13 = .ok (.goto 4, 3) := by decide +kernel
theorem d_M_yOf_16 : decode b_M_yOf 16 = .ok (.lload_n 2, 1) := by decide +kernel
theorem d_M_yOf_17 : decode b_M_yOf 17 = .ok (.lstore 6, 2) := by decide +kernel
theorem d_M_yOf_19 : decode b_M_yOf 19 = .ok (.aload_n 0, 1) := by decide +kernel
theorem d_M_yOf_20 : decode b_M_yOf 20 = .ok (.getfield 44, 3) := by decide +kernel
theorem d_M_yOf_23 : decode b_M_yOf 23 = .ok (.iload_n 1, 1) := by decide +kernel
theorem d_M_yOf_24 : decode b_M_yOf 24 = .ok (.iaload, 1) := by decide +kernel
theorem d_M_yOf_25 : decode b_M_yOf 25 = .ok (.tableswitch 57 0 2 #[27, 37, 47], 27) := by decide +kernel
theorem d_M_yOf_52 : decode b_M_yOf 52 = .ok (.aload_n 0, 1) := by decide +kernel
theorem d_M_yOf_53 : decode b_M_yOf 53 = .ok (.getfield 41, 3) := by decide +kernel
theorem d_M_yOf_56 : decode b_M_yOf 56 = .ok (.iload_n 1, 1) := by decide +kernel
theorem d_M_yOf_57 : decode b_M_yOf 57 = .ok (.laload, 1) := by decide +kernel
theorem d_M_yOf_58 : decode b_M_yOf 58 = .ok (.lload 4, 2) := by decide +kernel
theorem d_M_yOf_60 : decode b_M_yOf 60 = .ok (.ladd, 1) := by decide +kernel
theorem d_M_yOf_61 : decode b_M_yOf 61 = .ok (.lreturn, 1) := by decide +kernel
theorem d_M_yOf_62 : decode b_M_yOf 62 = .ok (.aload_n 0, 1) := by decide +kernel
theorem d_M_yOf_63 : decode b_M_yOf 63 = .ok (.getfield 41, 3) := by decide +kernel
theorem d_M_yOf_66 : decode b_M_yOf 66 = .ok (.iload_n 1, 1) := by decide +kernel
theorem d_M_yOf_67 : decode b_M_yOf 67 = .ok (.laload, 1) := by decide +kernel
theorem d_M_yOf_68 : decode b_M_yOf 68 = .ok (.lload 6, 2) := by decide +kernel
theorem d_M_yOf_70 : decode b_M_yOf 70 = .ok (.ladd, 1) := by decide +kernel
theorem d_M_yOf_71 : decode b_M_yOf 71 = .ok (.lreturn, 1) := by decide +kernel
theorem d_M_yOf_72 : decode b_M_yOf 72 = .ok (.aload_n 0, 1) := by decide +kernel
theorem d_M_yOf_73 : decode b_M_yOf 73 = .ok (.getfield 41, 3) := by decide +kernel
theorem d_M_yOf_76 : decode b_M_yOf 76 = .ok (.iload_n 1, 1) := by decide +kernel
theorem d_M_yOf_77 : decode b_M_yOf 77 = .ok (.laload, 1) := by decide +kernel
theorem d_M_yOf_78 : decode b_M_yOf 78 = .ok (.lload 4, 2) := by decide +kernel
theorem d_M_yOf_80 : decode b_M_yOf 80 = .ok (.lsub, 1) := by decide +kernel
theorem d_M_yOf_81 : decode b_M_yOf 81 = .ok (.lreturn, 1) := by decide +kernel
theorem d_M_yOf_82 : decode b_M_yOf 82 = .ok (.aload_n 0, 1) := by decide +kernel
theorem d_M_yOf_83 : decode b_M_yOf 83 = .ok (.getfield 41, 3) := by decide +kernel
theorem d_M_yOf_86 : decode b_M_yOf 86 = .ok (.iload_n 1, 1) := by decide +kernel
theorem d_M_yOf_87 : decode b_M_yOf 87 = .ok (.laload, 1) := by decide +kernel
theorem d_M_yOf_88 : decode b_M_yOf 88 = .ok (.lload 6, 2) := by decide +kernel
theorem d_M_yOf_90 : decode b_M_yOf 90 = .ok (.lsub, 1) := by decide +kernel
theorem d_M_yOf_91 : decode b_M_yOf 91 = .ok (.lreturn, 1) := by decide +kernel
abbrev rm_M_yOf : Room := { frames := 0, cells := 0, slots := 0, locals := 0 }
theorem ce_M_yOf : gCe y_M_yOf (.code y_M_yOf b_M_yOf 8 (some .long)) 8 3 false := gCe.code wd_986 wd_57 wd_985 (by decide) (by decide +kernel)
def f_M_yOf (g0 : gG) (a0 : Nat) (p1 : Int32) (p2 : Int64) (p3 : Int64) (w : gW) : gX Int64 := (gfA w a0 7 17).bind fun v1 => (gaI w v1 p1).bind fun v3 => gjoin (fun K17 => if v3 = 1 then (K17 (0 - p2) w) else (K17 p2 w)) (fun (y5 : Int64) (w : gW) => (gfA w a0 7 16).bind fun v6 => (gaI w v6 p1).bind fun v8 => if v8 = 0 then ((gfA w a0 7 15).bind fun v11 => (gaJ w v11 p1).bind fun v13 => some (.inr (v13 + p3), w)) else (if v8 = 1 then ((gfA w a0 7 15).bind fun v16 => (gaJ w v16 p1).bind fun v18 => some (.inr (v18 + y5), w)) else (if v8 = 2 then ((gfA w a0 7 15).bind fun v21 => (gaJ w v21 p1).bind fun v23 => some (.inr (v23 - p3), w)) else ((gfA w a0 7 15).bind fun v25 => (gaJ w v25 p1).bind fun v27 => some (.inr (v27 - y5), w)))))
set_option maxHeartbeats 4000000 in
set_option maxRecDepth 100000 in
theorem m_M_yOf (l : Launch) (hst : l.stackTraces = false) (D : gD) (g0 : gG) (a0 : Nat) (p1 : Int32) (p2 : Int64) (p3 : Int64) (w : gW) (r : (String ⊕ Int64) × gW) (h : f_M_yOf g0 a0 p1 p2 p3 w = some r) : gMet l y_M_yOf (.code y_M_yOf b_M_yOf 8 (some .long)) rm_M_yOf D g0 [.ref a0, .int p1, .long p2, .long p3] w (goJ r) := by
  refine gw_ofJ (by decide +kernel) (Nat.le_of_ble_eq_true rfl) ?_
  intro p e s m below meth c ls args A Q hx hb hml hown hlocks hin hnt hT hK hZ hA hret hexc hthr hI hl
  obtain ⟨H, hH⟩ : ∃ H, H = s.heap := ⟨_, rfl⟩
  rw [← hH] at hI ⊢
  obtain ⟨locs, hlocs⟩ : ∃ z : List Loc, z = [] := ⟨_, rfl⟩
  rw [← hlocs] at hI ⊢
  have hl : lv_has ls 8 [(0, .ref a0), (1, .int p1), (2, .long p2), (4, .long p3)] := hl
  unfold f_M_yOf at h
  refine lv_aload_n hx hb d_M_yOf_0 rfl (lv_at hl 0 rfl) ?_
  obtain ⟨v1, e2, h⟩ := gb h
  refine gw_getA hx hb hT hown hK hI (ci := 7) rfl i_7 17 (by decide) wd_803 (fun _ h9 => h9) e2 d_M_yOf_1 ?_
  refine lv_iload_n hx hb d_M_yOf_4 rfl (lv_at hl 1 rfl) ?_
  obtain ⟨v3, e4, h⟩ := gb h
  refine gw_aldI hx hb hK hI e4 d_M_yOf_5 ?_
  refine lv_iconst (v := 1) hx hb d_M_yOf_6 (by decide) ?_
  obtain ⟨K17, eK17, h⟩ := gj h
  have hK17 : ∀ (y5 : Int64) (w : gW) (H : Heap) (locs : List Loc) (ls : Array Slot), K17 y5 w = some r → gI D s A w H locs → lv_has ls 8 [(0, .ref a0), (1, .int p1), (4, .long p3)] → W p l e rm_M_yOf s m args below meth c H locs 0 0 Q (F0 m 17 ls [.long y5]) := by
    intro y5 w H locs ls h hI hl
    have h := gk2 eK17 h
    refine lv_lstore (lv' := [(6, .long y5), (0, .ref a0), (1, .int p1), (4, .long p3)]) hx hb d_M_yOf_17 hl (by decide) rfl (fun ls hl => ?_)
    refine lv_aload_n hx hb d_M_yOf_19 rfl (lv_at hl 1 rfl) ?_
    obtain ⟨v6, e7, h⟩ := gb h
    refine gw_getA hx hb hT hown hK hI (ci := 7) rfl i_7 16 (by decide) wd_802 (fun _ h9 => h9) e7 d_M_yOf_20 ?_
    refine lv_iload_n hx hb d_M_yOf_23 rfl (lv_at hl 2 rfl) ?_
    obtain ⟨v8, e9, h⟩ := gb h
    refine gw_aldI hx hb hK hI e9 d_M_yOf_24 ?_
    rcases Decidable.em (v8 = 0) with c10 | c10
    · have h := git c10 h
      refine lv_tableIn (off := 27) (tgt := 52) hx hb d_M_yOf_25 (by rw [c10]; decide) (by rw [c10]; decide) (by rw [c10]; decide) (by decide) ?_
      refine lv_aload_n hx hb d_M_yOf_52 rfl (lv_at hl 1 rfl) ?_
      obtain ⟨v11, e12, h⟩ := gb h
      refine gw_getA hx hb hT hown hK hI (ci := 7) rfl i_7 15 (by decide) wd_801 (fun _ h9 => h9) e12 d_M_yOf_53 ?_
      refine lv_iload_n hx hb d_M_yOf_56 rfl (lv_at hl 2 rfl) ?_
      obtain ⟨v13, e14, h⟩ := gb h
      refine gw_aldJ hx hb hK hI e14 d_M_yOf_57 ?_
      refine lv_lload hx hb d_M_yOf_58 (lv_at hl 3 rfl) ?_
      refine lv_ladd hx hb d_M_yOf_60 ?_
      exact W.widen (show 0 ≤ 0 by omega) (show 0 ≤ 0 by omega) (hret _ _ (Option.some.inj h).symm _ _ _ _ d_M_yOf_61 hI)
    have h := gie c10 h
    rcases Decidable.em (v8 = 1) with c15 | c15
    · have h := git c15 h
      refine lv_tableIn (off := 37) (tgt := 62) hx hb d_M_yOf_25 (by rw [c15]; decide) (by rw [c15]; decide) (by rw [c15]; decide) (by decide) ?_
      refine lv_aload_n hx hb d_M_yOf_62 rfl (lv_at hl 1 rfl) ?_
      obtain ⟨v16, e17, h⟩ := gb h
      refine gw_getA hx hb hT hown hK hI (ci := 7) rfl i_7 15 (by decide) wd_801 (fun _ h9 => h9) e17 d_M_yOf_63 ?_
      refine lv_iload_n hx hb d_M_yOf_66 rfl (lv_at hl 2 rfl) ?_
      obtain ⟨v18, e19, h⟩ := gb h
      refine gw_aldJ hx hb hK hI e19 d_M_yOf_67 ?_
      refine lv_lload hx hb d_M_yOf_68 (lv_at hl 0 rfl) ?_
      refine lv_ladd hx hb d_M_yOf_70 ?_
      exact W.widen (show 0 ≤ 0 by omega) (show 0 ≤ 0 by omega) (hret _ _ (Option.some.inj h).symm _ _ _ _ d_M_yOf_71 hI)
    have h := gie c15 h
    rcases Decidable.em (v8 = 2) with c20 | c20
    · have h := git c20 h
      refine lv_tableIn (off := 47) (tgt := 72) hx hb d_M_yOf_25 (by rw [c20]; decide) (by rw [c20]; decide) (by rw [c20]; decide) (by decide) ?_
      refine lv_aload_n hx hb d_M_yOf_72 rfl (lv_at hl 1 rfl) ?_
      obtain ⟨v21, e22, h⟩ := gb h
      refine gw_getA hx hb hT hown hK hI (ci := 7) rfl i_7 15 (by decide) wd_801 (fun _ h9 => h9) e22 d_M_yOf_73 ?_
      refine lv_iload_n hx hb d_M_yOf_76 rfl (lv_at hl 2 rfl) ?_
      obtain ⟨v23, e24, h⟩ := gb h
      refine gw_aldJ hx hb hK hI e24 d_M_yOf_77 ?_
      refine lv_lload hx hb d_M_yOf_78 (lv_at hl 3 rfl) ?_
      refine lv_lsub hx hb d_M_yOf_80 ?_
      exact W.widen (show 0 ≤ 0 by omega) (show 0 ≤ 0 by omega) (hret _ _ (Option.some.inj h).symm _ _ _ _ d_M_yOf_81 hI)
    have h := gie c20 h
    refine lv_tableOut (tgt := 82) hx hb d_M_yOf_25 (by have q0 := lv_neT c10 (show (0 : Int32).toInt = 0 by decide); have q1 := lv_neT c15 (show (1 : Int32).toInt = 1 by decide); have q2 := lv_neT c20 (show (2 : Int32).toInt = 2 by decide); omega) (by decide) ?_
    refine lv_aload_n hx hb d_M_yOf_82 rfl (lv_at hl 1 rfl) ?_
    obtain ⟨v25, e26, h⟩ := gb h
    refine gw_getA hx hb hT hown hK hI (ci := 7) rfl i_7 15 (by decide) wd_801 (fun _ h9 => h9) e26 d_M_yOf_83 ?_
    refine lv_iload_n hx hb d_M_yOf_86 rfl (lv_at hl 2 rfl) ?_
    obtain ⟨v27, e28, h⟩ := gb h
    refine gw_aldJ hx hb hK hI e28 d_M_yOf_87 ?_
    refine lv_lload hx hb d_M_yOf_88 (lv_at hl 0 rfl) ?_
    refine lv_lsub hx hb d_M_yOf_90 ?_
    exact W.widen (show 0 ≤ 0 by omega) (show 0 ≤ 0 by omega) (hret _ _ (Option.some.inj h).symm _ _ _ _ d_M_yOf_91 hI)
  refine lv_icmp_ne (tgt := 16) hx hb d_M_yOf_7 (by decide) (fun c29 => ?_) (fun c29 => ?_)
  · skip
    have h := gie c29 h
    refine lv_lload_n hx hb d_M_yOf_16 rfl (lv_at hl 2 rfl) ?_
    exact hK17 _ w H locs ls h hI (lv_sub hl [0, 1, 3] rfl)
  · skip
    have h := git c29 h
    refine lv_lconst (v := 0) hx hb d_M_yOf_10 (by decide) ?_
    refine lv_lload_n hx hb d_M_yOf_11 rfl (lv_at hl 2 rfl) ?_
    refine lv_lsub hx hb d_M_yOf_12 ?_
    refine lv_goto (tgt := 17) hx hb d_M_yOf_13 (by decide) ?_
    exact hK17 _ w H locs ls h hI (lv_sub hl [0, 1, 3] rfl)

abbrev b_M_point : ByteArray := prog_9_method_30_code
def y_M_point : MethodName := ⟨"BodySolidsModel", "point", "(IIJJ)V"⟩
theorem d_M_point_0 : decode b_M_point 0 = .ok (.aload_n 0, 1) := by decide +kernel
theorem d_M_point_1 : decode b_M_point 1 = .ok (.getfield 59, 3) := by decide +kernel
theorem d_M_point_4 : decode b_M_point 4 = .ok (.bipush 8, 2) := by decide +kernel
theorem d_M_point_6 : decode b_M_point 6 = .ok (.iload_n 1, 1) := by decide +kernel
theorem d_M_point_7 : decode b_M_point 7 = .ok (.imul, 1) := by decide +kernel
theorem d_M_point_8 : decode b_M_point 8 = .ok (.iload_n 2, 1) := by decide +kernel
theorem d_M_point_9 : decode b_M_point 9 = .ok (.iadd, 1) := by decide +kernel
theorem d_M_point_10 : decode b_M_point 10 = .ok (.lload_n 3, 1) := by decide +kernel
theorem d_M_point_11 : decode b_M_point 11 = .ok (.lastore, 1) := by decide +kernel
theorem d_M_point_12 : decode b_M_point 12 = .ok (.aload_n 0, 1) := by decide +kernel
theorem d_M_point_13 : decode b_M_point 13 = .ok (.getfield 62, 3) := by decide +kernel
theorem d_M_point_16 : decode b_M_point 16 = .ok (.bipush 8, 2) := by decide +kernel
theorem d_M_point_18 : decode b_M_point 18 = .ok (.iload_n 1, 1) := by decide +kernel
theorem d_M_point_19 : decode b_M_point 19 = .ok (.imul, 1) := by decide +kernel
theorem d_M_point_20 : decode b_M_point 20 = .ok (.iload_n 2, 1) := by decide +kernel
theorem d_M_point_21 : decode b_M_point 21 = .ok (.iadd, 1) := by decide +kernel
theorem d_M_point_22 : decode b_M_point 22 = .ok (.lload 5, 2) := by decide +kernel
theorem d_M_point_24 : decode b_M_point 24 = .ok (.lastore, 1) := by decide +kernel
theorem d_M_point_25 : decode b_M_point 25 = .ok (.return_, 1) := by decide +kernel
abbrev rm_M_point : Room := { frames := 0, cells := 0, slots := 0, locals := 0 }
theorem ce_M_point : gCe y_M_point (.code y_M_point b_M_point 7 none) 7 4 false := gCe.code wd_990 wd_57 wd_989 (by decide) (by decide +kernel)
def f_M_point (g0 : gG) (a0 : Nat) (p1 : Int32) (p2 : Int32) (p3 : Int64) (p4 : Int64) (w : gW) : gX Unit := (gfA w a0 7 22).bind fun v1 => (gsJ w v1 ((8 * p1) + p2) p3).bind fun w => (gfA w a0 7 23).bind fun v4 => (gsJ w v4 ((8 * p1) + p2) p4).bind fun w => some (.inr (), w)
set_option maxHeartbeats 4000000 in
set_option maxRecDepth 100000 in
theorem m_M_point (l : Launch) (hst : l.stackTraces = false) (D : gD) (g0 : gG) (a0 : Nat) (p1 : Int32) (p2 : Int32) (p3 : Int64) (p4 : Int64) (w : gW) (r : (String ⊕ Unit) × gW) (h : f_M_point g0 a0 p1 p2 p3 p4 w = some r) : gMet l y_M_point (.code y_M_point b_M_point 7 none) rm_M_point D g0 [.ref a0, .int p1, .int p2, .long p3, .long p4] w (goV r) := by
  refine gw_ofV (by decide +kernel) (Nat.le_of_ble_eq_true rfl) ?_
  intro p e s m below meth c ls args A Q hx hb hml hown hlocks hin hnt hT hK hZ hA hret hexc hthr hI hl
  obtain ⟨H, hH⟩ : ∃ H, H = s.heap := ⟨_, rfl⟩
  rw [← hH] at hI ⊢
  obtain ⟨locs, hlocs⟩ : ∃ z : List Loc, z = [] := ⟨_, rfl⟩
  rw [← hlocs] at hI ⊢
  have hl : lv_has ls 7 [(0, .ref a0), (1, .int p1), (2, .int p2), (3, .long p3), (5, .long p4)] := hl
  unfold f_M_point at h
  refine lv_aload_n hx hb d_M_point_0 rfl (lv_at hl 0 rfl) ?_
  obtain ⟨v1, e2, h⟩ := gb h
  refine gw_getA hx hb hT hown hK hI (ci := 7) rfl i_7 22 (by decide) wd_808 (fun _ h9 => h9) e2 d_M_point_1 ?_
  refine lv_bipush (v := 8) hx hb d_M_point_4 (by decide) ?_
  refine lv_iload_n hx hb d_M_point_6 rfl (lv_at hl 1 rfl) ?_
  refine lv_imul hx hb d_M_point_7 ?_
  refine lv_iload_n hx hb d_M_point_8 rfl (lv_at hl 2 rfl) ?_
  refine lv_iadd hx hb d_M_point_9 ?_
  refine lv_lload_n hx hb d_M_point_10 rfl (lv_at hl 3 rfl) ?_
  obtain ⟨w, e3, h⟩ := gb h
  refine gw_astJ hx hb hK hI e3 d_M_point_11 (fun H locs hI => ?_)
  refine lv_aload_n hx hb d_M_point_12 rfl (lv_at hl 0 rfl) ?_
  obtain ⟨v4, e5, h⟩ := gb h
  refine gw_getA hx hb hT hown hK hI (ci := 7) rfl i_7 23 (by decide) wd_809 (fun _ h9 => h9) e5 d_M_point_13 ?_
  refine lv_bipush (v := 8) hx hb d_M_point_16 (by decide) ?_
  refine lv_iload_n hx hb d_M_point_18 rfl (lv_at hl 1 rfl) ?_
  refine lv_imul hx hb d_M_point_19 ?_
  refine lv_iload_n hx hb d_M_point_20 rfl (lv_at hl 2 rfl) ?_
  refine lv_iadd hx hb d_M_point_21 ?_
  refine lv_lload hx hb d_M_point_22 (lv_at hl 4 rfl) ?_
  obtain ⟨w, e6, h⟩ := gb h
  refine gw_astJ hx hb hK hI e6 d_M_point_24 (fun H locs hI => ?_)
  exact W.widen (show 0 ≤ 0 by omega) (show 0 ≤ 0 by omega) (hret _ _ (Option.some.inj h).symm _ _ _ _ d_M_point_25 hI)

abbrev b_M_spot : ByteArray := prog_9_method_31_code
def y_M_spot : MethodName := ⟨"BodySolidsModel", "spot", "(IIIJJ)V"⟩
theorem d_M_spot_0 : decode b_M_spot 0 = .ok (.aload_n 0, 1) := by decide +kernel
theorem d_M_spot_1 : decode b_M_spot 1 = .ok (.iload_n 1, 1) := by decide +kernel
theorem d_M_spot_2 : decode b_M_spot 2 = .ok (.iload_n 2, 1) := by decide +kernel
theorem d_M_spot_3 : decode b_M_spot 3 = .ok (.aload_n 0, 1) := by decide +kernel
theorem d_M_spot_4 : decode b_M_spot 4 = .ok (.iload_n 3, 1) := by decide +kernel
theorem d_M_spot_5 : decode b_M_spot 5 = .ok (.lload 4, 2) := by decide +kernel
theorem d_M_spot_7 : decode b_M_spot 7 = .ok (.lload 6, 2) := by decide +kernel
theorem d_M_spot_9 : decode b_M_spot 9 = .ok (.invokevirtual 153, 3) := by decide +kernel
theorem d_M_spot_12 : decode b_M_spot 12 = .ok (.aload_n 0, 1) := by decide +kernel
theorem d_M_spot_13 : decode b_M_spot 13 = .ok (.iload_n 3, 1) := by decide +kernel
theorem d_M_spot_14 : decode b_M_spot 14 = .ok (.lload 4, 2) := by decide +kernel
theorem d_M_spot_16 : decode b_M_spot 16 = .ok (.lload 6, 2) := by decide +kernel
theorem d_M_spot_18 : decode b_M_spot 18 = .ok (.invokevirtual 157, 3) := by decide +kernel
theorem d_M_spot_21 : decode b_M_spot 21 = .ok (.invokevirtual 160, 3) := by decide +kernel
theorem d_M_spot_24 : decode b_M_spot 24 = .ok (.return_, 1) := by decide +kernel
abbrev rm_M_spot : Room := { frames := 1, cells := 0, slots := 0, locals := 27 }
theorem ce_M_spot : gCe y_M_spot (.code y_M_spot b_M_spot 8 none) 8 5 false := gCe.code wd_978 wd_57 wd_977 (by decide) (by decide +kernel)
def f_M_spot (g0 : gG) (a0 : Nat) (p1 : Int32) (p2 : Int32) (p3 : Int32) (p4 : Int64) (p5 : Int64) (w : gW) : gX Unit := (gck w a0 7).bind fun _ => gbind (f_M_xOf g0 a0 p3 p4 p5 w) fun v5 w => (gck w a0 7).bind fun _ => gbind (f_M_yOf g0 a0 p3 p4 p5 w) fun v10 w => (gck w a0 7).bind fun _ => gbind (f_M_point g0 a0 p1 p2 v5 v10 w) fun v15 w => some (.inr (), w)
set_option maxHeartbeats 4000000 in
set_option maxRecDepth 100000 in
theorem m_M_spot (l : Launch) (hst : l.stackTraces = false) (D : gD) (g0 : gG) (a0 : Nat) (p1 : Int32) (p2 : Int32) (p3 : Int32) (p4 : Int64) (p5 : Int64) (w : gW) (r : (String ⊕ Unit) × gW) (h : f_M_spot g0 a0 p1 p2 p3 p4 p5 w = some r) : gMet l y_M_spot (.code y_M_spot b_M_spot 8 none) rm_M_spot D g0 [.ref a0, .int p1, .int p2, .int p3, .long p4, .long p5] w (goV r) := by
  refine gw_ofV (by decide +kernel) (Nat.le_of_ble_eq_true rfl) ?_
  intro p e s m below meth c ls args A Q hx hb hml hown hlocks hin hnt hT hK hZ hA hret hexc hthr hI hl
  obtain ⟨H, hH⟩ : ∃ H, H = s.heap := ⟨_, rfl⟩
  rw [← hH] at hI ⊢
  obtain ⟨locs, hlocs⟩ : ∃ z : List Loc, z = [] := ⟨_, rfl⟩
  rw [← hlocs] at hI ⊢
  have hl : lv_has ls 8 [(0, .ref a0), (1, .int p1), (2, .int p2), (3, .int p3), (4, .long p4), (6, .long p5)] := hl
  unfold f_M_spot at h
  refine lv_aload_n hx hb d_M_spot_0 rfl (lv_at hl 0 rfl) ?_
  refine lv_iload_n hx hb d_M_spot_1 rfl (lv_at hl 1 rfl) ?_
  refine lv_iload_n hx hb d_M_spot_2 rfl (lv_at hl 2 rfl) ?_
  refine lv_aload_n hx hb d_M_spot_3 rfl (lv_at hl 0 rfl) ?_
  refine lv_iload_n hx hb d_M_spot_4 rfl (lv_at hl 3 rfl) ?_
  refine lv_lload hx hb d_M_spot_5 (lv_at hl 4 rfl) ?_
  refine lv_lload hx hb d_M_spot_7 (lv_at hl 5 rfl) ?_
  obtain ⟨q3, e4, h⟩ := gb h
  obtain ⟨u1, e2⟩ := gsome h
  refine gw_callJ e2 h (gw_runV (As := [.int p3, .long p4, .long p5]) (rest := [.int p2, .int p1, .ref a0]) hx hb hml hown hT hK hZ hA hI (ci := 7) rfl e4 (m_M_xOf l hst D g0 a0 p3 p4 p5 w u1 e2) ce_M_xOf wd_979 wd_28 ⟨by decide, by decide⟩ rfl rfl hl.1 rfl (lv_room (Nat.le_of_ble_eq_true rfl)) d_M_spot_9 ⟨(show 0 + 0 ≤ 0 by omega), (show 0 + 0 ≤ 0 by omega)⟩) hI hA hexc (show 0 + 0 ≤ 0 by omega) (show 0 + 0 ≤ 0 by omega) (fun v5 w H locs h hI => ?_)
  refine lv_aload_n hx hb d_M_spot_12 rfl (lv_at hl 0 rfl) ?_
  refine lv_iload_n hx hb d_M_spot_13 rfl (lv_at hl 3 rfl) ?_
  refine lv_lload hx hb d_M_spot_14 (lv_at hl 4 rfl) ?_
  refine lv_lload hx hb d_M_spot_16 (lv_at hl 5 rfl) ?_
  obtain ⟨q8, e9, h⟩ := gb h
  obtain ⟨u6, e7⟩ := gsome h
  refine gw_callJ e7 h (gw_runV (As := [.int p3, .long p4, .long p5]) (rest := [.long v5, .int p2, .int p1, .ref a0]) hx hb hml hown hT hK hZ hA hI (ci := 7) rfl e9 (m_M_yOf l hst D g0 a0 p3 p4 p5 w u6 e7) ce_M_yOf wd_983 wd_29 ⟨by decide, by decide⟩ rfl rfl hl.1 rfl (lv_room (Nat.le_of_ble_eq_true rfl)) d_M_spot_18 ⟨(show 0 + 0 ≤ 0 by omega), (show 0 + 0 ≤ 0 by omega)⟩) hI hA hexc (show 0 + 0 ≤ 0 by omega) (show 0 + 0 ≤ 0 by omega) (fun v10 w H locs h hI => ?_)
  obtain ⟨q13, e14, h⟩ := gb h
  obtain ⟨u11, e12⟩ := gsome h
  refine gw_callV e12 h (gw_runV (As := [.int p1, .int p2, .long v5, .long v10]) (rest := []) hx hb hml hown hT hK hZ hA hI (ci := 7) rfl e14 (m_M_point l hst D g0 a0 p1 p2 v5 v10 w u11 e12) ce_M_point wd_987 wd_30 ⟨by decide, by decide⟩ rfl rfl hl.1 rfl (lv_room (Nat.le_of_ble_eq_true rfl)) d_M_spot_21 ⟨(show 0 + 0 ≤ 0 by omega), (show 0 + 0 ≤ 0 by omega)⟩) hI hA hexc (show 0 + 0 ≤ 0 by omega) (show 0 + 0 ≤ 0 by omega) (fun v15 w H locs h hI => ?_)
  exact W.widen (show 0 ≤ 0 by omega) (show 0 ≤ 0 by omega) (hret _ _ (Option.some.inj h).symm _ _ _ _ d_M_spot_24 hI)

abbrev b_M_zOf : ByteArray := prog_9_method_28_code
def y_M_zOf : MethodName := ⟨"BodySolidsModel", "zOf", "(IJ)J"⟩
theorem d_M_zOf_0 : decode b_M_zOf 0 = .ok (.aload_n 0, 1) := by decide +kernel
theorem d_M_zOf_1 : decode b_M_zOf 1 = .ok (.getfield 47, 3) := by decide +kernel
theorem d_M_zOf_4 : decode b_M_zOf 4 = .ok (.iload_n 1, 1) := by decide +kernel
theorem d_M_zOf_5 : decode b_M_zOf 5 = .ok (.iaload, 1) := by decide +kernel
theorem d_M_zOf_6 : decode b_M_zOf 6 = .ok (.iconst 1, 1) := by decide +kernel
theorem d_M_zOf_7 : decode b_M_zOf 7 = .ok (.if_icmp .ne 14, 3) := by decide +kernel
theorem d_M_zOf_10 : decode b_M_zOf 10 = .ok (.lconst 0, 1) := by decide +kernel
theorem d_M_zOf_11 : decode b_M_zOf 11 = .ok (.aload_n 0, 1) := by decide +kernel
theorem d_M_zOf_12 : decode b_M_zOf 12 = .ok (.getfield 76, 3) := by decide +kernel
theorem d_M_zOf_15 : decode b_M_zOf 15 = .ok (.lsub, 1) := by decide +kernel
theorem d_M_zOf_16 : decode b_M_zOf 16 = .ok (.lload_n 2, 1) := by decide +kernel
theorem d_M_zOf_17 : decode b_M_zOf 17 = .ok (.lsub, 1) := by decide +kernel
theorem d_M_zOf_18 : decode b_M_zOf 18 = .ok (.goto 4, 3) := by decide +kernel
theorem d_M_zOf_21 : decode b_M_zOf 21 = .ok (.lload_n 2, 1) := by decide +kernel
theorem d_M_zOf_22 : decode b_M_zOf 22 = .ok (.lreturn, 1) := by decide +kernel
abbrev rm_M_zOf : Room := { frames := 0, cells := 0, slots := 0, locals := 0 }
theorem ce_M_zOf : gCe y_M_zOf (.code y_M_zOf b_M_zOf 4 (some .long)) 4 2 false := gCe.code wd_994 wd_57 wd_993 (by decide) (by decide +kernel)
def f_M_zOf (g0 : gG) (a0 : Nat) (p1 : Int32) (p2 : Int64) (w : gW) : gX Int64 := (gfA w a0 7 17).bind fun v1 => (gaI w v1 p1).bind fun v3 => gjoin (fun K22 => if v3 = 1 then ((gfJ w a0 7 1).bind fun v7 => K22 ((0 - v7) - p2) w) else (K22 p2 w)) (fun (y5 : Int64) (w : gW) => some (.inr y5, w))
set_option maxHeartbeats 4000000 in
set_option maxRecDepth 100000 in
theorem m_M_zOf (l : Launch) (hst : l.stackTraces = false) (D : gD) (g0 : gG) (a0 : Nat) (p1 : Int32) (p2 : Int64) (w : gW) (r : (String ⊕ Int64) × gW) (h : f_M_zOf g0 a0 p1 p2 w = some r) : gMet l y_M_zOf (.code y_M_zOf b_M_zOf 4 (some .long)) rm_M_zOf D g0 [.ref a0, .int p1, .long p2] w (goJ r) := by
  refine gw_ofJ (by decide +kernel) (Nat.le_of_ble_eq_true rfl) ?_
  intro p e s m below meth c ls args A Q hx hb hml hown hlocks hin hnt hT hK hZ hA hret hexc hthr hI hl
  obtain ⟨H, hH⟩ : ∃ H, H = s.heap := ⟨_, rfl⟩
  rw [← hH] at hI ⊢
  obtain ⟨locs, hlocs⟩ : ∃ z : List Loc, z = [] := ⟨_, rfl⟩
  rw [← hlocs] at hI ⊢
  have hl : lv_has ls 4 [(0, .ref a0), (1, .int p1), (2, .long p2)] := hl
  unfold f_M_zOf at h
  refine lv_aload_n hx hb d_M_zOf_0 rfl (lv_at hl 0 rfl) ?_
  obtain ⟨v1, e2, h⟩ := gb h
  refine gw_getA hx hb hT hown hK hI (ci := 7) rfl i_7 17 (by decide) wd_803 (fun _ h9 => h9) e2 d_M_zOf_1 ?_
  refine lv_iload_n hx hb d_M_zOf_4 rfl (lv_at hl 1 rfl) ?_
  obtain ⟨v3, e4, h⟩ := gb h
  refine gw_aldI hx hb hK hI e4 d_M_zOf_5 ?_
  refine lv_iconst (v := 1) hx hb d_M_zOf_6 (by decide) ?_
  obtain ⟨K22, eK22, h⟩ := gj h
  have hK22 : ∀ (y5 : Int64) (w : gW) (H : Heap) (locs : List Loc) (ls : Array Slot), K22 y5 w = some r → gI D s A w H locs → lv_has ls 4 [] → W p l e rm_M_zOf s m args below meth c H locs 0 0 Q (F0 m 22 ls [.long y5]) := by
    intro y5 w H locs ls h hI hl
    have h := gk2 eK22 h
    exact W.widen (show 0 ≤ 0 by omega) (show 0 ≤ 0 by omega) (hret _ _ (Option.some.inj h).symm _ _ _ _ d_M_zOf_22 hI)
  refine lv_icmp_ne (tgt := 21) hx hb d_M_zOf_7 (by decide) (fun c6 => ?_) (fun c6 => ?_)
  · skip
    have h := gie c6 h
    refine lv_lload_n hx hb d_M_zOf_21 rfl (lv_at hl 2 rfl) ?_
    exact hK22 _ w H locs ls h hI (lv_sub hl [] rfl)
  · skip
    have h := git c6 h
    refine lv_lconst (v := 0) hx hb d_M_zOf_10 (by decide) ?_
    refine lv_aload_n hx hb d_M_zOf_11 rfl (lv_at hl 0 rfl) ?_
    obtain ⟨v7, e8, h⟩ := gb h
    refine gw_getJ hx hb hT hown hK hI (ci := 7) rfl i_7 1 (by decide) wd_787 (fun _ h9 => h9) e8 d_M_zOf_12 ?_
    refine lv_lsub hx hb d_M_zOf_15 ?_
    refine lv_lload_n hx hb d_M_zOf_16 rfl (lv_at hl 2 rfl) ?_
    refine lv_lsub hx hb d_M_zOf_17 ?_
    refine lv_goto (tgt := 22) hx hb d_M_zOf_18 (by decide) ?_
    exact hK22 _ w H locs ls h hI (lv_sub hl [] rfl)

abbrev b_M_heights : ByteArray := prog_9_method_29_code
def y_M_heights : MethodName := ⟨"BodySolidsModel", "heights", "(IJJ)V"⟩
theorem d_M_heights_0 : decode b_M_heights 0 = .ok (.aload_n 0, 1) := by decide +kernel
theorem d_M_heights_1 : decode b_M_heights 1 = .ok (.getfield 68, 3) := by decide +kernel
theorem d_M_heights_4 : decode b_M_heights 4 = .ok (.iload_n 1, 1) := by decide +kernel
theorem d_M_heights_5 : decode b_M_heights 5 = .ok (.lload_n 2, 1) := by decide +kernel
theorem d_M_heights_6 : decode b_M_heights 6 = .ok (.lload 4, 2) := by decide +kernel
theorem d_M_heights_8 : decode b_M_heights 8 = .ok (.lcmp, 1) := by decide +kernel
theorem d_M_heights_9 : decode b_M_heights 9 = .ok (.ifCond .ge 7, 3) := by decide +kernel
theorem d_M_heights_12 : decode b_M_heights 12 = .ok (.lload_n 2, 1) := by decide +kernel
theorem d_M_heights_13 : decode b_M_heights 13 = .ok (.goto 5, 3) := by decide +kernel
theorem d_M_heights_16 : decode b_M_heights 16 = .ok (.lload 4, 2) := by decide +kernel
theorem d_M_heights_18 : decode b_M_heights 18 = .ok (.lastore, 1) := by decide +kernel
theorem d_M_heights_19 : decode b_M_heights 19 = .ok (.aload_n 0, 1) := by decide +kernel
theorem d_M_heights_20 : decode b_M_heights 20 = .ok (.getfield 71, 3) := by decide +kernel
theorem d_M_heights_23 : decode b_M_heights 23 = .ok (.iload_n 1, 1) := by decide +kernel
theorem d_M_heights_24 : decode b_M_heights 24 = .ok (.lload_n 2, 1) := by decide +kernel
theorem d_M_heights_25 : decode b_M_heights 25 = .ok (.lload 4, 2) := by decide +kernel
theorem d_M_heights_27 : decode b_M_heights 27 = .ok (.lcmp, 1) := by decide +kernel
theorem d_M_heights_28 : decode b_M_heights 28 = .ok (.ifCond .ge 8, 3) := by decide +kernel
theorem d_M_heights_31 : decode b_M_heights 31 = .ok (.lload 4, 2) := by decide +kernel
theorem d_M_heights_33 : decode b_M_heights 33 = .ok (.goto 4, 3) := by decide +kernel
theorem d_M_heights_36 : decode b_M_heights 36 = .ok (.lload_n 2, 1) := by decide +kernel
theorem d_M_heights_37 : decode b_M_heights 37 = .ok (.lastore, 1) := by decide +kernel
theorem d_M_heights_38 : decode b_M_heights 38 = .ok (.return_, 1) := by decide +kernel
abbrev rm_M_heights : Room := { frames := 0, cells := 0, slots := 0, locals := 0 }
theorem ce_M_heights : gCe y_M_heights (.code y_M_heights b_M_heights 6 none) 6 3 false := gCe.code wd_999 wd_57 wd_998 (by decide) (by decide +kernel)
def f_M_heights (g0 : gG) (a0 : Nat) (p1 : Int32) (p2 : Int64) (p3 : Int64) (w : gW) : gX Unit := (gfA w a0 7 25).bind fun v1 => gjoin (fun K18 => if p3 ≤ p2 then (K18 p3 w) else (K18 p2 w)) (fun (y3 : Int64) (w : gW) => (gsJ w v1 p1 y3).bind fun w => (gfA w a0 7 26).bind fun v5 => gjoin (fun K37 => if p3 ≤ p2 then (K37 p2 w) else (K37 p3 w)) (fun (y7 : Int64) (w : gW) => (gsJ w v5 p1 y7).bind fun w => some (.inr (), w)))
set_option maxHeartbeats 4000000 in
set_option maxRecDepth 100000 in
theorem m_M_heights (l : Launch) (hst : l.stackTraces = false) (D : gD) (g0 : gG) (a0 : Nat) (p1 : Int32) (p2 : Int64) (p3 : Int64) (w : gW) (r : (String ⊕ Unit) × gW) (h : f_M_heights g0 a0 p1 p2 p3 w = some r) : gMet l y_M_heights (.code y_M_heights b_M_heights 6 none) rm_M_heights D g0 [.ref a0, .int p1, .long p2, .long p3] w (goV r) := by
  refine gw_ofV (by decide +kernel) (Nat.le_of_ble_eq_true rfl) ?_
  intro p e s m below meth c ls args A Q hx hb hml hown hlocks hin hnt hT hK hZ hA hret hexc hthr hI hl
  obtain ⟨H, hH⟩ : ∃ H, H = s.heap := ⟨_, rfl⟩
  rw [← hH] at hI ⊢
  obtain ⟨locs, hlocs⟩ : ∃ z : List Loc, z = [] := ⟨_, rfl⟩
  rw [← hlocs] at hI ⊢
  have hl : lv_has ls 6 [(0, .ref a0), (1, .int p1), (2, .long p2), (4, .long p3)] := hl
  unfold f_M_heights at h
  refine lv_aload_n hx hb d_M_heights_0 rfl (lv_at hl 0 rfl) ?_
  obtain ⟨v1, e2, h⟩ := gb h
  refine gw_getA hx hb hT hown hK hI (ci := 7) rfl i_7 25 (by decide) wd_811 (fun _ h9 => h9) e2 d_M_heights_1 ?_
  refine lv_iload_n hx hb d_M_heights_4 rfl (lv_at hl 1 rfl) ?_
  refine lv_lload_n hx hb d_M_heights_5 rfl (lv_at hl 2 rfl) ?_
  refine lv_lload hx hb d_M_heights_6 (lv_at hl 3 rfl) ?_
  refine W.lcmp hx hb d_M_heights_8 ?_
  obtain ⟨K18, eK18, h⟩ := gj h
  have hK18 : ∀ (y3 : Int64) (w : gW) (H : Heap) (locs : List Loc) (ls : Array Slot), K18 y3 w = some r → gI D s A w H locs → lv_has ls 6 [(0, .ref a0), (1, .int p1), (2, .long p2), (4, .long p3)] → W p l e rm_M_heights s m args below meth c H locs 0 0 Q (F0 m 18 ls [.long y3, .int p1, .ref v1]) := by
    intro y3 w H locs ls h hI hl
    have h := gk2 eK18 h
    obtain ⟨w, e4, h⟩ := gb h
    refine gw_astJ hx hb hK hI e4 d_M_heights_18 (fun H locs hI => ?_)
    refine lv_aload_n hx hb d_M_heights_19 rfl (lv_at hl 0 rfl) ?_
    obtain ⟨v5, e6, h⟩ := gb h
    refine gw_getA hx hb hT hown hK hI (ci := 7) rfl i_7 26 (by decide) wd_812 (fun _ h9 => h9) e6 d_M_heights_20 ?_
    refine lv_iload_n hx hb d_M_heights_23 rfl (lv_at hl 1 rfl) ?_
    refine lv_lload_n hx hb d_M_heights_24 rfl (lv_at hl 2 rfl) ?_
    refine lv_lload hx hb d_M_heights_25 (lv_at hl 3 rfl) ?_
    refine W.lcmp hx hb d_M_heights_27 ?_
    obtain ⟨K37, eK37, h⟩ := gj h
    have hK37 : ∀ (y7 : Int64) (w : gW) (H : Heap) (locs : List Loc) (ls : Array Slot), K37 y7 w = some r → gI D s A w H locs → lv_has ls 6 [] → W p l e rm_M_heights s m args below meth c H locs 0 0 Q (F0 m 37 ls [.long y7, .int p1, .ref v5]) := by
      intro y7 w H locs ls h hI hl
      have h := gk2 eK37 h
      obtain ⟨w, e8, h⟩ := gb h
      refine gw_astJ hx hb hK hI e8 d_M_heights_37 (fun H locs hI => ?_)
      exact W.widen (show 0 ≤ 0 by omega) (show 0 ≤ 0 by omega) (hret _ _ (Option.some.inj h).symm _ _ _ _ d_M_heights_38 hI)
    refine lv_if_ge (tgt := 36) hx hb d_M_heights_28 (by decide) (fun c9 => ?_) (fun c9 => ?_)
    · have c9 := (lg_cmp_ge _ _).mp c9
      have h := git c9 h
      refine lv_lload_n hx hb d_M_heights_36 rfl (lv_at hl 2 rfl) ?_
      exact hK37 _ w H locs ls h hI (lv_sub hl [] rfl)
    · have c9 := mt (lg_cmp_ge _ _).mpr c9
      have h := gie c9 h
      refine lv_lload hx hb d_M_heights_31 (lv_at hl 3 rfl) ?_
      refine lv_goto (tgt := 37) hx hb d_M_heights_33 (by decide) ?_
      exact hK37 _ w H locs ls h hI (lv_sub hl [] rfl)
  refine lv_if_ge (tgt := 16) hx hb d_M_heights_9 (by decide) (fun c10 => ?_) (fun c10 => ?_)
  · have c10 := (lg_cmp_ge _ _).mp c10
    have h := git c10 h
    refine lv_lload hx hb d_M_heights_16 (lv_at hl 3 rfl) ?_
    exact hK18 _ w H locs ls h hI (lv_sub hl [0, 1, 2, 3] rfl)
  · have c10 := mt (lg_cmp_ge _ _).mpr c10
    have h := gie c10 h
    refine lv_lload_n hx hb d_M_heights_12 rfl (lv_at hl 2 rfl) ?_
    refine lv_goto (tgt := 18) hx hb d_M_heights_13 (by decide) ?_
    exact hK18 _ w H locs ls h hI (lv_sub hl [0, 1, 2, 3] rfl)

abbrev b_M_lay : ByteArray := prog_9_method_32_code
def y_M_lay : MethodName := ⟨"BodySolidsModel", "lay", "(III)V"⟩
theorem d_M_lay_0 : decode b_M_lay 0 = .ok (.aload_n 0, 1) := by decide +kernel
theorem d_M_lay_1 : decode b_M_lay 1 = .ok (.iload_n 3, 1) := by decide +kernel
theorem d_M_lay_2 : decode b_M_lay 2 = .ok (.iconst 0, 1) := by decide +kernel
theorem d_M_lay_3 : decode b_M_lay 3 = .ok (.invokevirtual 164, 3) := by decide +kernel
theorem d_M_lay_6 : decode b_M_lay 6 = .ok (.lstore 4, 2) := by decide +kernel
theorem d_M_lay_8 : decode b_M_lay 8 = .ok (.aload_n 0, 1) := by decide +kernel
theorem d_M_lay_9 : decode b_M_lay 9 = .ok (.iload_n 3, 1) := by decide +kernel
theorem d_M_lay_10 : decode b_M_lay 10 = .ok (.iconst 1, 1) := by decide +kernel
theorem d_M_lay_11 : decode b_M_lay 11 = .ok (.invokevirtual 164, 3) := by decide +kernel
theorem d_M_lay_14 : decode b_M_lay 14 = .ok (.lstore 6, 2) := by decide +kernel
theorem d_M_lay_16 : decode b_M_lay 16 = .ok (.aload_n 0, 1) := by decide +kernel
theorem d_M_lay_17 : decode b_M_lay 17 = .ok (.iload_n 3, 1) := by decide +kernel
theorem d_M_lay_18 : decode b_M_lay 18 = .ok (.iconst 2, 1) := by decide +kernel
theorem d_M_lay_19 : decode b_M_lay 19 = .ok (.invokevirtual 164, 3) := by decide +kernel
theorem d_M_lay_22 : decode b_M_lay 22 = .ok (.lstore 8, 2) := by decide +kernel
theorem d_M_lay_24 : decode b_M_lay 24 = .ok (.aload_n 0, 1) := by decide +kernel
theorem d_M_lay_25 : decode b_M_lay 25 = .ok (.getfield 53, 3) := by decide +kernel
theorem d_M_lay_28 : decode b_M_lay 28 = .ok (.iload_n 1, 1) := by decide +kernel
theorem d_M_lay_29 : decode b_M_lay 29 = .ok (.aload_n 0, 1) := by decide +kernel
theorem d_M_lay_30 : decode b_M_lay 30 = .ok (.getfield 13, 3) := by decide +kernel
theorem d_M_lay_33 : decode b_M_lay 33 = .ok (.iload_n 3, 1) := by decide +kernel
theorem d_M_lay_34 : decode b_M_lay 34 = .ok (.iaload, 1) := by decide +kernel
theorem d_M_lay_35 : decode b_M_lay 35 = .ok (.ifCond .ne 7, 3) := by decide +kernel
theorem d_M_lay_38 : decode b_M_lay 38 = .ok (.iconst 2, 1) := by decide +kernel
theorem d_M_lay_39 : decode b_M_lay 39 = .ok (.goto 9, 3) := by decide +kernel
theorem d_M_lay_42 : decode b_M_lay 42 = .ok (.aload_n 0, 1) := by decide +kernel
theorem d_M_lay_43 : decode b_M_lay 43 = .ok (.getfield 13, 3) := by decide +kernel
theorem d_M_lay_46 : decode b_M_lay 46 = .ok (.iload_n 3, 1) := by decide +kernel
theorem d_M_lay_47 : decode b_M_lay 47 = .ok (.iaload, 1) := by decide +kernel
theorem d_M_lay_48 : decode b_M_lay 48 = .ok (.iastore, 1) := by decide +kernel
theorem d_M_lay_49 : decode b_M_lay 49 = .ok (.aload_n 0, 1) := by decide +kernel
theorem d_M_lay_50 : decode b_M_lay 50 = .ok (.getfield 65, 3) := by decide +kernel
theorem d_M_lay_53 : decode b_M_lay 53 = .ok (.iload_n 1, 1) := by decide +kernel
theorem d_M_lay_54 : decode b_M_lay 54 = .ok (.aload_n 0, 1) := by decide +kernel
theorem d_M_lay_55 : decode b_M_lay 55 = .ok (.iload_n 3, 1) := by decide +kernel
theorem d_M_lay_56 : decode b_M_lay 56 = .ok (.iconst 3, 1) := by decide +kernel
theorem d_M_lay_57 : decode b_M_lay 57 = .ok (.invokevirtual 164, 3) := by decide +kernel
theorem d_M_lay_60 : decode b_M_lay 60 = .ok (.lastore, 1) := by decide +kernel
theorem d_M_lay_61 : decode b_M_lay 61 = .ok (.aload_n 0, 1) := by decide +kernel
theorem d_M_lay_62 : decode b_M_lay 62 = .ok (.getfield 13, 3) := by decide +kernel
theorem d_M_lay_65 : decode b_M_lay 65 = .ok (.iload_n 3, 1) := by decide +kernel
theorem d_M_lay_66 : decode b_M_lay 66 = .ok (.iaload, 1) := by decide +kernel
theorem d_M_lay_67 : decode b_M_lay 67 = .ok (.iconst 3, 1) := by decide +kernel
theorem d_M_lay_68 : decode b_M_lay 68 = .ok (.if_icmp .ne 119, 3) := by decide +kernel
theorem d_M_lay_71 : decode b_M_lay 71 = .ok (.aload_n 0, 1) := by decide +kernel
theorem d_M_lay_72 : decode b_M_lay 72 = .ok (.iload_n 3, 1) := by decide +kernel
theorem d_M_lay_73 : decode b_M_lay 73 = .ok (.iconst 5, 1) := by decide +kernel
theorem d_M_lay_74 : decode b_M_lay 74 = .ok (.invokevirtual 164, 3) := by decide +kernel
theorem d_M_lay_77 : decode b_M_lay 77 = .ok (.lstore 10, 2) := by decide +kernel
theorem d_M_lay_79 : decode b_M_lay 79 = .ok (.aload_n 0, 1) := by decide +kernel
theorem d_M_lay_80 : decode b_M_lay 80 = .ok (.getfield 56, 3) := by decide +kernel
theorem d_M_lay_83 : decode b_M_lay 83 = .ok (.iload_n 1, 1) := by decide +kernel
theorem d_M_lay_84 : decode b_M_lay 84 = .ok (.iconst 2, 1) := by decide +kernel
theorem d_M_lay_85 : decode b_M_lay 85 = .ok (.iastore, 1) := by decide +kernel
theorem d_M_lay_86 : decode b_M_lay 86 = .ok (.aload_n 0, 1) := by decide +kernel
theorem d_M_lay_87 : decode b_M_lay 87 = .ok (.iload_n 1, 1) := by decide +kernel
theorem d_M_lay_88 : decode b_M_lay 88 = .ok (.iconst 0, 1) := by decide +kernel
theorem d_M_lay_89 : decode b_M_lay 89 = .ok (.iload_n 2, 1) := by decide +kernel
theorem d_M_lay_90 : decode b_M_lay 90 = .ok (.lload 4, 2) := by decide +kernel
theorem d_M_lay_92 : decode b_M_lay 92 = .ok (.lload 6, 2) := by decide +kernel
theorem d_M_lay_94 : decode b_M_lay 94 = .ok (.invokevirtual 168, 3) := by decide +kernel
theorem d_M_lay_97 : decode b_M_lay 97 = .ok (.aload_n 0, 1) := by decide +kernel
theorem d_M_lay_98 : decode b_M_lay 98 = .ok (.iload_n 1, 1) := by decide +kernel
theorem d_M_lay_99 : decode b_M_lay 99 = .ok (.iconst 1, 1) := by decide +kernel
theorem d_M_lay_100 : decode b_M_lay 100 = .ok (.iload_n 2, 1) := by decide +kernel
theorem d_M_lay_101 : decode b_M_lay 101 = .ok (.aload_n 0, 1) := by decide +kernel
theorem d_M_lay_102 : decode b_M_lay 102 = .ok (.iload_n 3, 1) := by decide +kernel
theorem d_M_lay_103 : decode b_M_lay 103 = .ok (.iconst 4, 1) := by decide +kernel
theorem d_M_lay_104 : decode b_M_lay 104 = .ok (.invokevirtual 164, 3) := by decide +kernel
theorem d_M_lay_107 : decode b_M_lay 107 = .ok (.lconst 0, 1) := by decide +kernel
theorem d_M_lay_108 : decode b_M_lay 108 = .ok (.lcmp, 1) := by decide +kernel
theorem d_M_lay_109 : decode b_M_lay 109 = .ok (.ifCond .ne 11, 3) := by decide +kernel
theorem d_M_lay_112 : decode b_M_lay 112 = .ok (.lload 4, 2) := by decide +kernel
theorem d_M_lay_114 : decode b_M_lay 114 = .ok (.lload 10, 2) := by decide +kernel
theorem d_M_lay_116 : decode b_M_lay 116 = .ok (.ladd, 1) := by decide +kernel
theorem d_M_lay_117 : decode b_M_lay 117 = .ok (.goto 5, 3) := by decide +kernel
theorem d_M_lay_120 : decode b_M_lay 120 = .ok (.lload 4, 2) := by decide +kernel
theorem d_M_lay_122 : decode b_M_lay 122 = .ok (.aload_n 0, 1) := by decide +kernel
theorem d_M_lay_123 : decode b_M_lay 123 = .ok (.iload_n 3, 1) := by decide +kernel
theorem d_M_lay_124 : decode b_M_lay 124 = .ok (.iconst 4, 1) := by decide +kernel
theorem d_M_lay_125 : decode b_M_lay 125 = .ok (.invokevirtual 164, 3) := by decide +kernel
theorem d_M_lay_128 : decode b_M_lay 128 = .ok (.lconst 1, 1) := by decide +kernel
theorem d_M_lay_129 : decode b_M_lay 129 = .ok (.lcmp, 1) := by decide +kernel
theorem d_M_lay_130 : decode b_M_lay 130 = .ok (.ifCond .ne 11, 3) := by decide +kernel
theorem d_M_lay_133 : decode b_M_lay 133 = .ok (.lload 6, 2) := by decide +kernel
theorem d_M_lay_135 : decode b_M_lay 135 = .ok (.lload 10, 2) := by decide +kernel
theorem d_M_lay_137 : decode b_M_lay 137 = .ok (.ladd, 1) := by decide +kernel
theorem d_M_lay_138 : decode b_M_lay 138 = .ok (.goto 5, 3) := by decide +kernel
theorem d_M_lay_141 : decode b_M_lay 141 = .ok (.lload 6, 2) := by decide +kernel
theorem d_M_lay_143 : decode b_M_lay 143 = .ok (.invokevirtual 168, 3) := by decide +kernel
theorem d_M_lay_146 : decode b_M_lay 146 = .ok (.aload_n 0, 1) := by decide +kernel
theorem d_M_lay_147 : decode b_M_lay 147 = .ok (.iload_n 1, 1) := by decide +kernel
theorem d_M_lay_148 : decode b_M_lay 148 = .ok (.aload_n 0, 1) := by decide +kernel
theorem d_M_lay_149 : decode b_M_lay 149 = .ok (.iload_n 2, 1) := by decide +kernel
theorem d_M_lay_150 : decode b_M_lay 150 = .ok (.lload 8, 2) := by decide +kernel
theorem d_M_lay_152 : decode b_M_lay 152 = .ok (.invokevirtual 172, 3) := by decide +kernel
theorem d_M_lay_155 : decode b_M_lay 155 = .ok (.aload_n 0, 1) := by decide +kernel
theorem d_M_lay_156 : decode b_M_lay 156 = .ok (.iload_n 2, 1) := by decide +kernel
theorem d_M_lay_157 : decode b_M_lay 157 = .ok (.aload_n 0, 1) := by decide +kernel
theorem d_M_lay_158 : decode b_M_lay 158 = .ok (.iload_n 3, 1) := by decide +kernel
theorem d_M_lay_159 : decode b_M_lay 159 = .ok (.iconst 4, 1) := by decide +kernel
theorem d_M_lay_160 : decode b_M_lay 160 = .ok (.invokevirtual 164, 3) := by decide +kernel
theorem d_M_lay_163 : decode b_M_lay 163 = .ok (.ldc2_w 176, 3) := by decide +kernel
theorem d_M_lay_166 : decode b_M_lay 166 = .ok (.lcmp, 1) := by decide +kernel
theorem d_M_lay_167 : decode b_M_lay 167 = .ok (.ifCond .ne 11, 3) := by decide +kernel
theorem d_M_lay_170 : decode b_M_lay 170 = .ok (.lload 8, 2) := by decide +kernel
theorem d_M_lay_172 : decode b_M_lay 172 = .ok (.lload 10, 2) := by decide +kernel
theorem d_M_lay_174 : decode b_M_lay 174 = .ok (.ladd, 1) := by decide +kernel
theorem d_M_lay_175 : decode b_M_lay 175 = .ok (.goto 5, 3) := by decide +kernel
theorem d_M_lay_178 : decode b_M_lay 178 = .ok (.lload 8, 2) := by decide +kernel
theorem d_M_lay_180 : decode b_M_lay 180 = .ok (.invokevirtual 172, 3) := by decide +kernel
theorem d_M_lay_183 : decode b_M_lay 183 = .ok (.invokevirtual 178, 3) := by decide +kernel
theorem d_M_lay_186 : decode b_M_lay 186 = .ok (.return_, 1) := by decide +kernel
theorem d_M_lay_187 : decode b_M_lay 187 = .ok (.aload_n 0, 1) := by decide +kernel
theorem d_M_lay_188 : decode b_M_lay 188 = .ok (.iload_n 1, 1) := by decide +kernel
theorem d_M_lay_189 : decode b_M_lay 189 = .ok (.aload_n 0, 1) := by decide +kernel
theorem d_M_lay_190 : decode b_M_lay 190 = .ok (.iload_n 2, 1) := by decide +kernel
theorem d_M_lay_191 : decode b_M_lay 191 = .ok (.lload 8, 2) := by decide +kernel
theorem d_M_lay_193 : decode b_M_lay 193 = .ok (.invokevirtual 172, 3) := by decide +kernel
theorem d_M_lay_196 : decode b_M_lay 196 = .ok (.aload_n 0, 1) := by decide +kernel
theorem d_M_lay_197 : decode b_M_lay 197 = .ok (.iload_n 2, 1) := by decide +kernel
theorem d_M_lay_198 : decode b_M_lay 198 = .ok (.lload 8, 2) := by decide +kernel
theorem d_M_lay_200 : decode b_M_lay 200 = .ok (.aload_n 0, 1) := by decide +kernel
theorem d_M_lay_201 : decode b_M_lay 201 = .ok (.iload_n 3, 1) := by decide +kernel
theorem d_M_lay_202 : decode b_M_lay 202 = .ok (.iconst 5, 1) := by decide +kernel
theorem d_M_lay_203 : decode b_M_lay 203 = .ok (.invokevirtual 164, 3) := by decide +kernel
theorem d_M_lay_206 : decode b_M_lay 206 = .ok (.ladd, 1) := by decide +kernel
theorem d_M_lay_207 : decode b_M_lay 207 = .ok (.invokevirtual 172, 3) := by decide +kernel
theorem d_M_lay_210 : decode b_M_lay 210 = .ok (.invokevirtual 178, 3) := by decide +kernel
theorem d_M_lay_213 : decode b_M_lay 213 = .ok (.aload_n 0, 1) := by decide +kernel
theorem d_M_lay_214 : decode b_M_lay 214 = .ok (.getfield 13, 3) := by decide +kernel
theorem d_M_lay_217 : decode b_M_lay 217 = .ok (.iload_n 3, 1) := by decide +kernel
theorem d_M_lay_218 : decode b_M_lay 218 = .ok (.iaload, 1) := by decide +kernel
theorem d_M_lay_219 : decode b_M_lay 219 = .ok (.iconst 1, 1) := by decide +kernel
theorem d_M_lay_220 : decode b_M_lay 220 = .ok (.if_icmp .ne 24, 3) := by decide +kernel
theorem d_M_lay_223 : decode b_M_lay 223 = .ok (.aload_n 0, 1) := by decide +kernel
theorem d_M_lay_224 : decode b_M_lay 224 = .ok (.getfield 56, 3) := by decide +kernel
theorem d_M_lay_227 : decode b_M_lay 227 = .ok (.iload_n 1, 1) := by decide +kernel
theorem d_M_lay_228 : decode b_M_lay 228 = .ok (.iconst 1, 1) := by decide +kernel
theorem d_M_lay_229 : decode b_M_lay 229 = .ok (.iastore, 1) := by decide +kernel
theorem d_M_lay_230 : decode b_M_lay 230 = .ok (.aload_n 0, 1) := by decide +kernel
theorem d_M_lay_231 : decode b_M_lay 231 = .ok (.iload_n 1, 1) := by decide +kernel
theorem d_M_lay_232 : decode b_M_lay 232 = .ok (.iconst 0, 1) := by decide +kernel
theorem d_M_lay_233 : decode b_M_lay 233 = .ok (.iload_n 2, 1) := by decide +kernel
theorem d_M_lay_234 : decode b_M_lay 234 = .ok (.lload 4, 2) := by decide +kernel
theorem d_M_lay_236 : decode b_M_lay 236 = .ok (.lload 6, 2) := by decide +kernel
theorem d_M_lay_238 : decode b_M_lay 238 = .ok (.invokevirtual 168, 3) := by decide +kernel
theorem d_M_lay_241 : decode b_M_lay 241 = .ok (.goto 158, 3) := by decide +kernel
theorem d_M_lay_244 : decode b_M_lay 244 = .ok (.aload_n 0, 1) := by decide +kernel
theorem d_M_lay_245 : decode b_M_lay 245 = .ok (.getfield 13, 3) := by decide +kernel
theorem d_M_lay_248 : decode b_M_lay 248 = .ok (.iload_n 3, 1) := by decide +kernel
theorem d_M_lay_249 : decode b_M_lay 249 = .ok (.iaload, 1) := by decide +kernel
theorem d_M_lay_250 : decode b_M_lay 250 = .ok (.ifCond .ne 85, 3) := by decide +kernel
theorem d_M_lay_253 : decode b_M_lay 253 = .ok (.aload_n 0, 1) := by decide +kernel
theorem d_M_lay_254 : decode b_M_lay 254 = .ok (.getfield 56, 3) := by decide +kernel
theorem d_M_lay_257 : decode b_M_lay 257 = .ok (.iload_n 1, 1) := by decide +kernel
theorem d_M_lay_258 : decode b_M_lay 258 = .ok (.iconst 4, 1) := by decide +kernel
theorem d_M_lay_259 : decode b_M_lay 259 = .ok (.iastore, 1) := by decide +kernel
theorem d_M_lay_260 : decode b_M_lay 260 = .ok (.aload_n 0, 1) := by decide +kernel
theorem d_M_lay_261 : decode b_M_lay 261 = .ok (.iload_n 1, 1) := by decide +kernel
theorem d_M_lay_262 : decode b_M_lay 262 = .ok (.iconst 0, 1) := by decide +kernel
theorem d_M_lay_263 : decode b_M_lay 263 = .ok (.iload_n 2, 1) := by decide +kernel
theorem d_M_lay_264 : decode b_M_lay 264 = .ok (.lload 4, 2) := by decide +kernel
theorem d_M_lay_266 : decode b_M_lay 266 = .ok (.lload 6, 2) := by decide +kernel
theorem d_M_lay_268 : decode b_M_lay 268 = .ok (.invokevirtual 168, 3) := by decide +kernel
theorem d_M_lay_271 : decode b_M_lay 271 = .ok (.aload_n 0, 1) := by decide +kernel
theorem d_M_lay_272 : decode b_M_lay 272 = .ok (.iload_n 1, 1) := by decide +kernel
theorem d_M_lay_273 : decode b_M_lay 273 = .ok (.iconst 1, 1) := by decide +kernel
theorem d_M_lay_274 : decode b_M_lay 274 = .ok (.iload_n 2, 1) := by decide +kernel
theorem d_M_lay_275 : decode b_M_lay 275 = .ok (.lload 4, 2) := by decide +kernel
theorem d_M_lay_277 : decode b_M_lay 277 = .ok (.aload_n 0, 1) := by decide +kernel
theorem d_M_lay_278 : decode b_M_lay 278 = .ok (.iload_n 3, 1) := by decide +kernel
theorem d_M_lay_279 : decode b_M_lay 279 = .ok (.iconst 3, 1) := by decide +kernel
theorem d_M_lay_280 : decode b_M_lay 280 = .ok (.invokevirtual 164, 3) := by decide +kernel
theorem d_M_lay_283 : decode b_M_lay 283 = .ok (.ladd, 1) := by decide +kernel
theorem d_M_lay_284 : decode b_M_lay 284 = .ok (.lload 6, 2) := by decide +kernel
theorem d_M_lay_286 : decode b_M_lay 286 = .ok (.invokevirtual 168, 3) := by decide +kernel
theorem d_M_lay_289 : decode b_M_lay 289 = .ok (.aload_n 0, 1) := by decide +kernel
theorem d_M_lay_290 : decode b_M_lay 290 = .ok (.iload_n 1, 1) := by decide +kernel
theorem d_M_lay_291 : decode b_M_lay 291 = .ok (.iconst 2, 1) := by decide +kernel
theorem d_M_lay_292 : decode b_M_lay 292 = .ok (.iload_n 2, 1) := by decide +kernel
theorem d_M_lay_293 : decode b_M_lay 293 = .ok (.lload 4, 2) := by decide +kernel
theorem d_M_lay_295 : decode b_M_lay 295 = .ok (.aload_n 0, 1) := by decide +kernel
theorem d_M_lay_296 : decode b_M_lay 296 = .ok (.iload_n 3, 1) := by decide +kernel
theorem d_M_lay_297 : decode b_M_lay 297 = .ok (.iconst 3, 1) := by decide +kernel
theorem d_M_lay_298 : decode b_M_lay 298 = .ok (.invokevirtual 164, 3) := by decide +kernel
theorem d_M_lay_301 : decode b_M_lay 301 = .ok (.ladd, 1) := by decide +kernel
theorem d_M_lay_302 : decode b_M_lay 302 = .ok (.lload 6, 2) := by decide +kernel
theorem d_M_lay_304 : decode b_M_lay 304 = .ok (.aload_n 0, 1) := by decide +kernel
theorem d_M_lay_305 : decode b_M_lay 305 = .ok (.iload_n 3, 1) := by decide +kernel
theorem d_M_lay_306 : decode b_M_lay 306 = .ok (.iconst 4, 1) := by decide +kernel
theorem d_M_lay_307 : decode b_M_lay 307 = .ok (.invokevirtual 164, 3) := by decide +kernel
theorem d_M_lay_310 : decode b_M_lay 310 = .ok (.ladd, 1) := by decide +kernel
theorem d_M_lay_311 : decode b_M_lay 311 = .ok (.invokevirtual 168, 3) := by decide +kernel
theorem d_M_lay_314 : decode b_M_lay 314 = .ok (.aload_n 0, 1) := by decide +kernel
theorem d_M_lay_315 : decode b_M_lay 315 = .ok (.iload_n 1, 1) := by decide +kernel
theorem d_M_lay_316 : decode b_M_lay 316 = .ok (.iconst 3, 1) := by decide +kernel
theorem d_M_lay_317 : decode b_M_lay 317 = .ok (.iload_n 2, 1) := by decide +kernel
theorem d_M_lay_318 : decode b_M_lay 318 = .ok (.lload 4, 2) := by decide +kernel
theorem d_M_lay_320 : decode b_M_lay 320 = .ok (.lload 6, 2) := by decide +kernel
theorem d_M_lay_322 : decode b_M_lay 322 = .ok (.aload_n 0, 1) := by decide +kernel
theorem d_M_lay_323 : decode b_M_lay 323 = .ok (.iload_n 3, 1) := by decide +kernel
theorem d_M_lay_324 : decode b_M_lay 324 = .ok (.iconst 4, 1) := by decide +kernel
theorem d_M_lay_325 : decode b_M_lay 325 = .ok (.invokevirtual 164, 3) := by decide +kernel
theorem d_M_lay_328 : decode b_M_lay 328 = .ok (.ladd, 1) := by decide +kernel
theorem d_M_lay_329 : decode b_M_lay 329 = .ok (.invokevirtual 168, 3) := by decide +kernel
theorem d_M_lay_332 : decode b_M_lay 332 = .ok (.goto 67, 3) := by decide +kernel
theorem d_M_lay_335 : decode b_M_lay 335 = .ok (.aload_n 0, 1) := by decide +kernel
theorem d_M_lay_336 : decode b_M_lay 336 = .ok (.getfield 56, 3) := by decide +kernel
theorem d_M_lay_339 : decode b_M_lay 339 = .ok (.iload_n 1, 1) := by decide +kernel
theorem d_M_lay_340 : decode b_M_lay 340 = .ok (.aload_n 0, 1) := by decide +kernel
theorem d_M_lay_341 : decode b_M_lay 341 = .ok (.getfield 20, 3) := by decide +kernel
theorem d_M_lay_344 : decode b_M_lay 344 = .ok (.iload_n 3, 1) := by decide +kernel
theorem d_M_lay_345 : decode b_M_lay 345 = .ok (.iaload, 1) := by decide +kernel
theorem d_M_lay_346 : decode b_M_lay 346 = .ok (.iastore, 1) := by decide +kernel
theorem d_M_lay_347 : decode b_M_lay 347 = .ok (.iconst 0, 1) := by decide +kernel
theorem d_M_lay_348 : decode b_M_lay 348 = .ok (.istore 10, 2) := by decide +kernel
theorem d_M_lay_350 : decode b_M_lay 350 = .ok (.iload 10, 2) := by decide +kernel
theorem d_M_lay_352 : decode b_M_lay 352 = .ok (.aload_n 0, 1) := by decide +kernel
theorem d_M_lay_353 : decode b_M_lay 353 = .ok (.getfield 56, 3) := by decide +kernel
theorem d_M_lay_356 : decode b_M_lay 356 = .ok (.iload_n 1, 1) := by decide +kernel
theorem d_M_lay_357 : decode b_M_lay 357 = .ok (.iaload, 1) := by decide +kernel
theorem d_M_lay_358 : decode b_M_lay 358 = .ok (.if_icmp .ge 41, 3) := by decide +kernel
theorem d_M_lay_361 : decode b_M_lay 361 = .ok (.aload_n 0, 1) := by decide +kernel
theorem d_M_lay_362 : decode b_M_lay 362 = .ok (.iload_n 1, 1) := by decide +kernel
theorem d_M_lay_363 : decode b_M_lay 363 = .ok (.iload 10, 2) := by decide +kernel
theorem d_M_lay_365 : decode b_M_lay 365 = .ok (.iload_n 2, 1) := by decide +kernel
theorem d_M_lay_366 : decode b_M_lay 366 = .ok (.aload_n 0, 1) := by decide +kernel
theorem d_M_lay_367 : decode b_M_lay 367 = .ok (.getfield 23, 3) := by decide +kernel
theorem d_M_lay_370 : decode b_M_lay 370 = .ok (.bipush 8, 2) := by decide +kernel
theorem d_M_lay_372 : decode b_M_lay 372 = .ok (.iload_n 3, 1) := by decide +kernel
theorem d_M_lay_373 : decode b_M_lay 373 = .ok (.imul, 1) := by decide +kernel
theorem d_M_lay_374 : decode b_M_lay 374 = .ok (.iload 10, 2) := by decide +kernel
theorem d_M_lay_376 : decode b_M_lay 376 = .ok (.iadd, 1) := by decide +kernel
theorem d_M_lay_377 : decode b_M_lay 377 = .ok (.laload, 1) := by decide +kernel
theorem d_M_lay_378 : decode b_M_lay 378 = .ok (.aload_n 0, 1) := by decide +kernel
theorem d_M_lay_379 : decode b_M_lay 379 = .ok (.getfield 26, 3) := by decide +kernel
theorem d_M_lay_382 : decode b_M_lay 382 = .ok (.bipush 8, 2) := by decide +kernel
theorem d_M_lay_384 : decode b_M_lay 384 = .ok (.iload_n 3, 1) := by decide +kernel
theorem d_M_lay_385 : decode b_M_lay 385 = .ok (.imul, 1) := by decide +kernel
theorem d_M_lay_386 : decode b_M_lay 386 = .ok (.iload 10, 2) := by decide +kernel
theorem d_M_lay_388 : decode b_M_lay 388 = .ok (.iadd, 1) := by decide +kernel
theorem d_M_lay_389 : decode b_M_lay 389 = .ok (.laload, 1) := by decide +kernel
theorem d_M_lay_390 : decode b_M_lay 390 = .ok (.invokevirtual 168, 3) := by decide +kernel
theorem d_M_lay_393 : decode b_M_lay 393 = .ok (.iinc 10 1, 3) := by decide +kernel
theorem d_M_lay_396 : decode b_M_lay 396 = .ok (.goto (-46), 3) := by decide +kernel
theorem d_M_lay_399 : decode b_M_lay 399 = .ok (.return_, 1) := by decide +kernel
abbrev rm_M_lay : Room := { frames := 2, cells := 0, slots := 0, locals := 54 }
theorem ce_M_lay : gCe y_M_lay (.code y_M_lay b_M_lay 12 none) 12 3 false := gCe.code wd_970 wd_57 wd_969 (by decide) (by decide +kernel)
def f_M_lay_L350 (g0 : gG) (c0 : Nat) (c1 : Int32) (c2 : Int32) (c3 : Int32) (K399 : gW → gX Unit) : Nat → Int32 → gW → gX Unit
  | 0, _, _ => none
  | n + 1, z10, w => (gfA w c0 7 21).bind fun v74 => (gaI w v74 c1).bind fun v76 => if v76 ≤ z10 then (K399 w) else ((gfA w c0 7 7).bind fun v79 => (gaJ w v79 ((8 * c3) + z10)).bind fun v81 => (gfA w c0 7 8).bind fun v83 => (gaJ w v83 ((8 * c3) + z10)).bind fun v85 => (gck w c0 7).bind fun _ => gbind (f_M_spot g0 c0 c1 z10 c2 v81 v85 w) fun v91 w => f_M_lay_L350 g0 c0 c1 c2 c3 K399 n (z10 + 1) w)
def f_M_lay (g0 : gG) (a0 : Nat) (p1 : Int32) (p2 : Int32) (p3 : Int32) (w : gW) : gX Unit := (gck w a0 7).bind fun _ => gbind (f_M_of g0 a0 p3 0 w) fun v5 w => (gck w a0 7).bind fun _ => gbind (f_M_of g0 a0 p3 1 w) fun v10 w => (gck w a0 7).bind fun _ => gbind (f_M_of g0 a0 p3 2 w) fun v15 w => (gfA w a0 7 20).bind fun v16 => (gfA w a0 7 4).bind fun v18 => (gaI w v18 p3).bind fun v20 => gjoin (fun K48 => if v20 = 0 then (K48 2 w) else ((gfA w a0 7 4).bind fun v199 => (gaI w v199 p3).bind fun v201 => K48 v201 w)) (fun (y22 : Int32) (w : gW) => (gsI w v16 p1 y22).bind fun w => (gfA w a0 7 24).bind fun v24 => (gck w a0 7).bind fun _ => gbind (f_M_of g0 a0 p3 3 w) fun v30 w => (gsJ w v24 p1 v30).bind fun w => (gfA w a0 7 4).bind fun v32 => (gaI w v32 p3).bind fun v34 => if v34 = 3 then ((gck w a0 7).bind fun _ => gbind (f_M_of g0 a0 p3 5 w) fun v148 w => (gfA w a0 7 21).bind fun v149 => (gsI w v149 p1 2).bind fun w => (gck w a0 7).bind fun _ => gbind (f_M_spot g0 a0 p1 0 p2 v5 v10 w) fun v156 w => (gck w a0 7).bind fun _ => gbind (f_M_of g0 a0 p3 4 w) fun v161 w => gjoin (fun K122 => if v161 = 0 then (K122 (v5 + v148) w) else (K122 v5 w)) (fun (y162 : Int64) (w : gW) => (gck w a0 7).bind fun _ => gbind (f_M_of g0 a0 p3 4 w) fun v167 w => gjoin (fun K143 => if v167 = 1 then (K143 (v10 + v148) w) else (K143 v10 w)) (fun (y168 : Int64) (w : gW) => (gck w a0 7).bind fun _ => gbind (f_M_spot g0 a0 p1 1 p2 y162 y168 w) fun v173 w => (gck w a0 7).bind fun _ => gbind (f_M_zOf g0 a0 p2 v15 w) fun v178 w => (gck w a0 7).bind fun _ => gbind (f_M_of g0 a0 p3 4 w) fun v183 w => gjoin (fun K180 => if v183 = 2 then (K180 (v15 + v148) w) else (K180 v15 w)) (fun (y184 : Int64) (w : gW) => (gck w a0 7).bind fun _ => gbind (f_M_zOf g0 a0 p2 y184 w) fun v189 w => (gck w a0 7).bind fun _ => gbind (f_M_heights g0 a0 p1 v178 v189 w) fun v194 w => some (.inr (), w))))) else ((gck w a0 7).bind fun _ => gbind (f_M_zOf g0 a0 p2 v15 w) fun v41 w => (gck w a0 7).bind fun _ => gbind (f_M_of g0 a0 p3 5 w) fun v46 w => (gck w a0 7).bind fun _ => gbind (f_M_zOf g0 a0 p2 (v15 + v46) w) fun v51 w => (gck w a0 7).bind fun _ => gbind (f_M_heights g0 a0 p1 v41 v51 w) fun v56 w => (gfA w a0 7 4).bind fun v57 => (gaI w v57 p3).bind fun v59 => gjoin (fun K399 => if v59 = 1 then ((gfA w a0 7 21).bind fun v136 => (gsI w v136 p1 1).bind fun w => (gck w a0 7).bind fun _ => gbind (f_M_spot g0 a0 p1 0 p2 v5 v10 w) fun v143 w => K399 w) else ((gfA w a0 7 4).bind fun v62 => (gaI w v62 p3).bind fun v64 => if v64 = 0 then ((gfA w a0 7 21).bind fun v93 => (gsI w v93 p1 4).bind fun w => (gck w a0 7).bind fun _ => gbind (f_M_spot g0 a0 p1 0 p2 v5 v10 w) fun v100 w => (gck w a0 7).bind fun _ => gbind (f_M_of g0 a0 p3 3 w) fun v105 w => (gck w a0 7).bind fun _ => gbind (f_M_spot g0 a0 p1 1 p2 (v5 + v105) v10 w) fun v110 w => (gck w a0 7).bind fun _ => gbind (f_M_of g0 a0 p3 3 w) fun v115 w => (gck w a0 7).bind fun _ => gbind (f_M_of g0 a0 p3 4 w) fun v120 w => (gck w a0 7).bind fun _ => gbind (f_M_spot g0 a0 p1 2 p2 (v5 + v115) (v10 + v120) w) fun v125 w => (gck w a0 7).bind fun _ => gbind (f_M_of g0 a0 p3 4 w) fun v130 w => (gck w a0 7).bind fun _ => gbind (f_M_spot g0 a0 p1 3 p2 v5 (v10 + v130) w) fun v135 w => K399 w) else ((gfA w a0 7 21).bind fun v67 => (gfA w a0 7 6).bind fun v69 => (gaI w v69 p3).bind fun v71 => (gsI w v67 p1 v71).bind fun w => f_M_lay_L350 g0 a0 p1 p2 p3 K399 64 0 w))) (fun (w : gW) => some (.inr (), w))))
set_option maxHeartbeats 4000000 in
set_option maxRecDepth 100000 in
theorem m_M_lay (l : Launch) (hst : l.stackTraces = false) (D : gD) (g0 : gG) (a0 : Nat) (p1 : Int32) (p2 : Int32) (p3 : Int32) (w : gW) (r : (String ⊕ Unit) × gW) (h : f_M_lay g0 a0 p1 p2 p3 w = some r) : gMet l y_M_lay (.code y_M_lay b_M_lay 12 none) rm_M_lay D g0 [.ref a0, .int p1, .int p2, .int p3] w (goV r) := by
  refine gw_ofV (by decide +kernel) (Nat.le_of_ble_eq_true rfl) ?_
  intro p e s m below meth c ls args A Q hx hb hml hown hlocks hin hnt hT hK hZ hA hret hexc hthr hI hl
  obtain ⟨H, hH⟩ : ∃ H, H = s.heap := ⟨_, rfl⟩
  rw [← hH] at hI ⊢
  obtain ⟨locs, hlocs⟩ : ∃ z : List Loc, z = [] := ⟨_, rfl⟩
  rw [← hlocs] at hI ⊢
  have hl : lv_has ls 12 [(0, .ref a0), (1, .int p1), (2, .int p2), (3, .int p3)] := hl
  unfold f_M_lay at h
  refine lv_aload_n hx hb d_M_lay_0 rfl (lv_at hl 0 rfl) ?_
  refine lv_iload_n hx hb d_M_lay_1 rfl (lv_at hl 3 rfl) ?_
  refine lv_iconst (v := 0) hx hb d_M_lay_2 (by decide) ?_
  obtain ⟨q3, e4, h⟩ := gb h
  obtain ⟨u1, e2⟩ := gsome h
  refine gw_callJ e2 h (gw_runV (As := [.int p3, .int 0]) (rest := []) hx hb hml hown hT hK hZ hA hI (ci := 7) rfl e4 (m_M_of l hst D g0 a0 p3 0 w u1 e2) ce_M_of wd_971 wd_26 ⟨by decide, by decide⟩ rfl rfl hl.1 rfl (lv_room (Nat.le_of_ble_eq_true rfl)) d_M_lay_3 ⟨(show 0 + 0 ≤ 0 by omega), (show 0 + 0 ≤ 0 by omega)⟩) hI hA hexc (show 0 + 0 ≤ 0 by omega) (show 0 + 0 ≤ 0 by omega) (fun v5 w H locs h hI => ?_)
  refine lv_lstore (lv' := [(4, .long v5), (0, .ref a0), (1, .int p1), (2, .int p2), (3, .int p3)]) hx hb d_M_lay_6 hl (by decide) rfl (fun ls hl => ?_)
  refine lv_aload_n hx hb d_M_lay_8 rfl (lv_at hl 1 rfl) ?_
  refine lv_iload_n hx hb d_M_lay_9 rfl (lv_at hl 4 rfl) ?_
  refine lv_iconst (v := 1) hx hb d_M_lay_10 (by decide) ?_
  obtain ⟨q8, e9, h⟩ := gb h
  obtain ⟨u6, e7⟩ := gsome h
  refine gw_callJ e7 h (gw_runV (As := [.int p3, .int 1]) (rest := []) hx hb hml hown hT hK hZ hA hI (ci := 7) rfl e9 (m_M_of l hst D g0 a0 p3 1 w u6 e7) ce_M_of wd_971 wd_26 ⟨by decide, by decide⟩ rfl rfl hl.1 rfl (lv_room (Nat.le_of_ble_eq_true rfl)) d_M_lay_11 ⟨(show 0 + 0 ≤ 0 by omega), (show 0 + 0 ≤ 0 by omega)⟩) hI hA hexc (show 0 + 0 ≤ 0 by omega) (show 0 + 0 ≤ 0 by omega) (fun v10 w H locs h hI => ?_)
  refine lv_lstore (lv' := [(6, .long v10), (4, .long v5), (0, .ref a0), (1, .int p1), (2, .int p2), (3, .int p3)]) hx hb d_M_lay_14 hl (by decide) rfl (fun ls hl => ?_)
  refine lv_aload_n hx hb d_M_lay_16 rfl (lv_at hl 2 rfl) ?_
  refine lv_iload_n hx hb d_M_lay_17 rfl (lv_at hl 5 rfl) ?_
  refine lv_iconst (v := 2) hx hb d_M_lay_18 (by decide) ?_
  obtain ⟨q13, e14, h⟩ := gb h
  obtain ⟨u11, e12⟩ := gsome h
  refine gw_callJ e12 h (gw_runV (As := [.int p3, .int 2]) (rest := []) hx hb hml hown hT hK hZ hA hI (ci := 7) rfl e14 (m_M_of l hst D g0 a0 p3 2 w u11 e12) ce_M_of wd_971 wd_26 ⟨by decide, by decide⟩ rfl rfl hl.1 rfl (lv_room (Nat.le_of_ble_eq_true rfl)) d_M_lay_19 ⟨(show 0 + 0 ≤ 0 by omega), (show 0 + 0 ≤ 0 by omega)⟩) hI hA hexc (show 0 + 0 ≤ 0 by omega) (show 0 + 0 ≤ 0 by omega) (fun v15 w H locs h hI => ?_)
  refine lv_lstore (lv' := [(8, .long v15), (6, .long v10), (4, .long v5), (0, .ref a0), (1, .int p1), (2, .int p2), (3, .int p3)]) hx hb d_M_lay_22 hl (by decide) rfl (fun ls hl => ?_)
  refine lv_aload_n hx hb d_M_lay_24 rfl (lv_at hl 3 rfl) ?_
  obtain ⟨v16, e17, h⟩ := gb h
  refine gw_getA hx hb hT hown hK hI (ci := 7) rfl i_7 20 (by decide) wd_806 (fun _ h9 => h9) e17 d_M_lay_25 ?_
  refine lv_iload_n hx hb d_M_lay_28 rfl (lv_at hl 4 rfl) ?_
  refine lv_aload_n hx hb d_M_lay_29 rfl (lv_at hl 3 rfl) ?_
  obtain ⟨v18, e19, h⟩ := gb h
  refine gw_getA hx hb hT hown hK hI (ci := 7) rfl i_7 4 (by decide) wd_790 (fun _ h9 => h9) e19 d_M_lay_30 ?_
  refine lv_iload_n hx hb d_M_lay_33 rfl (lv_at hl 6 rfl) ?_
  obtain ⟨v20, e21, h⟩ := gb h
  refine gw_aldI hx hb hK hI e21 d_M_lay_34 ?_
  obtain ⟨K48, eK48, h⟩ := gj h
  have hK48 : ∀ (y22 : Int32) (w : gW) (H : Heap) (locs : List Loc) (ls : Array Slot), K48 y22 w = some r → gI D s A w H locs → lv_has ls 12 [(0, .ref a0), (1, .int p1), (2, .int p2), (3, .int p3), (4, .long v5), (6, .long v10), (8, .long v15)] → W p l e rm_M_lay s m args below meth c H locs 0 0 Q (F0 m 48 ls [.int y22, .int p1, .ref v16]) := by
    intro y22 w H locs ls h hI hl
    have h := gk2 eK48 h
    obtain ⟨w, e23, h⟩ := gb h
    refine gw_astI hx hb hK hI e23 d_M_lay_48 (fun H locs hI => ?_)
    refine lv_aload_n hx hb d_M_lay_49 rfl (lv_at hl 0 rfl) ?_
    obtain ⟨v24, e25, h⟩ := gb h
    refine gw_getA hx hb hT hown hK hI (ci := 7) rfl i_7 24 (by decide) wd_810 (fun _ h9 => h9) e25 d_M_lay_50 ?_
    refine lv_iload_n hx hb d_M_lay_53 rfl (lv_at hl 1 rfl) ?_
    refine lv_aload_n hx hb d_M_lay_54 rfl (lv_at hl 0 rfl) ?_
    refine lv_iload_n hx hb d_M_lay_55 rfl (lv_at hl 3 rfl) ?_
    refine lv_iconst (v := 3) hx hb d_M_lay_56 (by decide) ?_
    obtain ⟨q28, e29, h⟩ := gb h
    obtain ⟨u26, e27⟩ := gsome h
    refine gw_callJ e27 h (gw_runV (As := [.int p3, .int 3]) (rest := [.int p1, .ref v24]) hx hb hml hown hT hK hZ hA hI (ci := 7) rfl e29 (m_M_of l hst D g0 a0 p3 3 w u26 e27) ce_M_of wd_971 wd_26 ⟨by decide, by decide⟩ rfl rfl hl.1 rfl (lv_room (Nat.le_of_ble_eq_true rfl)) d_M_lay_57 ⟨(show 0 + 0 ≤ 0 by omega), (show 0 + 0 ≤ 0 by omega)⟩) hI hA hexc (show 0 + 0 ≤ 0 by omega) (show 0 + 0 ≤ 0 by omega) (fun v30 w H locs h hI => ?_)
    obtain ⟨w, e31, h⟩ := gb h
    refine gw_astJ hx hb hK hI e31 d_M_lay_60 (fun H locs hI => ?_)
    refine lv_aload_n hx hb d_M_lay_61 rfl (lv_at hl 0 rfl) ?_
    obtain ⟨v32, e33, h⟩ := gb h
    refine gw_getA hx hb hT hown hK hI (ci := 7) rfl i_7 4 (by decide) wd_790 (fun _ h9 => h9) e33 d_M_lay_62 ?_
    refine lv_iload_n hx hb d_M_lay_65 rfl (lv_at hl 3 rfl) ?_
    obtain ⟨v34, e35, h⟩ := gb h
    refine gw_aldI hx hb hK hI e35 d_M_lay_66 ?_
    refine lv_iconst (v := 3) hx hb d_M_lay_67 (by decide) ?_
    refine lv_icmp_ne (tgt := 187) hx hb d_M_lay_68 (by decide) (fun c36 => ?_) (fun c36 => ?_)
    · skip
      have h := gie c36 h
      refine lv_aload_n hx hb d_M_lay_187 rfl (lv_at hl 0 rfl) ?_
      refine lv_iload_n hx hb d_M_lay_188 rfl (lv_at hl 1 rfl) ?_
      refine lv_aload_n hx hb d_M_lay_189 rfl (lv_at hl 0 rfl) ?_
      refine lv_iload_n hx hb d_M_lay_190 rfl (lv_at hl 2 rfl) ?_
      refine lv_lload hx hb d_M_lay_191 (lv_at hl 6 rfl) ?_
      obtain ⟨q39, e40, h⟩ := gb h
      obtain ⟨u37, e38⟩ := gsome h
      refine gw_callJ e38 h (gw_runV (As := [.int p2, .long v15]) (rest := [.int p1, .ref a0]) hx hb hml hown hT hK hZ hA hI (ci := 7) rfl e40 (m_M_zOf l hst D g0 a0 p2 v15 w u37 e38) ce_M_zOf wd_991 wd_31 ⟨by decide, by decide⟩ rfl rfl hl.1 rfl (lv_room (Nat.le_of_ble_eq_true rfl)) d_M_lay_193 ⟨(show 0 + 0 ≤ 0 by omega), (show 0 + 0 ≤ 0 by omega)⟩) hI hA hexc (show 0 + 0 ≤ 0 by omega) (show 0 + 0 ≤ 0 by omega) (fun v41 w H locs h hI => ?_)
      refine lv_aload_n hx hb d_M_lay_196 rfl (lv_at hl 0 rfl) ?_
      refine lv_iload_n hx hb d_M_lay_197 rfl (lv_at hl 2 rfl) ?_
      refine lv_lload hx hb d_M_lay_198 (lv_at hl 6 rfl) ?_
      refine lv_aload_n hx hb d_M_lay_200 rfl (lv_at hl 0 rfl) ?_
      refine lv_iload_n hx hb d_M_lay_201 rfl (lv_at hl 3 rfl) ?_
      refine lv_iconst (v := 5) hx hb d_M_lay_202 (by decide) ?_
      obtain ⟨q44, e45, h⟩ := gb h
      obtain ⟨u42, e43⟩ := gsome h
      refine gw_callJ e43 h (gw_runV (As := [.int p3, .int 5]) (rest := [.long v15, .int p2, .ref a0, .long v41, .int p1, .ref a0]) hx hb hml hown hT hK hZ hA hI (ci := 7) rfl e45 (m_M_of l hst D g0 a0 p3 5 w u42 e43) ce_M_of wd_971 wd_26 ⟨by decide, by decide⟩ rfl rfl hl.1 rfl (lv_room (Nat.le_of_ble_eq_true rfl)) d_M_lay_203 ⟨(show 0 + 0 ≤ 0 by omega), (show 0 + 0 ≤ 0 by omega)⟩) hI hA hexc (show 0 + 0 ≤ 0 by omega) (show 0 + 0 ≤ 0 by omega) (fun v46 w H locs h hI => ?_)
      refine lv_ladd hx hb d_M_lay_206 ?_
      obtain ⟨q49, e50, h⟩ := gb h
      obtain ⟨u47, e48⟩ := gsome h
      refine gw_callJ e48 h (gw_runV (As := [.int p2, .long (v15 + v46)]) (rest := [.long v41, .int p1, .ref a0]) hx hb hml hown hT hK hZ hA hI (ci := 7) rfl e50 (m_M_zOf l hst D g0 a0 p2 (v15 + v46) w u47 e48) ce_M_zOf wd_991 wd_31 ⟨by decide, by decide⟩ rfl rfl hl.1 rfl (lv_room (Nat.le_of_ble_eq_true rfl)) d_M_lay_207 ⟨(show 0 + 0 ≤ 0 by omega), (show 0 + 0 ≤ 0 by omega)⟩) hI hA hexc (show 0 + 0 ≤ 0 by omega) (show 0 + 0 ≤ 0 by omega) (fun v51 w H locs h hI => ?_)
      obtain ⟨q54, e55, h⟩ := gb h
      obtain ⟨u52, e53⟩ := gsome h
      refine gw_callV e53 h (gw_runV (As := [.int p1, .long v41, .long v51]) (rest := []) hx hb hml hown hT hK hZ hA hI (ci := 7) rfl e55 (m_M_heights l hst D g0 a0 p1 v41 v51 w u52 e53) ce_M_heights wd_996 wd_32 ⟨by decide, by decide⟩ rfl rfl hl.1 rfl (lv_room (Nat.le_of_ble_eq_true rfl)) d_M_lay_210 ⟨(show 0 + 0 ≤ 0 by omega), (show 0 + 0 ≤ 0 by omega)⟩) hI hA hexc (show 0 + 0 ≤ 0 by omega) (show 0 + 0 ≤ 0 by omega) (fun v56 w H locs h hI => ?_)
      refine lv_aload_n hx hb d_M_lay_213 rfl (lv_at hl 0 rfl) ?_
      obtain ⟨v57, e58, h⟩ := gb h
      refine gw_getA hx hb hT hown hK hI (ci := 7) rfl i_7 4 (by decide) wd_790 (fun _ h9 => h9) e58 d_M_lay_214 ?_
      refine lv_iload_n hx hb d_M_lay_217 rfl (lv_at hl 3 rfl) ?_
      obtain ⟨v59, e60, h⟩ := gb h
      refine gw_aldI hx hb hK hI e60 d_M_lay_218 ?_
      refine lv_iconst (v := 1) hx hb d_M_lay_219 (by decide) ?_
      obtain ⟨K399, eK399, h⟩ := gj h
      have hK399 : ∀ (w : gW) (H : Heap) (locs : List Loc) (ls : Array Slot), K399 w = some r → gI D s A w H locs → lv_has ls 12 [] → W p l e rm_M_lay s m args below meth c H locs 0 0 Q (F0 m 399 ls []) := by
        intro w H locs ls h hI hl
        have h := gk1 eK399 h
        exact W.widen (show 0 ≤ 0 by omega) (show 0 ≤ 0 by omega) (hret _ _ (Option.some.inj h).symm _ _ _ _ d_M_lay_399 hI)
      refine lv_icmp_ne (tgt := 244) hx hb d_M_lay_220 (by decide) (fun c61 => ?_) (fun c61 => ?_)
      · skip
        have h := gie c61 h
        refine lv_aload_n hx hb d_M_lay_244 rfl (lv_at hl 0 rfl) ?_
        obtain ⟨v62, e63, h⟩ := gb h
        refine gw_getA hx hb hT hown hK hI (ci := 7) rfl i_7 4 (by decide) wd_790 (fun _ h9 => h9) e63 d_M_lay_245 ?_
        refine lv_iload_n hx hb d_M_lay_248 rfl (lv_at hl 3 rfl) ?_
        obtain ⟨v64, e65, h⟩ := gb h
        refine gw_aldI hx hb hK hI e65 d_M_lay_249 ?_
        refine lv_if_ne (tgt := 335) hx hb d_M_lay_250 (by decide) (fun c66 => ?_) (fun c66 => ?_)
        · skip
          have h := gie c66 h
          refine lv_aload_n hx hb d_M_lay_335 rfl (lv_at hl 0 rfl) ?_
          obtain ⟨v67, e68, h⟩ := gb h
          refine gw_getA hx hb hT hown hK hI (ci := 7) rfl i_7 21 (by decide) wd_807 (fun _ h9 => h9) e68 d_M_lay_336 ?_
          refine lv_iload_n hx hb d_M_lay_339 rfl (lv_at hl 1 rfl) ?_
          refine lv_aload_n hx hb d_M_lay_340 rfl (lv_at hl 0 rfl) ?_
          obtain ⟨v69, e70, h⟩ := gb h
          refine gw_getA hx hb hT hown hK hI (ci := 7) rfl i_7 6 (by decide) wd_792 (fun _ h9 => h9) e70 d_M_lay_341 ?_
          refine lv_iload_n hx hb d_M_lay_344 rfl (lv_at hl 3 rfl) ?_
          obtain ⟨v71, e72, h⟩ := gb h
          refine gw_aldI hx hb hK hI e72 d_M_lay_345 ?_
          obtain ⟨w, e73, h⟩ := gb h
          refine gw_astI hx hb hK hI e73 d_M_lay_346 (fun H locs hI => ?_)
          refine lv_iconst (v := 0) hx hb d_M_lay_347 (by decide) ?_
          refine lv_istore (lv' := [(10, .int 0), (0, .ref a0), (1, .int p1), (2, .int p2), (3, .int p3), (4, .long v5), (6, .long v10), (8, .long v15)]) hx hb d_M_lay_348 hl (by decide) rfl (fun ls hl => ?_)
          have hL350 : ∀ (n : Nat), ∀ (z74 : Int32) (w : gW) (H : Heap) (locs : List Loc) (ls : Array Slot), f_M_lay_L350 g0 a0 p1 p2 p3 K399 n z74 w = some r → gI D s A w H locs → lv_has ls 12 [(0, .ref a0), (1, .int p1), (2, .int p2), (3, .int p3), (10, .int z74)] → W p l e rm_M_lay s m args below meth c H locs 0 0 Q (F0 m 350 ls []) := by
            intro n
            induction n with
            | zero => intro z74 w H locs ls h hI hl; exact absurd h (by simp [f_M_lay_L350])
            | succ n ih =>
              intro z74 w H locs ls h hI hl
              rw [f_M_lay_L350] at h
              refine lv_iload hx hb d_M_lay_350 (lv_at hl 4 rfl) ?_
              refine lv_aload_n hx hb d_M_lay_352 rfl (lv_at hl 0 rfl) ?_
              obtain ⟨v75, e76, h⟩ := gb h
              refine gw_getA hx hb hT hown hK hI (ci := 7) rfl i_7 21 (by decide) wd_807 (fun _ h9 => h9) e76 d_M_lay_353 ?_
              refine lv_iload_n hx hb d_M_lay_356 rfl (lv_at hl 1 rfl) ?_
              obtain ⟨v77, e78, h⟩ := gb h
              refine gw_aldI hx hb hK hI e78 d_M_lay_357 ?_
              refine lv_icmp_ge (tgt := 399) hx hb d_M_lay_358 (by decide) (fun c79 => ?_) (fun c79 => ?_)
              · skip
                have h := git c79 h
                exact hK399 w H locs ls h hI (lv_sub hl [] rfl)
              · skip
                have h := gie c79 h
                refine lv_aload_n hx hb d_M_lay_361 rfl (lv_at hl 0 rfl) ?_
                refine lv_iload_n hx hb d_M_lay_362 rfl (lv_at hl 1 rfl) ?_
                refine lv_iload hx hb d_M_lay_363 (lv_at hl 4 rfl) ?_
                refine lv_iload_n hx hb d_M_lay_365 rfl (lv_at hl 2 rfl) ?_
                refine lv_aload_n hx hb d_M_lay_366 rfl (lv_at hl 0 rfl) ?_
                obtain ⟨v80, e81, h⟩ := gb h
                refine gw_getA hx hb hT hown hK hI (ci := 7) rfl i_7 7 (by decide) wd_793 (fun _ h9 => h9) e81 d_M_lay_367 ?_
                refine lv_bipush (v := 8) hx hb d_M_lay_370 (by decide) ?_
                refine lv_iload_n hx hb d_M_lay_372 rfl (lv_at hl 3 rfl) ?_
                refine lv_imul hx hb d_M_lay_373 ?_
                refine lv_iload hx hb d_M_lay_374 (lv_at hl 4 rfl) ?_
                refine lv_iadd hx hb d_M_lay_376 ?_
                obtain ⟨v82, e83, h⟩ := gb h
                refine gw_aldJ hx hb hK hI e83 d_M_lay_377 ?_
                refine lv_aload_n hx hb d_M_lay_378 rfl (lv_at hl 0 rfl) ?_
                obtain ⟨v84, e85, h⟩ := gb h
                refine gw_getA hx hb hT hown hK hI (ci := 7) rfl i_7 8 (by decide) wd_794 (fun _ h9 => h9) e85 d_M_lay_379 ?_
                refine lv_bipush (v := 8) hx hb d_M_lay_382 (by decide) ?_
                refine lv_iload_n hx hb d_M_lay_384 rfl (lv_at hl 3 rfl) ?_
                refine lv_imul hx hb d_M_lay_385 ?_
                refine lv_iload hx hb d_M_lay_386 (lv_at hl 4 rfl) ?_
                refine lv_iadd hx hb d_M_lay_388 ?_
                obtain ⟨v86, e87, h⟩ := gb h
                refine gw_aldJ hx hb hK hI e87 d_M_lay_389 ?_
                obtain ⟨q90, e91, h⟩ := gb h
                obtain ⟨u88, e89⟩ := gsome h
                refine gw_callV e89 h (gw_runV (As := [.int p1, .int z74, .int p2, .long v82, .long v86]) (rest := []) hx hb hml hown hT hK hZ hA hI (ci := 7) rfl e91 (m_M_spot l hst D g0 a0 p1 z74 p2 v82 v86 w u88 e89) ce_M_spot wd_975 wd_27 ⟨by decide, by decide⟩ rfl rfl hl.1 rfl (lv_room (Nat.le_of_ble_eq_true rfl)) d_M_lay_390 ⟨(show 0 + 0 ≤ 0 by omega), (show 0 + 0 ≤ 0 by omega)⟩) hI hA hexc (show 0 + 0 ≤ 0 by omega) (show 0 + 0 ≤ 0 by omega) (fun v92 w H locs h hI => ?_)
                refine lv_iinc (v := z74 + 1) (lv' := [(10, .int (z74 + 1)), (0, .ref a0), (1, .int p1), (2, .int p2), (3, .int p3)]) hx hb d_M_lay_393 hl (k := 4) rfl rfl (by decide) rfl (fun ls hl => ?_)
                refine lv_goto (tgt := 350) hx hb d_M_lay_396 (by decide) ?_
                exact ih _ w H locs ls h hI (lv_sub hl [1, 2, 3, 4, 0] rfl)
          exact hL350 64 _ w H locs ls h hI (lv_sub hl [1, 2, 3, 4, 0] rfl)
        · skip
          have h := git c66 h
          refine lv_aload_n hx hb d_M_lay_253 rfl (lv_at hl 0 rfl) ?_
          obtain ⟨v93, e94, h⟩ := gb h
          refine gw_getA hx hb hT hown hK hI (ci := 7) rfl i_7 21 (by decide) wd_807 (fun _ h9 => h9) e94 d_M_lay_254 ?_
          refine lv_iload_n hx hb d_M_lay_257 rfl (lv_at hl 1 rfl) ?_
          refine lv_iconst (v := 4) hx hb d_M_lay_258 (by decide) ?_
          obtain ⟨w, e95, h⟩ := gb h
          refine gw_astI hx hb hK hI e95 d_M_lay_259 (fun H locs hI => ?_)
          refine lv_aload_n hx hb d_M_lay_260 rfl (lv_at hl 0 rfl) ?_
          refine lv_iload_n hx hb d_M_lay_261 rfl (lv_at hl 1 rfl) ?_
          refine lv_iconst (v := 0) hx hb d_M_lay_262 (by decide) ?_
          refine lv_iload_n hx hb d_M_lay_263 rfl (lv_at hl 2 rfl) ?_
          refine lv_lload hx hb d_M_lay_264 (lv_at hl 4 rfl) ?_
          refine lv_lload hx hb d_M_lay_266 (lv_at hl 5 rfl) ?_
          obtain ⟨q98, e99, h⟩ := gb h
          obtain ⟨u96, e97⟩ := gsome h
          refine gw_callV e97 h (gw_runV (As := [.int p1, .int 0, .int p2, .long v5, .long v10]) (rest := []) hx hb hml hown hT hK hZ hA hI (ci := 7) rfl e99 (m_M_spot l hst D g0 a0 p1 0 p2 v5 v10 w u96 e97) ce_M_spot wd_975 wd_27 ⟨by decide, by decide⟩ rfl rfl hl.1 rfl (lv_room (Nat.le_of_ble_eq_true rfl)) d_M_lay_268 ⟨(show 0 + 0 ≤ 0 by omega), (show 0 + 0 ≤ 0 by omega)⟩) hI hA hexc (show 0 + 0 ≤ 0 by omega) (show 0 + 0 ≤ 0 by omega) (fun v100 w H locs h hI => ?_)
          refine lv_aload_n hx hb d_M_lay_271 rfl (lv_at hl 0 rfl) ?_
          refine lv_iload_n hx hb d_M_lay_272 rfl (lv_at hl 1 rfl) ?_
          refine lv_iconst (v := 1) hx hb d_M_lay_273 (by decide) ?_
          refine lv_iload_n hx hb d_M_lay_274 rfl (lv_at hl 2 rfl) ?_
          refine lv_lload hx hb d_M_lay_275 (lv_at hl 4 rfl) ?_
          refine lv_aload_n hx hb d_M_lay_277 rfl (lv_at hl 0 rfl) ?_
          refine lv_iload_n hx hb d_M_lay_278 rfl (lv_at hl 3 rfl) ?_
          refine lv_iconst (v := 3) hx hb d_M_lay_279 (by decide) ?_
          obtain ⟨q103, e104, h⟩ := gb h
          obtain ⟨u101, e102⟩ := gsome h
          refine gw_callJ e102 h (gw_runV (As := [.int p3, .int 3]) (rest := [.long v5, .int p2, .int 1, .int p1, .ref a0]) hx hb hml hown hT hK hZ hA hI (ci := 7) rfl e104 (m_M_of l hst D g0 a0 p3 3 w u101 e102) ce_M_of wd_971 wd_26 ⟨by decide, by decide⟩ rfl rfl hl.1 rfl (lv_room (Nat.le_of_ble_eq_true rfl)) d_M_lay_280 ⟨(show 0 + 0 ≤ 0 by omega), (show 0 + 0 ≤ 0 by omega)⟩) hI hA hexc (show 0 + 0 ≤ 0 by omega) (show 0 + 0 ≤ 0 by omega) (fun v105 w H locs h hI => ?_)
          refine lv_ladd hx hb d_M_lay_283 ?_
          refine lv_lload hx hb d_M_lay_284 (lv_at hl 5 rfl) ?_
          obtain ⟨q108, e109, h⟩ := gb h
          obtain ⟨u106, e107⟩ := gsome h
          refine gw_callV e107 h (gw_runV (As := [.int p1, .int 1, .int p2, .long (v5 + v105), .long v10]) (rest := []) hx hb hml hown hT hK hZ hA hI (ci := 7) rfl e109 (m_M_spot l hst D g0 a0 p1 1 p2 (v5 + v105) v10 w u106 e107) ce_M_spot wd_975 wd_27 ⟨by decide, by decide⟩ rfl rfl hl.1 rfl (lv_room (Nat.le_of_ble_eq_true rfl)) d_M_lay_286 ⟨(show 0 + 0 ≤ 0 by omega), (show 0 + 0 ≤ 0 by omega)⟩) hI hA hexc (show 0 + 0 ≤ 0 by omega) (show 0 + 0 ≤ 0 by omega) (fun v110 w H locs h hI => ?_)
          refine lv_aload_n hx hb d_M_lay_289 rfl (lv_at hl 0 rfl) ?_
          refine lv_iload_n hx hb d_M_lay_290 rfl (lv_at hl 1 rfl) ?_
          refine lv_iconst (v := 2) hx hb d_M_lay_291 (by decide) ?_
          refine lv_iload_n hx hb d_M_lay_292 rfl (lv_at hl 2 rfl) ?_
          refine lv_lload hx hb d_M_lay_293 (lv_at hl 4 rfl) ?_
          refine lv_aload_n hx hb d_M_lay_295 rfl (lv_at hl 0 rfl) ?_
          refine lv_iload_n hx hb d_M_lay_296 rfl (lv_at hl 3 rfl) ?_
          refine lv_iconst (v := 3) hx hb d_M_lay_297 (by decide) ?_
          obtain ⟨q113, e114, h⟩ := gb h
          obtain ⟨u111, e112⟩ := gsome h
          refine gw_callJ e112 h (gw_runV (As := [.int p3, .int 3]) (rest := [.long v5, .int p2, .int 2, .int p1, .ref a0]) hx hb hml hown hT hK hZ hA hI (ci := 7) rfl e114 (m_M_of l hst D g0 a0 p3 3 w u111 e112) ce_M_of wd_971 wd_26 ⟨by decide, by decide⟩ rfl rfl hl.1 rfl (lv_room (Nat.le_of_ble_eq_true rfl)) d_M_lay_298 ⟨(show 0 + 0 ≤ 0 by omega), (show 0 + 0 ≤ 0 by omega)⟩) hI hA hexc (show 0 + 0 ≤ 0 by omega) (show 0 + 0 ≤ 0 by omega) (fun v115 w H locs h hI => ?_)
          refine lv_ladd hx hb d_M_lay_301 ?_
          refine lv_lload hx hb d_M_lay_302 (lv_at hl 5 rfl) ?_
          refine lv_aload_n hx hb d_M_lay_304 rfl (lv_at hl 0 rfl) ?_
          refine lv_iload_n hx hb d_M_lay_305 rfl (lv_at hl 3 rfl) ?_
          refine lv_iconst (v := 4) hx hb d_M_lay_306 (by decide) ?_
          obtain ⟨q118, e119, h⟩ := gb h
          obtain ⟨u116, e117⟩ := gsome h
          refine gw_callJ e117 h (gw_runV (As := [.int p3, .int 4]) (rest := [.long v10, .long (v5 + v115), .int p2, .int 2, .int p1, .ref a0]) hx hb hml hown hT hK hZ hA hI (ci := 7) rfl e119 (m_M_of l hst D g0 a0 p3 4 w u116 e117) ce_M_of wd_971 wd_26 ⟨by decide, by decide⟩ rfl rfl hl.1 rfl (lv_room (Nat.le_of_ble_eq_true rfl)) d_M_lay_307 ⟨(show 0 + 0 ≤ 0 by omega), (show 0 + 0 ≤ 0 by omega)⟩) hI hA hexc (show 0 + 0 ≤ 0 by omega) (show 0 + 0 ≤ 0 by omega) (fun v120 w H locs h hI => ?_)
          refine lv_ladd hx hb d_M_lay_310 ?_
          obtain ⟨q123, e124, h⟩ := gb h
          obtain ⟨u121, e122⟩ := gsome h
          refine gw_callV e122 h (gw_runV (As := [.int p1, .int 2, .int p2, .long (v5 + v115), .long (v10 + v120)]) (rest := []) hx hb hml hown hT hK hZ hA hI (ci := 7) rfl e124 (m_M_spot l hst D g0 a0 p1 2 p2 (v5 + v115) (v10 + v120) w u121 e122) ce_M_spot wd_975 wd_27 ⟨by decide, by decide⟩ rfl rfl hl.1 rfl (lv_room (Nat.le_of_ble_eq_true rfl)) d_M_lay_311 ⟨(show 0 + 0 ≤ 0 by omega), (show 0 + 0 ≤ 0 by omega)⟩) hI hA hexc (show 0 + 0 ≤ 0 by omega) (show 0 + 0 ≤ 0 by omega) (fun v125 w H locs h hI => ?_)
          refine lv_aload_n hx hb d_M_lay_314 rfl (lv_at hl 0 rfl) ?_
          refine lv_iload_n hx hb d_M_lay_315 rfl (lv_at hl 1 rfl) ?_
          refine lv_iconst (v := 3) hx hb d_M_lay_316 (by decide) ?_
          refine lv_iload_n hx hb d_M_lay_317 rfl (lv_at hl 2 rfl) ?_
          refine lv_lload hx hb d_M_lay_318 (lv_at hl 4 rfl) ?_
          refine lv_lload hx hb d_M_lay_320 (lv_at hl 5 rfl) ?_
          refine lv_aload_n hx hb d_M_lay_322 rfl (lv_at hl 0 rfl) ?_
          refine lv_iload_n hx hb d_M_lay_323 rfl (lv_at hl 3 rfl) ?_
          refine lv_iconst (v := 4) hx hb d_M_lay_324 (by decide) ?_
          obtain ⟨q128, e129, h⟩ := gb h
          obtain ⟨u126, e127⟩ := gsome h
          refine gw_callJ e127 h (gw_runV (As := [.int p3, .int 4]) (rest := [.long v10, .long v5, .int p2, .int 3, .int p1, .ref a0]) hx hb hml hown hT hK hZ hA hI (ci := 7) rfl e129 (m_M_of l hst D g0 a0 p3 4 w u126 e127) ce_M_of wd_971 wd_26 ⟨by decide, by decide⟩ rfl rfl hl.1 rfl (lv_room (Nat.le_of_ble_eq_true rfl)) d_M_lay_325 ⟨(show 0 + 0 ≤ 0 by omega), (show 0 + 0 ≤ 0 by omega)⟩) hI hA hexc (show 0 + 0 ≤ 0 by omega) (show 0 + 0 ≤ 0 by omega) (fun v130 w H locs h hI => ?_)
          refine lv_ladd hx hb d_M_lay_328 ?_
          obtain ⟨q133, e134, h⟩ := gb h
          obtain ⟨u131, e132⟩ := gsome h
          refine gw_callV e132 h (gw_runV (As := [.int p1, .int 3, .int p2, .long v5, .long (v10 + v130)]) (rest := []) hx hb hml hown hT hK hZ hA hI (ci := 7) rfl e134 (m_M_spot l hst D g0 a0 p1 3 p2 v5 (v10 + v130) w u131 e132) ce_M_spot wd_975 wd_27 ⟨by decide, by decide⟩ rfl rfl hl.1 rfl (lv_room (Nat.le_of_ble_eq_true rfl)) d_M_lay_329 ⟨(show 0 + 0 ≤ 0 by omega), (show 0 + 0 ≤ 0 by omega)⟩) hI hA hexc (show 0 + 0 ≤ 0 by omega) (show 0 + 0 ≤ 0 by omega) (fun v135 w H locs h hI => ?_)
          refine lv_goto (tgt := 399) hx hb d_M_lay_332 (by decide) ?_
          exact hK399 w H locs ls h hI (lv_sub hl [] rfl)
      · skip
        have h := git c61 h
        refine lv_aload_n hx hb d_M_lay_223 rfl (lv_at hl 0 rfl) ?_
        obtain ⟨v136, e137, h⟩ := gb h
        refine gw_getA hx hb hT hown hK hI (ci := 7) rfl i_7 21 (by decide) wd_807 (fun _ h9 => h9) e137 d_M_lay_224 ?_
        refine lv_iload_n hx hb d_M_lay_227 rfl (lv_at hl 1 rfl) ?_
        refine lv_iconst (v := 1) hx hb d_M_lay_228 (by decide) ?_
        obtain ⟨w, e138, h⟩ := gb h
        refine gw_astI hx hb hK hI e138 d_M_lay_229 (fun H locs hI => ?_)
        refine lv_aload_n hx hb d_M_lay_230 rfl (lv_at hl 0 rfl) ?_
        refine lv_iload_n hx hb d_M_lay_231 rfl (lv_at hl 1 rfl) ?_
        refine lv_iconst (v := 0) hx hb d_M_lay_232 (by decide) ?_
        refine lv_iload_n hx hb d_M_lay_233 rfl (lv_at hl 2 rfl) ?_
        refine lv_lload hx hb d_M_lay_234 (lv_at hl 4 rfl) ?_
        refine lv_lload hx hb d_M_lay_236 (lv_at hl 5 rfl) ?_
        obtain ⟨q141, e142, h⟩ := gb h
        obtain ⟨u139, e140⟩ := gsome h
        refine gw_callV e140 h (gw_runV (As := [.int p1, .int 0, .int p2, .long v5, .long v10]) (rest := []) hx hb hml hown hT hK hZ hA hI (ci := 7) rfl e142 (m_M_spot l hst D g0 a0 p1 0 p2 v5 v10 w u139 e140) ce_M_spot wd_975 wd_27 ⟨by decide, by decide⟩ rfl rfl hl.1 rfl (lv_room (Nat.le_of_ble_eq_true rfl)) d_M_lay_238 ⟨(show 0 + 0 ≤ 0 by omega), (show 0 + 0 ≤ 0 by omega)⟩) hI hA hexc (show 0 + 0 ≤ 0 by omega) (show 0 + 0 ≤ 0 by omega) (fun v143 w H locs h hI => ?_)
        refine lv_goto (tgt := 399) hx hb d_M_lay_241 (by decide) ?_
        exact hK399 w H locs ls h hI (lv_sub hl [] rfl)
    · skip
      have h := git c36 h
      refine lv_aload_n hx hb d_M_lay_71 rfl (lv_at hl 0 rfl) ?_
      refine lv_iload_n hx hb d_M_lay_72 rfl (lv_at hl 3 rfl) ?_
      refine lv_iconst (v := 5) hx hb d_M_lay_73 (by decide) ?_
      obtain ⟨q146, e147, h⟩ := gb h
      obtain ⟨u144, e145⟩ := gsome h
      refine gw_callJ e145 h (gw_runV (As := [.int p3, .int 5]) (rest := []) hx hb hml hown hT hK hZ hA hI (ci := 7) rfl e147 (m_M_of l hst D g0 a0 p3 5 w u144 e145) ce_M_of wd_971 wd_26 ⟨by decide, by decide⟩ rfl rfl hl.1 rfl (lv_room (Nat.le_of_ble_eq_true rfl)) d_M_lay_74 ⟨(show 0 + 0 ≤ 0 by omega), (show 0 + 0 ≤ 0 by omega)⟩) hI hA hexc (show 0 + 0 ≤ 0 by omega) (show 0 + 0 ≤ 0 by omega) (fun v148 w H locs h hI => ?_)
      refine lv_lstore (lv' := [(10, .long v148), (0, .ref a0), (1, .int p1), (2, .int p2), (3, .int p3), (4, .long v5), (6, .long v10), (8, .long v15)]) hx hb d_M_lay_77 hl (by decide) rfl (fun ls hl => ?_)
      refine lv_aload_n hx hb d_M_lay_79 rfl (lv_at hl 1 rfl) ?_
      obtain ⟨v149, e150, h⟩ := gb h
      refine gw_getA hx hb hT hown hK hI (ci := 7) rfl i_7 21 (by decide) wd_807 (fun _ h9 => h9) e150 d_M_lay_80 ?_
      refine lv_iload_n hx hb d_M_lay_83 rfl (lv_at hl 2 rfl) ?_
      refine lv_iconst (v := 2) hx hb d_M_lay_84 (by decide) ?_
      obtain ⟨w, e151, h⟩ := gb h
      refine gw_astI hx hb hK hI e151 d_M_lay_85 (fun H locs hI => ?_)
      refine lv_aload_n hx hb d_M_lay_86 rfl (lv_at hl 1 rfl) ?_
      refine lv_iload_n hx hb d_M_lay_87 rfl (lv_at hl 2 rfl) ?_
      refine lv_iconst (v := 0) hx hb d_M_lay_88 (by decide) ?_
      refine lv_iload_n hx hb d_M_lay_89 rfl (lv_at hl 3 rfl) ?_
      refine lv_lload hx hb d_M_lay_90 (lv_at hl 5 rfl) ?_
      refine lv_lload hx hb d_M_lay_92 (lv_at hl 6 rfl) ?_
      obtain ⟨q154, e155, h⟩ := gb h
      obtain ⟨u152, e153⟩ := gsome h
      refine gw_callV e153 h (gw_runV (As := [.int p1, .int 0, .int p2, .long v5, .long v10]) (rest := []) hx hb hml hown hT hK hZ hA hI (ci := 7) rfl e155 (m_M_spot l hst D g0 a0 p1 0 p2 v5 v10 w u152 e153) ce_M_spot wd_975 wd_27 ⟨by decide, by decide⟩ rfl rfl hl.1 rfl (lv_room (Nat.le_of_ble_eq_true rfl)) d_M_lay_94 ⟨(show 0 + 0 ≤ 0 by omega), (show 0 + 0 ≤ 0 by omega)⟩) hI hA hexc (show 0 + 0 ≤ 0 by omega) (show 0 + 0 ≤ 0 by omega) (fun v156 w H locs h hI => ?_)
      refine lv_aload_n hx hb d_M_lay_97 rfl (lv_at hl 1 rfl) ?_
      refine lv_iload_n hx hb d_M_lay_98 rfl (lv_at hl 2 rfl) ?_
      refine lv_iconst (v := 1) hx hb d_M_lay_99 (by decide) ?_
      refine lv_iload_n hx hb d_M_lay_100 rfl (lv_at hl 3 rfl) ?_
      refine lv_aload_n hx hb d_M_lay_101 rfl (lv_at hl 1 rfl) ?_
      refine lv_iload_n hx hb d_M_lay_102 rfl (lv_at hl 4 rfl) ?_
      refine lv_iconst (v := 4) hx hb d_M_lay_103 (by decide) ?_
      obtain ⟨q159, e160, h⟩ := gb h
      obtain ⟨u157, e158⟩ := gsome h
      refine gw_callJ e158 h (gw_runV (As := [.int p3, .int 4]) (rest := [.int p2, .int 1, .int p1, .ref a0]) hx hb hml hown hT hK hZ hA hI (ci := 7) rfl e160 (m_M_of l hst D g0 a0 p3 4 w u157 e158) ce_M_of wd_971 wd_26 ⟨by decide, by decide⟩ rfl rfl hl.1 rfl (lv_room (Nat.le_of_ble_eq_true rfl)) d_M_lay_104 ⟨(show 0 + 0 ≤ 0 by omega), (show 0 + 0 ≤ 0 by omega)⟩) hI hA hexc (show 0 + 0 ≤ 0 by omega) (show 0 + 0 ≤ 0 by omega) (fun v161 w H locs h hI => ?_)
      refine lv_lconst (v := 0) hx hb d_M_lay_107 (by decide) ?_
      refine W.lcmp hx hb d_M_lay_108 ?_
      obtain ⟨K122, eK122, h⟩ := gj h
      have hK122 : ∀ (y162 : Int64) (w : gW) (H : Heap) (locs : List Loc) (ls : Array Slot), K122 y162 w = some r → gI D s A w H locs → lv_has ls 12 [(0, .ref a0), (1, .int p1), (2, .int p2), (3, .int p3), (6, .long v10), (8, .long v15), (10, .long v148)] → W p l e rm_M_lay s m args below meth c H locs 0 0 Q (F0 m 122 ls [.long y162, .int p2, .int 1, .int p1, .ref a0]) := by
        intro y162 w H locs ls h hI hl
        have h := gk2 eK122 h
        refine lv_aload_n hx hb d_M_lay_122 rfl (lv_at hl 0 rfl) ?_
        refine lv_iload_n hx hb d_M_lay_123 rfl (lv_at hl 3 rfl) ?_
        refine lv_iconst (v := 4) hx hb d_M_lay_124 (by decide) ?_
        obtain ⟨q165, e166, h⟩ := gb h
        obtain ⟨u163, e164⟩ := gsome h
        refine gw_callJ e164 h (gw_runV (As := [.int p3, .int 4]) (rest := [.long y162, .int p2, .int 1, .int p1, .ref a0]) hx hb hml hown hT hK hZ hA hI (ci := 7) rfl e166 (m_M_of l hst D g0 a0 p3 4 w u163 e164) ce_M_of wd_971 wd_26 ⟨by decide, by decide⟩ rfl rfl hl.1 rfl (lv_room (Nat.le_of_ble_eq_true rfl)) d_M_lay_125 ⟨(show 0 + 0 ≤ 0 by omega), (show 0 + 0 ≤ 0 by omega)⟩) hI hA hexc (show 0 + 0 ≤ 0 by omega) (show 0 + 0 ≤ 0 by omega) (fun v167 w H locs h hI => ?_)
        refine lv_lconst (v := 1) hx hb d_M_lay_128 (by decide) ?_
        refine W.lcmp hx hb d_M_lay_129 ?_
        obtain ⟨K143, eK143, h⟩ := gj h
        have hK143 : ∀ (y168 : Int64) (w : gW) (H : Heap) (locs : List Loc) (ls : Array Slot), K143 y168 w = some r → gI D s A w H locs → lv_has ls 12 [(0, .ref a0), (1, .int p1), (2, .int p2), (3, .int p3), (8, .long v15), (10, .long v148)] → W p l e rm_M_lay s m args below meth c H locs 0 0 Q (F0 m 143 ls [.long y168, .long y162, .int p2, .int 1, .int p1, .ref a0]) := by
          intro y168 w H locs ls h hI hl
          have h := gk2 eK143 h
          obtain ⟨q171, e172, h⟩ := gb h
          obtain ⟨u169, e170⟩ := gsome h
          refine gw_callV e170 h (gw_runV (As := [.int p1, .int 1, .int p2, .long y162, .long y168]) (rest := []) hx hb hml hown hT hK hZ hA hI (ci := 7) rfl e172 (m_M_spot l hst D g0 a0 p1 1 p2 y162 y168 w u169 e170) ce_M_spot wd_975 wd_27 ⟨by decide, by decide⟩ rfl rfl hl.1 rfl (lv_room (Nat.le_of_ble_eq_true rfl)) d_M_lay_143 ⟨(show 0 + 0 ≤ 0 by omega), (show 0 + 0 ≤ 0 by omega)⟩) hI hA hexc (show 0 + 0 ≤ 0 by omega) (show 0 + 0 ≤ 0 by omega) (fun v173 w H locs h hI => ?_)
          refine lv_aload_n hx hb d_M_lay_146 rfl (lv_at hl 0 rfl) ?_
          refine lv_iload_n hx hb d_M_lay_147 rfl (lv_at hl 1 rfl) ?_
          refine lv_aload_n hx hb d_M_lay_148 rfl (lv_at hl 0 rfl) ?_
          refine lv_iload_n hx hb d_M_lay_149 rfl (lv_at hl 2 rfl) ?_
          refine lv_lload hx hb d_M_lay_150 (lv_at hl 4 rfl) ?_
          obtain ⟨q176, e177, h⟩ := gb h
          obtain ⟨u174, e175⟩ := gsome h
          refine gw_callJ e175 h (gw_runV (As := [.int p2, .long v15]) (rest := [.int p1, .ref a0]) hx hb hml hown hT hK hZ hA hI (ci := 7) rfl e177 (m_M_zOf l hst D g0 a0 p2 v15 w u174 e175) ce_M_zOf wd_991 wd_31 ⟨by decide, by decide⟩ rfl rfl hl.1 rfl (lv_room (Nat.le_of_ble_eq_true rfl)) d_M_lay_152 ⟨(show 0 + 0 ≤ 0 by omega), (show 0 + 0 ≤ 0 by omega)⟩) hI hA hexc (show 0 + 0 ≤ 0 by omega) (show 0 + 0 ≤ 0 by omega) (fun v178 w H locs h hI => ?_)
          refine lv_aload_n hx hb d_M_lay_155 rfl (lv_at hl 0 rfl) ?_
          refine lv_iload_n hx hb d_M_lay_156 rfl (lv_at hl 2 rfl) ?_
          refine lv_aload_n hx hb d_M_lay_157 rfl (lv_at hl 0 rfl) ?_
          refine lv_iload_n hx hb d_M_lay_158 rfl (lv_at hl 3 rfl) ?_
          refine lv_iconst (v := 4) hx hb d_M_lay_159 (by decide) ?_
          obtain ⟨q181, e182, h⟩ := gb h
          obtain ⟨u179, e180⟩ := gsome h
          refine gw_callJ e180 h (gw_runV (As := [.int p3, .int 4]) (rest := [.int p2, .ref a0, .long v178, .int p1, .ref a0]) hx hb hml hown hT hK hZ hA hI (ci := 7) rfl e182 (m_M_of l hst D g0 a0 p3 4 w u179 e180) ce_M_of wd_971 wd_26 ⟨by decide, by decide⟩ rfl rfl hl.1 rfl (lv_room (Nat.le_of_ble_eq_true rfl)) d_M_lay_160 ⟨(show 0 + 0 ≤ 0 by omega), (show 0 + 0 ≤ 0 by omega)⟩) hI hA hexc (show 0 + 0 ≤ 0 by omega) (show 0 + 0 ≤ 0 by omega) (fun v183 w H locs h hI => ?_)
          refine lv_ldc2 (v := 2) hx hb hown (hT _ wd_995 args) d_M_lay_163 ?_
          refine W.lcmp hx hb d_M_lay_166 ?_
          obtain ⟨K180, eK180, h⟩ := gj h
          have hK180 : ∀ (y184 : Int64) (w : gW) (H : Heap) (locs : List Loc) (ls : Array Slot), K180 y184 w = some r → gI D s A w H locs → lv_has ls 12 [] → W p l e rm_M_lay s m args below meth c H locs 0 0 Q (F0 m 180 ls [.long y184, .int p2, .ref a0, .long v178, .int p1, .ref a0]) := by
            intro y184 w H locs ls h hI hl
            have h := gk2 eK180 h
            obtain ⟨q187, e188, h⟩ := gb h
            obtain ⟨u185, e186⟩ := gsome h
            refine gw_callJ e186 h (gw_runV (As := [.int p2, .long y184]) (rest := [.long v178, .int p1, .ref a0]) hx hb hml hown hT hK hZ hA hI (ci := 7) rfl e188 (m_M_zOf l hst D g0 a0 p2 y184 w u185 e186) ce_M_zOf wd_991 wd_31 ⟨by decide, by decide⟩ rfl rfl hl.1 rfl (lv_room (Nat.le_of_ble_eq_true rfl)) d_M_lay_180 ⟨(show 0 + 0 ≤ 0 by omega), (show 0 + 0 ≤ 0 by omega)⟩) hI hA hexc (show 0 + 0 ≤ 0 by omega) (show 0 + 0 ≤ 0 by omega) (fun v189 w H locs h hI => ?_)
            obtain ⟨q192, e193, h⟩ := gb h
            obtain ⟨u190, e191⟩ := gsome h
            refine gw_callV e191 h (gw_runV (As := [.int p1, .long v178, .long v189]) (rest := []) hx hb hml hown hT hK hZ hA hI (ci := 7) rfl e193 (m_M_heights l hst D g0 a0 p1 v178 v189 w u190 e191) ce_M_heights wd_996 wd_32 ⟨by decide, by decide⟩ rfl rfl hl.1 rfl (lv_room (Nat.le_of_ble_eq_true rfl)) d_M_lay_183 ⟨(show 0 + 0 ≤ 0 by omega), (show 0 + 0 ≤ 0 by omega)⟩) hI hA hexc (show 0 + 0 ≤ 0 by omega) (show 0 + 0 ≤ 0 by omega) (fun v194 w H locs h hI => ?_)
            exact W.widen (show 0 ≤ 0 by omega) (show 0 ≤ 0 by omega) (hret _ _ (Option.some.inj h).symm _ _ _ _ d_M_lay_186 hI)
          refine lv_if_ne (tgt := 178) hx hb d_M_lay_167 (by decide) (fun c195 => ?_) (fun c195 => ?_)
          · have c195 := mt (lg_cmp_eq _ _).mpr c195
            have h := gie c195 h
            refine lv_lload hx hb d_M_lay_178 (lv_at hl 4 rfl) ?_
            exact hK180 _ w H locs ls h hI (lv_sub hl [] rfl)
          · have c195 := (lg_cmp_eq _ _).mp c195
            have h := git c195 h
            refine lv_lload hx hb d_M_lay_170 (lv_at hl 4 rfl) ?_
            refine lv_lload hx hb d_M_lay_172 (lv_at hl 5 rfl) ?_
            refine lv_ladd hx hb d_M_lay_174 ?_
            refine lv_goto (tgt := 180) hx hb d_M_lay_175 (by decide) ?_
            exact hK180 _ w H locs ls h hI (lv_sub hl [] rfl)
        refine lv_if_ne (tgt := 141) hx hb d_M_lay_130 (by decide) (fun c196 => ?_) (fun c196 => ?_)
        · have c196 := mt (lg_cmp_eq _ _).mpr c196
          have h := gie c196 h
          refine lv_lload hx hb d_M_lay_141 (lv_at hl 4 rfl) ?_
          exact hK143 _ w H locs ls h hI (lv_sub hl [0, 1, 2, 3, 5, 6] rfl)
        · have c196 := (lg_cmp_eq _ _).mp c196
          have h := git c196 h
          refine lv_lload hx hb d_M_lay_133 (lv_at hl 4 rfl) ?_
          refine lv_lload hx hb d_M_lay_135 (lv_at hl 6 rfl) ?_
          refine lv_ladd hx hb d_M_lay_137 ?_
          refine lv_goto (tgt := 143) hx hb d_M_lay_138 (by decide) ?_
          exact hK143 _ w H locs ls h hI (lv_sub hl [0, 1, 2, 3, 5, 6] rfl)
      refine lv_if_ne (tgt := 120) hx hb d_M_lay_109 (by decide) (fun c197 => ?_) (fun c197 => ?_)
      · have c197 := mt (lg_cmp_eq _ _).mpr c197
        have h := gie c197 h
        refine lv_lload hx hb d_M_lay_120 (lv_at hl 5 rfl) ?_
        exact hK122 _ w H locs ls h hI (lv_sub hl [1, 2, 3, 4, 6, 7, 0] rfl)
      · have c197 := (lg_cmp_eq _ _).mp c197
        have h := git c197 h
        refine lv_lload hx hb d_M_lay_112 (lv_at hl 5 rfl) ?_
        refine lv_lload hx hb d_M_lay_114 (lv_at hl 0 rfl) ?_
        refine lv_ladd hx hb d_M_lay_116 ?_
        refine lv_goto (tgt := 122) hx hb d_M_lay_117 (by decide) ?_
        exact hK122 _ w H locs ls h hI (lv_sub hl [1, 2, 3, 4, 6, 7, 0] rfl)
  refine lv_if_ne (tgt := 42) hx hb d_M_lay_35 (by decide) (fun c198 => ?_) (fun c198 => ?_)
  · skip
    have h := gie c198 h
    refine lv_aload_n hx hb d_M_lay_42 rfl (lv_at hl 3 rfl) ?_
    obtain ⟨v199, e200, h⟩ := gb h
    refine gw_getA hx hb hT hown hK hI (ci := 7) rfl i_7 4 (by decide) wd_790 (fun _ h9 => h9) e200 d_M_lay_43 ?_
    refine lv_iload_n hx hb d_M_lay_46 rfl (lv_at hl 6 rfl) ?_
    obtain ⟨v201, e202, h⟩ := gb h
    refine gw_aldI hx hb hK hI e202 d_M_lay_47 ?_
    exact hK48 _ w H locs ls h hI (lv_sub hl [3, 4, 5, 6, 2, 1, 0] rfl)
  · skip
    have h := git c198 h
    refine lv_iconst (v := 2) hx hb d_M_lay_38 (by decide) ?_
    refine lv_goto (tgt := 48) hx hb d_M_lay_39 (by decide) ?_
    exact hK48 _ w H locs ls h hI (lv_sub hl [3, 4, 5, 6, 2, 1, 0] rfl)
