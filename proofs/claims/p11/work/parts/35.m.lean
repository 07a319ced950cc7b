abbrev b_M_isPlaced : ByteArray := prog_9_method_6_code
def y_M_isPlaced : MethodName := ⟨"BodySolidsModel", "isPlaced", "(I)Z"⟩
theorem d_M_isPlaced_0 : decode b_M_isPlaced 0 = .ok (.iload_n 1, 1) := by decide +kernel
theorem d_M_isPlaced_1 : decode b_M_isPlaced 1 = .ok (.ifCond .lt 15, 3) := by decide +kernel
theorem d_M_isPlaced_4 : decode b_M_isPlaced 4 = .ok (.iload_n 1, 1) := by decide +kernel
theorem d_M_isPlaced_5 : decode b_M_isPlaced 5 = .ok (.aload_n 0, 1) := by decide +kernel
theorem d_M_isPlaced_6 : decode b_M_isPlaced 6 = .ok (.getfield 95, 3) := by decide +kernel
theorem d_M_isPlaced_9 : decode b_M_isPlaced 9 = .ok (.if_icmp .ge 7, 3) := by decide +kernel
theorem d_M_isPlaced_12 : decode b_M_isPlaced 12 = .ok (.iconst 1, 1) := by decide +kernel
theorem d_M_isPlaced_13 : decode b_M_isPlaced 13 = .ok (.goto 4, 3) := by decide +kernel
theorem d_M_isPlaced_16 : decode b_M_isPlaced 16 = .ok (.iconst 0, 1) := by decide +kernel
theorem d_M_isPlaced_17 : decode b_M_isPlaced 17 = .ok (.ireturn, 1) := by decide +kernel
abbrev rm_M_isPlaced : Room := { frames := 0, cells := 0, slots := 0, locals := 0 }
theorem ce_M_isPlaced : gCe y_M_isPlaced (.code y_M_isPlaced b_M_isPlaced 2 (some .boolean)) 2 1 false := gCe.code wd_958 wd_57 wd_957 (by decide) (by decide +kernel)
def f_M_isPlaced (g0 : gG) (a0 : Nat) (p1 : Int32) (w : gW) : gX Int32 := gjoin (fun K17 => gjoin (fun K16 => if p1 < 0 then (K16 w) else ((gfI w a0 7 12).bind fun v4 => if v4 ≤ p1 then (K16 w) else (K17 1 w))) (fun (w : gW) => K17 0 w)) (fun (y1 : Int32) (w : gW) => gguard (y1 = 0 ∨ y1 = 1) (some (.inr y1, w)))
set_option maxHeartbeats 4000000 in
set_option maxRecDepth 100000 in
theorem m_M_isPlaced (l : Launch) (hst : l.stackTraces = false) (D : gD) (g0 : gG) (a0 : Nat) (p1 : Int32) (w : gW) (r : (String ⊕ Int32) × gW) (h : f_M_isPlaced g0 a0 p1 w = some r) : gMet l y_M_isPlaced (.code y_M_isPlaced b_M_isPlaced 2 (some .boolean)) rm_M_isPlaced D g0 [.ref a0, .int p1] w (goI r) := by
  refine gw_ofZ (by decide +kernel) (Nat.le_of_ble_eq_true rfl) ?_
  intro p e s m below meth c ls args A Q hx hb hml hown hlocks hin hnt hT hK hZ hA hret hexc hthr hI hl
  obtain ⟨H, hH⟩ : ∃ H, H = s.heap := ⟨_, rfl⟩
  rw [← hH] at hI ⊢
  obtain ⟨locs, hlocs⟩ : ∃ z : List Loc, z = [] := ⟨_, rfl⟩
  rw [← hlocs] at hI ⊢
  have hl : lv_has ls 2 [(0, .ref a0), (1, .int p1)] := hl
  unfold f_M_isPlaced at h
  refine lv_iload_n hx hb d_M_isPlaced_0 rfl (lv_at hl 1 rfl) ?_
  obtain ⟨K17, eK17, h⟩ := gj h
  have hK17 : ∀ (y1 : Int32) (w : gW) (H : Heap) (locs : List Loc) (ls : Array Slot), K17 y1 w = some r → gI D s A w H locs → lv_has ls 2 [] → W p l e rm_M_isPlaced s m args below meth c H locs 0 0 Q (F0 m 17 ls [.int y1]) := by
    intro y1 w H locs ls h hI hl
    have h := gk2 eK17 h
    obtain ⟨g2, h⟩ := gif h
    exact W.widen (show 0 ≤ 0 by omega) (show 0 ≤ 0 by omega) (hret g2 0 _ (Option.some.inj h).symm _ _ _ _ d_M_isPlaced_17 hI)
  obtain ⟨K16, eK16, h⟩ := gj h
  have hK16 : ∀ (w : gW) (H : Heap) (locs : List Loc) (ls : Array Slot), K16 w = some r → gI D s A w H locs → lv_has ls 2 [] → W p l e rm_M_isPlaced s m args below meth c H locs 0 0 Q (F0 m 16 ls []) := by
    intro w H locs ls h hI hl
    have h := gk1 eK16 h
    refine lv_iconst (v := 0) hx hb d_M_isPlaced_16 (by decide) ?_
    exact hK17 _ w H locs ls h hI (lv_sub hl [] rfl)
  refine lv_if_lt (tgt := 16) hx hb d_M_isPlaced_1 (by decide) (fun c3 => ?_) (fun c3 => ?_)
  · skip
    have h := git c3 h
    exact hK16 w H locs ls h hI (lv_sub hl [] rfl)
  · skip
    have h := gie c3 h
    refine lv_iload_n hx hb d_M_isPlaced_4 rfl (lv_at hl 1 rfl) ?_
    refine lv_aload_n hx hb d_M_isPlaced_5 rfl (lv_at hl 0 rfl) ?_
    obtain ⟨v4, e5, h⟩ := gb h
    refine gw_getI hx hb hT hown hK hI (ci := 7) rfl i_7 12 (by decide) wd_798 (fun _ h9 => h9) e5 d_M_isPlaced_6 ?_
    refine lv_icmp_ge (tgt := 16) hx hb d_M_isPlaced_9 (by decide) (fun c6 => ?_) (fun c6 => ?_)
    · skip
      have h := git c6 h
      exact hK16 w H locs ls h hI (lv_sub hl [] rfl)
    · skip
      have h := gie c6 h
      refine lv_iconst (v := 1) hx hb d_M_isPlaced_12 (by decide) ?_
      refine lv_goto (tgt := 17) hx hb d_M_isPlaced_13 (by decide) ?_
      exact hK17 _ w H locs ls h hI (lv_sub hl [] rfl)

abbrev b_M_of : ByteArray := prog_9_method_10_code
def y_M_of : MethodName := ⟨"BodySolidsModel", "of", "(II)J"⟩
theorem d_M_of_0 : decode b_M_of 0 = .ok (.aload_n 0, 1) := by decide +kernel
theorem d_M_of_1 : decode b_M_of 1 = .ok (.getfield 16, 3) := by decide +kernel
theorem d_M_of_4 : decode b_M_of 4 = .ok (.bipush 6, 2) := by decide +kernel
theorem d_M_of_6 : decode b_M_of 6 = .ok (.iload_n 1, 1) := by decide +kernel
theorem d_M_of_7 : decode b_M_of 7 = .ok (.imul, 1) := by decide +kernel
theorem d_M_of_8 : decode b_M_of 8 = .ok (.iload_n 2, 1) := by decide +kernel
theorem d_M_of_9 : decode b_M_of 9 = .ok (.iadd, 1) := by decide +kernel
theorem d_M_of_10 : decode b_M_of 10 = .ok (.laload, 1) := by decide +kernel
theorem d_M_of_11 : decode b_M_of 11 = .ok (.lreturn, 1) := by decide +kernel
abbrev rm_M_of : Room := { frames := 0, cells := 0, slots := 0, locals := 0 }
theorem ce_M_of : gCe y_M_of (.code y_M_of b_M_of 3 (some .long)) 3 2 false := gCe.code wd_974 wd_57 wd_973 (by decide) (by decide +kernel)
def f_M_of (g0 : gG) (a0 : Nat) (p1 : Int32) (p2 : Int32) (w : gW) : gX Int64 := (gfA w a0 7 5).bind fun v1 => (gaJ w v1 ((6 * p1) + p2)).bind fun v3 => some (.inr v3, w)
set_option maxHeartbeats 4000000 in
set_option maxRecDepth 100000 in
theorem m_M_of (l : Launch) (hst : l.stackTraces = false) (D : gD) (g0 : gG) (a0 : Nat) (p1 : Int32) (p2 : Int32) (w : gW) (r : (String ⊕ Int64) × gW) (h : f_M_of g0 a0 p1 p2 w = some r) : gMet l y_M_of (.code y_M_of b_M_of 3 (some .long)) rm_M_of D g0 [.ref a0, .int p1, .int p2] w (goJ r) := by
  refine gw_ofJ (by decide +kernel) (Nat.le_of_ble_eq_true rfl) ?_
  intro p e s m below meth c ls args A Q hx hb hml hown hlocks hin hnt hT hK hZ hA hret hexc hthr hI hl
  obtain ⟨H, hH⟩ : ∃ H, H = s.heap := ⟨_, rfl⟩
  rw [← hH] at hI ⊢
  obtain ⟨locs, hlocs⟩ : ∃ z : List Loc, z = [] := ⟨_, rfl⟩
  rw [← hlocs] at hI ⊢
  have hl : lv_has ls 3 [(0, .ref a0), (1, .int p1), (2, .int p2)] := hl
  unfold f_M_of at h
  refine lv_aload_n hx hb d_M_of_0 rfl (lv_at hl 0 rfl) ?_
  obtain ⟨v1, e2, h⟩ := gb h
  refine gw_getA hx hb hT hown hK hI (ci := 7) rfl i_7 5 (by decide) wd_791 (fun _ h9 => h9) e2 d_M_of_1 ?_
  refine lv_bipush (v := 6) hx hb d_M_of_4 (by decide) ?_
  refine lv_iload_n hx hb d_M_of_6 rfl (lv_at hl 1 rfl) ?_
  refine lv_imul hx hb d_M_of_7 ?_
  refine lv_iload_n hx hb d_M_of_8 rfl (lv_at hl 2 rfl) ?_
  refine lv_iadd hx hb d_M_of_9 ?_
  obtain ⟨v3, e4, h⟩ := gb h
  refine gw_aldJ hx hb hK hI e4 d_M_of_10 ?_
  exact W.widen (show 0 ≤ 0 by omega) (show 0 ≤ 0 by omega) (hret _ _ (Option.some.inj h).symm _ _ _ _ d_M_of_11 hI)

abbrev b_M_xOf : ByteArray := prog_9_method_26_code
def y_M_xOf : MethodName := ⟨"BodySolidsModel", "xOf", "(IJJ)J"⟩
theorem d_M_xOf_0 : decode b_M_xOf 0 = .ok (.aload_n 0, 1) := by decide +kernel
theorem d_M_xOf_1 : decode b_M_xOf 1 = .ok (.getfield 47, 3) := by decide +kernel
theorem d_M_xOf_4 : decode b_M_xOf 4 = .ok (.iload_n 1, 1) := by decide +kernel
theorem d_M_xOf_5 : decode b_M_xOf 5 = .ok (.iaload, 1) := by decide +kernel
theorem d_M_xOf_6 : decode b_M_xOf 6 = .ok (.iconst 1, 1) := by decide +kernel
theorem d_M_xOf_7 : decode b_M_xOf 7 = .ok (.if_icmp .ne 9, 3) := by decide +kernel
theorem d_M_xOf_10 : decode b_M_xOf 10 = .ok (.lconst 0, 1) := by decide +kernel
theorem d_M_xOf_11 : decode b_M_xOf 11 = .ok (.lload_n 2, 1) := by decide +kernel
theorem d_M_xOf_12 : decode b_M_xOf 12 = .ok (.lsub, 1) := by decide +kernel
theorem d_M_xOf_13 : decode b_M_xOf 13 = .ok (.goto 4, 3) := by decide +kernel
theorem d_M_xOf_16 : decode b_M_xOf 16 = .ok (.lload_n 2, 1) := by decide +kernel
theorem d_M_xOf_17 : decode b_M_xOf 17 = .ok (.lstore 6, 2) := by decide +kernel
theorem d_M_xOf_19 : decode b_M_xOf 19 = .ok (.aload_n 0, 1) := by decide +kernel
theorem d_M_xOf_20 : decode b_M_xOf 20 = .ok (.getfield 44, 3) := by decide +kernel
theorem d_M_xOf_23 : decode b_M_xOf 23 = .ok (.iload_n 1, 1) := by decide +kernel
theorem d_M_xOf_24 : decode b_M_xOf 24 = .ok (.iaload, 1) := by decide +kernel
theorem d_M_xOf_25 : decode b_M_xOf 25 = .ok (.tableswitch 57 0 2 #[27, 37, 47], 27) := by decide +kernel
theorem d_M_xOf_52 : decode b_M_xOf 52 = .ok (.aload_n 0, 1) := by decide +kernel
theorem d_M_xOf_53 : decode b_M_xOf 53 = .ok (.getfield 38, 3) := by decide +kernel
theorem d_M_xOf_56 : decode b_M_xOf 56 = .ok (.iload_n 1, 1) := by decide +kernel
theorem d_M_xOf_57 : decode b_M_xOf 57 = .ok (.laload, 1) := by decide +kernel
theorem d_M_xOf_58 : decode b_M_xOf 58 = .ok (.lload 6, 2) := by decide +kernel
theorem d_M_xOf_60 : decode b_M_xOf 60 = .ok (.ladd, 1) := by decide +kernel
theorem d_M_xOf_61 : decode b_M_xOf 61 = .ok (.lreturn, 1) := by decide +kernel
theorem d_M_xOf_62 : decode b_M_xOf 62 = .ok (.aload_n 0, 1) := by decide +kernel
theorem d_M_xOf_63 : decode b_M_xOf 63 = .ok (.getfield 38, 3) := by decide +kernel
theorem d_M_xOf_66 : decode b_M_xOf 66 = .ok (.iload_n 1, 1) := by decide +kernel
theorem d_M_xOf_67 : decode b_M_xOf 67 = .ok (.laload, 1) := by decide +kernel
theorem d_M_xOf_68 : decode b_M_xOf 68 = .ok (.lload 4, 2) := by decide +kernel
theorem d_M_xOf_70 : decode b_M_xOf 70 = .ok (.lsub, 1) := by decide +kernel
theorem d_M_xOf_71 : decode b_M_xOf 71 = .ok (.lreturn, 1) := by decide +kernel
theorem d_M_xOf_72 : decode b_M_xOf 72 = .ok (.aload_n 0, 1) := by decide +kernel
theorem d_M_xOf_73 : decode b_M_xOf 73 = .ok (.getfield 38, 3) := by decide +kernel
theorem d_M_xOf_76 : decode b_M_xOf 76 = .ok (.iload_n 1, 1) := by decide +kernel
theorem d_M_xOf_77 : decode b_M_xOf 77 = .ok (.laload, 1) := by decide +kernel
theorem d_M_xOf_78 : decode b_M_xOf 78 = .ok (.lload 6, 2) := by decide +kernel
theorem d_M_xOf_80 : decode b_M_xOf 80 = .ok (.lsub, 1) := by decide +kernel
theorem d_M_xOf_81 : decode b_M_xOf 81 = .ok (.lreturn, 1) := by decide +kernel
theorem d_M_xOf_82 : decode b_M_xOf 82 = .ok (.aload_n 0, 1) := by decide +kernel
theorem d_M_xOf_83 : decode b_M_xOf 83 = .ok (.getfield 38, 3) := by decide +kernel
theorem d_M_xOf_86 : decode b_M_xOf 86 = .ok (.iload_n 1, 1) := by decide +kernel
theorem d_M_xOf_87 : decode b_M_xOf 87 = .ok (.laload, 1) := by decide +kernel
theorem d_M_xOf_88 : decode b_M_xOf 88 = .ok (.lload 4, 2) := by decide +kernel
theorem d_M_xOf_90 : decode b_M_xOf 90 = .ok (.ladd, 1) := by decide +kernel
theorem d_M_xOf_91 : decode b_M_xOf 91 = .ok (.lreturn, 1) := by decide +kernel
abbrev rm_M_xOf : Room := { frames := 0, cells := 0, slots := 0, locals := 0 }
theorem ce_M_xOf : gCe y_M_xOf (.code y_M_xOf b_M_xOf 8 (some .long)) 8 3 false := gCe.code wd_982 wd_57 wd_981 (by decide) (by decide +kernel)
def f_M_xOf (g0 : gG) (a0 : Nat) (p1 : Int32) (p2 : Int64) (p3 : Int64) (w : gW) : gX Int64 := (gfA w a0 7 17).bind fun v1 => (gaI w v1 p1).bind fun v3 => gjoin (fun K17 => if v3 = 1 then (K17 (0 - p2) w) else (K17 p2 w)) (fun (y5 : Int64) (w : gW) => (gfA w a0 7 16).bind fun v6 => (gaI w v6 p1).bind fun v8 => if v8 = 0 then ((gfA w a0 7 14).bind fun v11 => (gaJ w v11 p1).bind fun v13 => some (.inr (v13 + y5), w)) else (if v8 = 1 then ((gfA w a0 7 14).bind fun v16 => (gaJ w v16 p1).bind fun v18 => some (.inr (v18 - p3), w)) else (if v8 = 2 then ((gfA w a0 7 14).bind fun v21 => (gaJ w v21 p1).bind fun v23 => some (.inr (v23 - y5), w)) else ((gfA w a0 7 14).bind fun v25 => (gaJ w v25 p1).bind fun v27 => some (.inr (v27 + p3), w)))))
set_option maxHeartbeats 4000000 in
set_option maxRecDepth 100000 in
theorem m_M_xOf (l : Launch) (hst : l.stackTraces = false) (D : gD) (g0 : gG) (a0 : Nat) (p1 : Int32) (p2 : Int64) (p3 : Int64) (w : gW) (r : (String ⊕ Int64) × gW) (h : f_M_xOf g0 a0 p1 p2 p3 w = some r) : gMet l y_M_xOf (.code y_M_xOf b_M_xOf 8 (some .long)) rm_M_xOf D g0 [.ref a0, .int p1, .long p2, .long p3] w (goJ r) := by
  refine gw_ofJ (by decide +kernel) (Nat.le_of_ble_eq_true rfl) ?_
  intro p e s m below meth c ls args A Q hx hb hml hown hlocks hin hnt hT hK hZ hA hret hexc hthr hI hl
  obtain ⟨H, hH⟩ : ∃ H, H = s.heap := ⟨_, rfl⟩
  rw [← hH] at hI ⊢
  obtain ⟨locs, hlocs⟩ : ∃ z : List Loc, z = [] := ⟨_, rfl⟩
  rw [← hlocs] at hI ⊢
  have hl : lv_has ls 8 [(0, .ref a0), (1, .int p1), (2, .long p2), (4, .long p3)] := hl
  unfold f_M_xOf at h
  refine lv_aload_n hx hb d_M_xOf_0 rfl (lv_at hl 0 rfl) ?_
  obtain ⟨v1, e2, h⟩ := gb h
  refine gw_getA hx hb hT hown hK hI (ci := 7) rfl i_7 17 (by decide) wd_803 (fun _ h9 => h9) e2 d_M_xOf_1 ?_
  refine lv_iload_n hx hb d_M_xOf_4 rfl (lv_at hl 1 rfl) ?_
  obtain ⟨v3, e4, h⟩ := gb h
  refine gw_aldI hx hb hK hI e4 d_M_xOf_5 ?_
  refine lv_iconst (v := 1) hx hb d_M_xOf_6 (by decide) ?_
  obtain ⟨K17, eK17, h⟩ := gj h
  have hK17 : ∀ (y5 : Int64) (w : gW) (H : Heap) (locs : List Loc) (ls : Array Slot), K17 y5 w = some r → gI D s A w H locs → lv_has ls 8 [(0, .ref a0), (1, .int p1), (4, .long p3)] → W p l e rm_M_xOf s m args below meth c H locs 0 0 Q (F0 m 17 ls [.long y5]) := by
    intro y5 w H locs ls h hI hl
    have h := gk2 eK17 h
    refine lv_lstore (lv' := [(6, .long y5), (0, .ref a0), (1, .int p1), (4, .long p3)]) hx hb d_M_xOf_17 hl (by decide) rfl (fun ls hl => ?_)
    refine lv_aload_n hx hb d_M_xOf_19 rfl (lv_at hl 1 rfl) ?_
    obtain ⟨v6, e7, h⟩ := gb h
    refine gw_getA hx hb hT hown hK hI (ci := 7) rfl i_7 16 (by decide) wd_802 (fun _ h9 => h9) e7 d_M_xOf_20 ?_
    refine lv_iload_n hx hb d_M_xOf_23 rfl (lv_at hl 2 rfl) ?_
    obtain ⟨v8, e9, h⟩ := gb h
    refine gw_aldI hx hb hK hI e9 d_M_xOf_24 ?_
    rcases Decidable.em (v8 = 0) with c10 | c10
    · have h := git c10 h
      refine lv_tableIn (off := 27) (tgt := 52) hx hb d_M_xOf_25 (by rw [c10]; decide) (by rw [c10]; decide) (by rw [c10]; decide) (by decide) ?_
      refine lv_aload_n hx hb d_M_xOf_52 rfl (lv_at hl 1 rfl) ?_
      obtain ⟨v11, e12, h⟩ := gb h
      refine gw_getA hx hb hT hown hK hI (ci := 7) rfl i_7 14 (by decide) wd_800 (fun _ h9 => h9) e12 d_M_xOf_53 ?_
      refine lv_iload_n hx hb d_M_xOf_56 rfl (lv_at hl 2 rfl) ?_
      obtain ⟨v13, e14, h⟩ := gb h
      refine gw_aldJ hx hb hK hI e14 d_M_xOf_57 ?_
      refine lv_lload hx hb d_M_xOf_58 (lv_at hl 0 rfl) ?_
      refine lv_ladd hx hb d_M_xOf_60 ?_
      exact W.widen (show 0 ≤ 0 by omega) (show 0 ≤ 0 by omega) (hret _ _ (Option.some.inj h).symm _ _ _ _ d_M_xOf_61 hI)
    have h := gie c10 h
    rcases Decidable.em (v8 = 1) with c15 | c15
    · have h := git c15 h
      refine lv_tableIn (off := 37) (tgt := 62) hx hb d_M_xOf_25 (by rw [c15]; decide) (by rw [c15]; decide) (by rw [c15]; decide) (by decide) ?_
      refine lv_aload_n hx hb d_M_xOf_62 rfl (lv_at hl 1 rfl) ?_
      obtain ⟨v16, e17, h⟩ := gb h
      refine gw_getA hx hb hT hown hK hI (ci := 7) rfl i_7 14 (by decide) wd_800 (fun _ h9 => h9) e17 d_M_xOf_63 ?_
      refine lv_iload_n hx hb d_M_xOf_66 rfl (lv_at hl 2 rfl) ?_
      obtain ⟨v18, e19, h⟩ := gb h
      refine gw_aldJ hx hb hK hI e19 d_M_xOf_67 ?_
      refine lv_lload hx hb d_M_xOf_68 (lv_at hl 3 rfl) ?_
      refine lv_lsub hx hb d_M_xOf_70 ?_
      exact W.widen (show 0 ≤ 0 by omega) (show 0 ≤ 0 by omega) (hret _ _ (Option.some.inj h).symm _ _ _ _ d_M_xOf_71 hI)
    have h := gie c15 h
    rcases Decidable.em (v8 = 2) with c20 | c20
    · have h := git c20 h
      refine lv_tableIn (off := 47) (tgt := 72) hx hb d_M_xOf_25 (by rw [c20]; decide) (by rw [c20]; decide) (by rw [c20]; decide) (by decide) ?_
      refine lv_aload_n hx hb d_M_xOf_72 rfl (lv_at hl 1 rfl) ?_
      obtain ⟨v21, e22, h⟩ := gb h
      refine gw_getA hx hb hT hown hK hI (ci := 7) rfl i_7 14 (by decide) wd_800 (fun _ h9 => h9) e22 d_M_xOf_73 ?_
      refine lv_iload_n hx hb d_M_xOf_76 rfl (lv_at hl 2 rfl) ?_
      obtain ⟨v23, e24, h⟩ := gb h
      refine gw_aldJ hx hb hK hI e24 d_M_xOf_77 ?_
      refine lv_lload hx hb d_M_xOf_78 (lv_at hl 0 rfl) ?_
      refine lv_lsub hx hb d_M_xOf_80 ?_
      exact W.widen (show 0 ≤ 0 by omega) (show 0 ≤ 0 by omega) (hret _ _ (Option.some.inj h).symm _ _ _ _ d_M_xOf_81 hI)
    have h := gie c20 h
    refine lv_tableOut (tgt := 82) hx hb d_M_xOf_25 (by have q0 := lv_neT c10 (show (0 : Int32).toInt = 0 by decide); have q1 := lv_neT c15 (show (1 : Int32).toInt = 1 by decide); have q2 := lv_neT c20 (show (2 : Int32).toInt = 2 by decide); omega) (by decide) ?_
    refine lv_aload_n hx hb d_M_xOf_82 rfl (lv_at hl 1 rfl) ?_
    obtain ⟨v25, e26, h⟩ := gb h
    refine gw_getA hx hb hT hown hK hI (ci := 7) rfl i_7 14 (by decide) wd_800 (fun _ h9 => h9) e26 d_M_xOf_83 ?_
    refine lv_iload_n hx hb d_M_xOf_86 rfl (lv_at hl 2 rfl) ?_
    obtain ⟨v27, e28, h⟩ := gb h
    refine gw_aldJ hx hb hK hI e28 d_M_xOf_87 ?_
    refine lv_lload hx hb d_M_xOf_88 (lv_at hl 3 rfl) ?_
    refine lv_ladd hx hb d_M_xOf_90 ?_
    exact W.widen (show 0 ≤ 0 by omega) (show 0 ≤ 0 by omega) (hret _ _ (Option.some.inj h).symm _ _ _ _ d_M_xOf_91 hI)
  refine lv_icmp_ne (tgt := 16) hx hb d_M_xOf_7 (by decide) (fun c29 => ?_) (fun c29 => ?_)
  · skip
    have h := gie c29 h
    refine lv_lload_n hx hb d_M_xOf_16 rfl (lv_at hl 2 rfl) ?_
    exact hK17 _ w H locs ls h hI (lv_sub hl [0, 1, 3] rfl)
  · skip
    have h := git c29 h
    refine lv_lconst (v := 0) hx hb d_M_xOf_10 (by decide) ?_
    refine lv_lload_n hx hb d_M_xOf_11 rfl (lv_at hl 2 rfl) ?_
    refine lv_lsub hx hb d_M_xOf_12 ?_
    refine lv_goto (tgt := 17) hx hb d_M_xOf_13 (by decide) ?_
    exact hK17 _ w H locs ls h hI (lv_sub hl [0, 1, 3] rfl)

abbrev b_M_yOf : ByteArray := prog_9_method_27_code
def y_M_yOf : MethodName := ⟨"BodySolidsModel", "yOf", "(IJJ)J"⟩
theorem d_M_yOf_0 : decode b_M_yOf 0 = .ok (.aload_n 0, 1) := by decide +kernel
theorem d_M_yOf_1 : decode b_M_yOf 1 = .ok (.getfield 47, 3) := by decide +kernel
theorem d_M_yOf_4 : decode b_M_yOf 4 = .ok (.iload_n 1, 1) := by decide +kernel
theorem d_M_yOf_5 : decode b_M_yOf 5 = .ok (.iaload, 1) := by decide +kernel
theorem d_M_yOf_6 : decode b_M_yOf 6 = .ok (.iconst 1, 1) := by decide +kernel
theorem d_M_yOf_7 : decode b_M_yOf 7 = .ok (.if_icmp .ne 9, 3) := by decide +kernel
theorem d_M_yOf_10 : decode b_M_yOf 10 = .ok (.lconst 0, 1) := by decide +kernel
theorem d_M_yOf_11 : decode b_M_yOf 11 = .ok (.lload_n 2, 1) := by decide +kernel
theorem d_M_yOf_12 : decode b_M_yOf 12 = .ok (.lsub, 1) := by decide +kernel
theorem d_M_yOf_13 : decode b_M_yOf 13 = .ok (.goto 4, 3) := by decide +kernel
theorem d_M_yOf_16 : decode b_M_yOf 16 = .ok (.lload_n 2, 1) := by decide +kernel
theorem d_M_yOf_17 : decode b_M_yOf 17 = .ok (.lstore 6, 2) := by decide +kernel
theorem d_M_yOf_19 : decode b_M_yOf 19 = .ok (.aload_n 0, 1) := by decide +kernel
theorem d_M_yOf_20 : decode b_M_yOf 20 = .ok (.getfield 44, 3) := by decide +kernel
theorem d_M_yOf_23 : decode b_M_yOf 23 = .ok (.iload_n 1, 1) := by decide +kernel
theorem d_M_yOf_24 : decode b_M_yOf 24 = .ok (.iaload, 1) := by decide +kernel
theorem d_M_yOf_25 : decode b_M_yOf 25 = .ok (.tableswitch 57 0 2 #[27, 37, 47], 27) := by decide +kernel
theorem d_M_yOf_52 : decode b_M_yOf 52 = .ok (.aload_n 0, 1) := by decide +kernel
theorem d_M_yOf_53 : decode b_M_yOf 53 = .ok (.getfield 41, 3) := by decide +kernel
theorem d_M_yOf_56 : decode b_M_yOf 56 = .ok (.iload_n 1, 1) := by decide +kernel
theorem d_M_yOf_57 : decode b_M_yOf 57 = .ok (.laload, 1) := by decide +kernel
theorem d_M_yOf_58 : decode b_M_yOf 58 = .ok (.lload 4, 2) := by decide +kernel
theorem d_M_yOf_60 : decode b_M_yOf 60 = .ok (.ladd, 1) := by decide +kernel
theorem d_M_yOf_61 : decode b_M_yOf 61 = .ok (.lreturn, 1) := by decide +kernel
theorem d_M_yOf_62 : decode b_M_yOf 62 = .ok (.aload_n 0, 1) := by decide +kernel
theorem d_M_yOf_63 : decode b_M_yOf 63 = .ok (.getfield 41, 3) := by decide +kernel
theorem d_M_yOf_66 : decode b_M_yOf 66 = .ok (.iload_n 1, 1) := by decide +kernel
theorem d_M_yOf_67 : decode b_M_yOf 67 = .ok (.laload, 1) := by decide +kernel
theorem d_M_yOf_68 : decode b_M_yOf 68 = .ok (.lload 6, 2) := by decide +kernel
theorem d_M_yOf_70 : decode b_M_yOf 70 = .ok (.ladd, 1) := by decide +kernel
theorem d_M_yOf_71 : decode b_M_yOf 71 = .ok (.lreturn, 1) := by decide +kernel
theorem d_M_yOf_72 : decode b_M_yOf 72 = .ok (.aload_n 0, 1) := by decide +kernel
theorem d_M_yOf_73 : decode b_M_yOf 73 = .ok (.getfield 41, 3) := by decide +kernel
theorem d_M_yOf_76 : decode b_M_yOf 76 = .ok (.iload_n 1, 1) := by decide +kernel
theorem d_M_yOf_77 : decode b_M_yOf 77 = .ok (.laload, 1) := by decide +kernel
theorem d_M_yOf_78 : decode b_M_yOf 78 = .ok (.lload 4, 2) := by decide +kernel
theorem d_M_yOf_80 : decode b_M_yOf 80 = .ok (.lsub, 1) := by decide +kernel
theorem d_M_yOf_81 : decode b_M_yOf 81 = .ok (.lreturn, 1) := by decide +kernel
theorem d_M_yOf_82 : decode b_M_yOf 82 = .ok (.aload_n 0, 1) := by decide +kernel
theorem d_M_yOf_83 : decode b_M_yOf 83 = .ok (.getfield 41, 3) := by decide +kernel
theorem d_M_yOf_86 : decode b_M_yOf 86 = .ok (.iload_n 1, 1) := by decide +kernel
theorem d_M_yOf_87 : decode b_M_yOf 87 = .ok (.laload, 1) := by decide +kernel
theorem d_M_yOf_88 : decode b_M_yOf 88 = .ok (.lload 6, 2) := by decide +kernel
theorem d_M_yOf_90 : decode b_M_yOf 90 = .ok (.lsub, 1) := by decide +kernel
theorem d_M_yOf_91 : decode b_M_yOf 91 = .ok (.lreturn, 1) := by decide +kernel
abbrev rm_M_yOf : Room := { frames := 0, cells := 0, slots := 0, locals := 0 }
theorem ce_M_yOf : gCe y_M_yOf (.code y_M_yOf b_M_yOf 8 (some .long)) 8 3 false := gCe.code wd_986 wd_57 wd_985 (by decide) (by decide +kernel)
def f_M_yOf (g0 : gG) (a0 : Nat) (p1 : Int32) (p2 : Int64) (p3 : Int64) (w : gW) : gX Int64 := (gfA w a0 7 17).bind fun v1 => (gaI w v1 p1).bind fun v3 => gjoin (fun K17 => if v3 = 1 then (K17 (0 - p2) w) else (K17 p2 w)) (fun (y5 : Int64) (w : gW) => (gfA w a0 7 16).bind fun v6 => (gaI w v6 p1).bind fun v8 => if v8 = 0 then ((gfA w a0 7 15).bind fun v11 => (gaJ w v11 p1).bind fun v13 => some (.inr (v13 + p3), w)) else (if v8 = 1 then ((gfA w a0 7 15).bind fun v16 => (gaJ w v16 p1).bind fun v18 => some (.inr (v18 + y5), w)) else (if v8 = 2 then ((gfA w a0 7 15).bind fun v21 => (gaJ w v21 p1).bind fun v23 => some (.inr (v23 - p3), w)) else ((gfA w a0 7 15).bind fun v25 => (gaJ w v25 p1).bind fun v27 => some (.inr (v27 - y5), w)))))
set_option maxHeartbeats 4000000 in
set_option maxRecDepth 100000 in
theorem m_M_yOf (l : Launch) (hst : l.stackTraces = false) (D : gD) (g0 : gG) (a0 : Nat) (p1 : Int32) (p2 : Int64) (p3 : Int64) (w : gW) (r : (String ⊕ Int64) × gW) (h : f_M_yOf g0 a0 p1 p2 p3 w = some r) : gMet l y_M_yOf (.code y_M_yOf b_M_yOf 8 (some .long)) rm_M_yOf D g0 [.ref a0, .int p1, .long p2, .long p3] w (goJ r) := by
  refine gw_ofJ (by decide +kernel) (Nat.le_of_ble_eq_true rfl) ?_
  intro p e s m below meth c ls args A Q hx hb hml hown hlocks hin hnt hT hK hZ hA hret hexc hthr hI hl
  obtain ⟨H, hH⟩ : ∃ H, H = s.heap := ⟨_, rfl⟩
  rw [← hH] at hI ⊢
  obtain ⟨locs, hlocs⟩ : ∃ z : List Loc, z = [] := ⟨_, rfl⟩
  rw [← hlocs] at hI ⊢
  have hl : lv_has ls 8 [(0, .ref a0), (1, .int p1), (2, .long p2), (4, .long p3)] := hl
  unfold f_M_yOf at h
  refine lv_aload_n hx hb d_M_yOf_0 rfl (lv_at hl 0 rfl) ?_
  obtain ⟨v1, e2, h⟩ := gb h
  refine gw_getA hx hb hT hown hK hI (ci := 7) rfl i_7 17 (by decide) wd_803 (fun _ h9 => h9) e2 d_M_yOf_1 ?_
  refine lv_iload_n hx hb d_M_yOf_4 rfl (lv_at hl 1 rfl) ?_
  obtain ⟨v3, e4, h⟩ := gb h
  refine gw_aldI hx hb hK hI e4 d_M_yOf_5 ?_
  refine lv_iconst (v := 1) hx hb d_M_yOf_6 (by decide) ?_
  obtain ⟨K17, eK17, h⟩ := gj h
  have hK17 : ∀ (y5 : Int64) (w : gW) (H : Heap) (locs : List Loc) (ls : Array Slot), K17 y5 w = some r → gI D s A w H locs → lv_has ls 8 [(0, .ref a0), (1, .int p1), (4, .long p3)] → W p l e rm_M_yOf s m args below meth c H locs 0 0 Q (F0 m 17 ls [.long y5]) := by
    intro y5 w H locs ls h hI hl
    have h := gk2 eK17 h
    refine lv_lstore (lv' := [(6, .long y5), (0, .ref a0), (1, .int p1), (4, .long p3)]) hx hb d_M_yOf_17 hl (by decide) rfl (fun ls hl => ?_)
    refine lv_aload_n hx hb d_M_yOf_19 rfl (lv_at hl 1 rfl) ?_
    obtain ⟨v6, e7, h⟩ := gb h
    refine gw_getA hx hb hT hown hK hI (ci := 7) rfl i_7 16 (by decide) wd_802 (fun _ h9 => h9) e7 d_M_yOf_20 ?_
    refine lv_iload_n hx hb d_M_yOf_23 rfl (lv_at hl 2 rfl) ?_
    obtain ⟨v8, e9, h⟩ := gb h
    refine gw_aldI hx hb hK hI e9 d_M_yOf_24 ?_
    rcases Decidable.em (v8 = 0) with c10 | c10
    · have h := git c10 h
      refine lv_tableIn (off := 27) (tgt := 52) hx hb d_M_yOf_25 (by rw [c10]; decide) (by rw [c10]; decide) (by rw [c10]; decide) (by decide) ?_
      refine lv_aload_n hx hb d_M_yOf_52 rfl (lv_at hl 1 rfl) ?_
      obtain ⟨v11, e12, h⟩ := gb h
      refine gw_getA hx hb hT hown hK hI (ci := 7) rfl i_7 15 (by decide) wd_801 (fun _ h9 => h9) e12 d_M_yOf_53 ?_
      refine lv_iload_n hx hb d_M_yOf_56 rfl (lv_at hl 2 rfl) ?_
      obtain ⟨v13, e14, h⟩ := gb h
      refine gw_aldJ hx hb hK hI e14 d_M_yOf_57 ?_
      refine lv_lload hx hb d_M_yOf_58 (lv_at hl 3 rfl) ?_
      refine lv_ladd hx hb d_M_yOf_60 ?_
      exact W.widen (show 0 ≤ 0 by omega) (show 0 ≤ 0 by omega) (hret _ _ (Option.some.inj h).symm _ _ _ _ d_M_yOf_61 hI)
    have h := gie c10 h
    rcases Decidable.em (v8 = 1) with c15 | c15
    · have h := git c15 h
      refine lv_tableIn (off := 37) (tgt := 62) hx hb d_M_yOf_25 (by rw [c15]; decide) (by rw [c15]; decide) (by rw [c15]; decide) (by decide) ?_
      refine lv_aload_n hx hb d_M_yOf_62 rfl (lv_at hl 1 rfl) ?_
      obtain ⟨v16, e17, h⟩ := gb h
      refine gw_getA hx hb hT hown hK hI (ci := 7) rfl i_7 15 (by decide) wd_801 (fun _ h9 => h9) e17 d_M_yOf_63 ?_
      refine lv_iload_n hx hb d_M_yOf_66 rfl (lv_at hl 2 rfl) ?_
      obtain ⟨v18, e19, h⟩ := gb h
      refine gw_aldJ hx hb hK hI e19 d_M_yOf_67 ?_
      refine lv_lload hx hb d_M_yOf_68 (lv_at hl 0 rfl) ?_
      refine lv_ladd hx hb d_M_yOf_70 ?_
      exact W.widen (show 0 ≤ 0 by omega) (show 0 ≤ 0 by omega) (hret _ _ (Option.some.inj h).symm _ _ _ _ d_M_yOf_71 hI)
    have h := gie c15 h
    rcases Decidable.em (v8 = 2) with c20 | c20
    · have h := git c20 h
      refine lv_tableIn (off := 47) (tgt := 72) hx hb d_M_yOf_25 (by rw [c20]; decide) (by rw [c20]; decide) (by rw [c20]; decide) (by decide) ?_
      refine lv_aload_n hx hb d_M_yOf_72 rfl (lv_at hl 1 rfl) ?_
      obtain ⟨v21, e22, h⟩ := gb h
      refine gw_getA hx hb hT hown hK hI (ci := 7) rfl i_7 15 (by decide) wd_801 (fun _ h9 => h9) e22 d_M_yOf_73 ?_
      refine lv_iload_n hx hb d_M_yOf_76 rfl (lv_at hl 2 rfl) ?_
      obtain ⟨v23, e24, h⟩ := gb h
      refine gw_aldJ hx hb hK hI e24 d_M_yOf_77 ?_
      refine lv_lload hx hb d_M_yOf_78 (lv_at hl 3 rfl) ?_
      refine lv_lsub hx hb d_M_yOf_80 ?_
      exact W.widen (show 0 ≤ 0 by omega) (show 0 ≤ 0 by omega) (hret _ _ (Option.some.inj h).symm _ _ _ _ d_M_yOf_81 hI)
    have h := gie c20 h
    refine lv_tableOut (tgt := 82) hx hb d_M_yOf_25 (by have q0 := lv_neT c10 (show (0 : Int32).toInt = 0 by decide); have q1 := lv_neT c15 (show (1 : Int32).toInt = 1 by decide); have q2 := lv_neT c20 (show (2 : Int32).toInt = 2 by decide); omega) (by decide) ?_
    refine lv_aload_n hx hb d_M_yOf_82 rfl (lv_at hl 1 rfl) ?_
    obtain ⟨v25, e26, h⟩ := gb h
    refine gw_getA hx hb hT hown hK hI (ci := 7) rfl i_7 15 (by decide) wd_801 (fun _ h9 => h9) e26 d_M_yOf_83 ?_
    refine lv_iload_n hx hb d_M_yOf_86 rfl (lv_at hl 2 rfl) ?_
    obtain ⟨v27, e28, h⟩ := gb h
    refine gw_aldJ hx hb hK hI e28 d_M_yOf_87 ?_
    refine lv_lload hx hb d_M_yOf_88 (lv_at hl 0 rfl) ?_
    refine lv_lsub hx hb d_M_yOf_90 ?_
    exact W.widen (show 0 ≤ 0 by omega) (show 0 ≤ 0 by omega) (hret _ _ (Option.some.inj h).symm _ _ _ _ d_M_yOf_91 hI)
  refine lv_icmp_ne (tgt := 16) hx hb d_M_yOf_7 (by decide) (fun c29 => ?_) (fun c29 => ?_)
  · skip
    have h := gie c29 h
    refine lv_lload_n hx hb d_M_yOf_16 rfl (lv_at hl 2 rfl) ?_
    exact hK17 _ w H locs ls h hI (lv_sub hl [0, 1, 3] rfl)
  · skip
    have h := git c29 h
    refine lv_lconst (v := 0) hx hb d_M_yOf_10 (by decide) ?_
    refine lv_lload_n hx hb d_M_yOf_11 rfl (lv_at hl 2 rfl) ?_
    refine lv_lsub hx hb d_M_yOf_12 ?_
    refine lv_goto (tgt := 17) hx hb d_M_yOf_13 (by decide) ?_
    exact hK17 _ w H locs ls h hI (lv_sub hl [0, 1, 3] rfl)

abbrev b_M_point : ByteArray := prog_9_method_30_code
def y_M_point : MethodName := ⟨"BodySolidsModel", "point", "(IIJJ)V"⟩
theorem d_M_point_0 : decode b_M_point 0 = .ok (.aload_n 0, 1) := by decide +kernel
theorem d_M_point_1 : decode b_M_point 1 = .ok (.getfield 59, 3) := by decide +kernel
theorem d_M_point_4 : decode b_M_point 4 = .ok (.bipush 8, 2) := by decide +kernel
theorem d_M_point_6 : decode b_M_point 6 = .ok (.iload_n 1, 1) := by decide +kernel
theorem d_M_point_7 : decode b_M_point 7 = .ok (.imul, 1) := by decide +kernel
theorem d_M_point_8 : decode b_M_point 8 = .ok (.iload_n 2, 1) := by decide +kernel
theorem d_M_point_9 : decode b_M_point 9 = .ok (.iadd, 1) := by decide +kernel
theorem d_M_point_10 : decode b_M_point 10 = .ok (.lload_n 3, 1) := by decide +kernel
theorem d_M_point_11 : decode b_M_point 11 = .ok (.lastore, 1) := by decide +kernel
theorem d_M_point_12 : decode b_M_point 12 = .ok (.aload_n 0, 1) := by decide +kernel
theorem d_M_point_13 : decode b_M_point 13 = .ok (.getfield 62, 3) := by decide +kernel
theorem d_M_point_16 : decode b_M_point 16 = .ok (.bipush 8, 2) := by decide +kernel
theorem d_M_point_18 : decode b_M_point 18 = .ok (.iload_n 1, 1) := by decide +kernel
theorem d_M_point_19 : decode b_M_point 19 = .ok (.imul, 1) := by decide +kernel
theorem d_M_point_20 : decode b_M_point 20 = .ok (.iload_n 2, 1) := by decide +kernel
theorem d_M_point_21 : decode b_M_point 21 = .ok (.iadd, 1) := by decide +kernel
theorem d_M_point_22 : decode b_M_point 22 = .ok (.lload 5, 2) := by decide +kernel
theorem d_M_point_24 : decode b_M_point 24 = .ok (.lastore, 1) := by decide +kernel
theorem d_M_point_25 : decode b_M_point 25 = .ok (.return_, 1) := by decide +kernel
abbrev rm_M_point : Room := { frames := 0, cells := 0, slots := 0, locals := 0 }
theorem ce_M_point : gCe y_M_point (.code y_M_point b_M_point 7 none) 7 4 false := gCe.code wd_990 wd_57 wd_989 (by decide) (by decide +kernel)
def f_M_point (g0 : gG) (a0 : Nat) (p1 : Int32) (p2 : Int32) (p3 : Int64) (p4 : Int64) (w : gW) : gX Unit := (gfA w a0 7 22).bind fun v1 => (gsJ w v1 ((8 * p1) + p2) p3).bind fun w => (gfA w a0 7 23).bind fun v4 => (gsJ w v4 ((8 * p1) + p2) p4).bind fun w => some (.inr (), w)
set_option maxHeartbeats 4000000 in
set_option maxRecDepth 100000 in
theorem m_M_point (l : Launch) (hst : l.stackTraces = false) (D : gD) (g0 : gG) (a0 : Nat) (p1 : Int32) (p2 : Int32) (p3 : Int64) (p4 : Int64) (w : gW) (r : (String ⊕ Unit) × gW) (h : f_M_point g0 a0 p1 p2 p3 p4 w = some r) : gMet l y_M_point (.code y_M_point b_M_point 7 none) rm_M_point D g0 [.ref a0, .int p1, .int p2, .long p3, .long p4] w (goV r) := by
  refine gw_ofV (by decide +kernel) (Nat.le_of_ble_eq_true rfl) ?_
  intro p e s m below meth c ls args A Q hx hb hml hown hlocks hin hnt hT hK hZ hA hret hexc hthr hI hl
  obtain ⟨H, hH⟩ : ∃ H, H = s.heap := ⟨_, rfl⟩
  rw [← hH] at hI ⊢
  obtain ⟨locs, hlocs⟩ : ∃ z : List Loc, z = [] := ⟨_, rfl⟩
  rw [← hlocs] at hI ⊢
  have hl : lv_has ls 7 [(0, .ref a0), (1, .int p1), (2, .int p2), (3, .long p3), (5, .long p4)] := hl
  unfold f_M_point at h
  refine lv_aload_n hx hb d_M_point_0 rfl (lv_at hl 0 rfl) ?_
  obtain ⟨v1, e2, h⟩ := gb h
  refine gw_getA hx hb hT hown hK hI (ci := 7) rfl i_7 22 (by decide) wd_808 (fun _ h9 => h9) e2 d_M_point_1 ?_
  refine lv_bipush (v := 8) hx hb d_M_point_4 (by decide) ?_
  refine lv_iload_n hx hb d_M_point_6 rfl (lv_at hl 1 rfl) ?_
  refine lv_imul hx hb d_M_point_7 ?_
  refine lv_iload_n hx hb d_M_point_8 rfl (lv_at hl 2 rfl) ?_
  refine lv_iadd hx hb d_M_point_9 ?_
  refine lv_lload_n hx hb d_M_point_10 rfl (lv_at hl 3 rfl) ?_
  obtain ⟨w, e3, h⟩ := gb h
  refine gw_astJ hx hb hK hI e3 d_M_point_11 (fun H locs hI => ?_)
  refine lv_aload_n hx hb d_M_point_12 rfl (lv_at hl 0 rfl) ?_
  obtain ⟨v4, e5, h⟩ := gb h
  refine gw_getA hx hb hT hown hK hI (ci := 7) rfl i_7 23 (by decide) wd_809 (fun _ h9 => h9) e5 d_M_point_13 ?_
  refine lv_bipush (v := 8) hx hb d_M_point_16 (by decide) ?_
  refine lv_iload_n hx hb d_M_point_18 rfl (lv_at hl 1 rfl) ?_
  refine lv_imul hx hb d_M_point_19 ?_
  refine lv_iload_n hx hb d_M_point_20 rfl (lv_at hl 2 rfl) ?_
  refine lv_iadd hx hb d_M_point_21 ?_
  refine lv_lload hx hb d_M_point_22 (lv_at hl 4 rfl) ?_
  obtain ⟨w, e6, h⟩ := gb h
  refine gw_astJ hx hb hK hI e6 d_M_point_24 (fun H locs hI => ?_)
  exact W.widen (show 0 ≤ 0 by omega) (show 0 ≤ 0 by omega) (hret _ _ (Option.some.inj h).symm _ _ _ _ d_M_point_25 hI)

abbrev b_M_spot : ByteArray := prog_9_method_31_code
def y_M_spot : MethodName := ⟨"BodySolidsModel", "spot", "(IIIJJ)V"⟩
theorem d_M_spot_0 : decode b_M_spot 0 = .ok (.aload_n 0, 1) := by decide +kernel
theorem d_M_spot_1 : decode b_M_spot 1 = .ok (.iload_n 1, 1) := by decide +kernel
theorem d_M_spot_2 : decode b_M_spot 2 = .ok (.iload_n 2, 1) := by decide +kernel
theorem d_M_spot_3 : decode b_M_spot 3 = .ok (.aload_n 0, 1) := by decide +kernel
theorem d_M_spot_4 : decode b_M_spot 4 = .ok (.iload_n 3, 1) := by decide +kernel
theorem d_M_spot_5 : decode b_M_spot 5 = .ok (.lload 4, 2) := by decide +kernel
theorem d_M_spot_7 : decode b_M_spot 7 = .ok (.lload 6, 2) := by decide +kernel
theorem d_M_spot_9 : decode b_M_spot 9 = .ok (.invokevirtual 153, 3) := by decide +kernel
theorem d_M_spot_12 : decode b_M_spot 12 = .ok (.aload_n 0, 1) := by decide +kernel
theorem d_M_spot_13 : decode b_M_spot 13 = .ok (.iload_n 3, 1) := by decide +kernel
theorem d_M_spot_14 : decode b_M_spot 14 = .ok (.lload 4, 2) := by decide +kernel
theorem d_M_spot_16 : decode b_M_spot 16 = .ok (.lload 6, 2) := by decide +kernel
theorem d_M_spot_18 : decode b_M_spot 18 = .ok (.invokevirtual 157, 3) := by decide +kernel
theorem d_M_spot_21 : decode b_M_spot 21 = .ok (.invokevirtual 160, 3) := by decide +kernel
theorem d_M_spot_24 : decode b_M_spot 24 = .ok (.return_, 1) := by decide +kernel
abbrev rm_M_spot : Room := { frames := 1, cells := 0, slots := 0, locals := 27 }
theorem ce_M_spot : gCe y_M_spot (.code y_M_spot b_M_spot 8 none) 8 5 false := gCe.code wd_978 wd_57 wd_977 (by decide) (by decide +kernel)
def f_M_spot (g0 : gG) (a0 : Nat) (p1 : Int32) (p2 : Int32) (p3 : Int32) (p4 : Int64) (p5 : Int64) (w : gW) : gX Unit := (gck w a0 7).bind fun _ => gbind (f_M_xOf g0 a0 p3 p4 p5 w) fun v5 w => (gck w a0 7).bind fun _ => gbind (f_M_yOf g0 a0 p3 p4 p5 w) fun v10 w => (gck w a0 7).bind fun _ => gbind (f_M_point g0 a0 p1 p2 v5 v10 w) fun v15 w => some (.inr (), w)
set_option maxHeartbeats 4000000 in
set_option maxRecDepth 100000 in
theorem m_M_spot (l : Launch) (hst : l.stackTraces = false) (D : gD) (g0 : gG) (a0 : Nat) (p1 : Int32) (p2 : Int32) (p3 : Int32) (p4 : Int64) (p5 : Int64) (w : gW) (r : (String ⊕ Unit) × gW) (h : f_M_spot g0 a0 p1 p2 p3 p4 p5 w = some r) : gMet l y_M_spot (.code y_M_spot b_M_spot 8 none) rm_M_spot D g0 [.ref a0, .int p1, .int p2, .int p3, .long p4, .long p5] w (goV r) := by
  refine gw_ofV (by decide +kernel) (Nat.le_of_ble_eq_true rfl) ?_
  intro p e s m below meth c ls args A Q hx hb hml hown hlocks hin hnt hT hK hZ hA hret hexc hthr hI hl
  obtain ⟨H, hH⟩ : ∃ H, H = s.heap := ⟨_, rfl⟩
  rw [← hH] at hI ⊢
  obtain ⟨locs, hlocs⟩ : ∃ z : List Loc, z = [] := ⟨_, rfl⟩
  rw [← hlocs] at hI ⊢
  have hl : lv_has ls 8 [(0, .ref a0), (1, .int p1), (2, .int p2), (3, .int p3), (4, .long p4), (6, .long p5)] := hl
  unfold f_M_spot at h
  refine lv_aload_n hx hb d_M_spot_0 rfl (lv_at hl 0 rfl) ?_
  refine lv_iload_n hx hb d_M_spot_1 rfl (lv_at hl 1 rfl) ?_
  refine lv_iload_n hx hb d_M_spot_2 rfl (lv_at hl 2 rfl) ?_
  refine lv_aload_n hx hb d_M_spot_3 rfl (lv_at hl 0 rfl) ?_
  refine lv_iload_n hx hb d_M_spot_4 rfl (lv_at hl 3 rfl) ?_
  refine lv_lload hx hb d_M_spot_5 (lv_at hl 4 rfl) ?_
  refine lv_lload hx hb d_M_spot_7 (lv_at hl 5 rfl) ?_
  obtain ⟨q3, e4, h⟩ := gb h
  obtain ⟨u1, e2⟩ := gsome h
  refine gw_callJ e2 h (gw_runV (As := [.int p3, .long p4, .long p5]) (rest := [.int p2, .int p1, .ref a0]) hx hb hml hown hT hK hZ hA hI (ci := 7) rfl e4 (m_M_xOf l hst D g0 a0 p3 p4 p5 w u1 e2) ce_M_xOf wd_979 wd_28 ⟨by decide, by decide⟩ rfl rfl hl.1 rfl (lv_room (Nat.le_of_ble_eq_true rfl)) d_M_spot_9 ⟨(show 0 + 0 ≤ 0 by omega), (show 0 + 0 ≤ 0 by omega)⟩) hI hA hexc (show 0 + 0 ≤ 0 by omega) (show 0 + 0 ≤ 0 by omega) (fun v5 w H locs h hI => ?_)
  refine lv_aload_n hx hb d_M_spot_12 rfl (lv_at hl 0 rfl) ?_
  refine lv_iload_n hx hb d_M_spot_13 rfl (lv_at hl 3 rfl) ?_
  refine lv_lload hx hb d_M_spot_14 (lv_at hl 4 rfl) ?_
  refine lv_lload hx hb d_M_spot_16 (lv_at hl 5 rfl) ?_
  obtain ⟨q8, e9, h⟩ := gb h
  obtain ⟨u6, e7⟩ := gsome h
  refine gw_callJ e7 h (gw_runV (As := [.int p3, .long p4, .long p5]) (rest := [.long v5, .int p2, .int p1, .ref a0]) hx hb hml hown hT hK hZ hA hI (ci := 7) rfl e9 (m_M_yOf l hst D g0 a0 p3 p4 p5 w u6 e7) ce_M_yOf wd_983 wd_29 ⟨by decide, by decide⟩ rfl rfl hl.1 rfl (lv_room (Nat.le_of_ble_eq_true rfl)) d_M_spot_18 ⟨(show 0 + 0 ≤ 0 by omega), (show 0 + 0 ≤ 0 by omega)⟩) hI hA hexc (show 0 + 0 ≤ 0 by omega) (show 0 + 0 ≤ 0 by omega) (fun v10 w H locs h hI => ?_)
  obtain ⟨q13, e14, h⟩ := gb h
  obtain ⟨u11, e12⟩ := gsome h
  refine gw_callV e12 h (gw_runV (As := [.int p1, .int p2, .long v5, .long v10]) (rest := []) hx hb hml hown hT hK hZ hA hI (ci := 7) rfl e14 (m_M_point l hst D g0 a0 p1 p2 v5 v10 w u11 e12) ce_M_point wd_987 wd_30 ⟨by decide, by decide⟩ rfl rfl hl.1 rfl (lv_room (Nat.le_of_ble_eq_true rfl)) d_M_spot_21 ⟨(show 0 + 0 ≤ 0 by omega), (show 0 + 0 ≤ 0 by omega)⟩) hI hA hexc (show 0 + 0 ≤ 0 by omega) (show 0 + 0 ≤ 0 by omega) (fun v15 w H locs h hI => ?_)
  exact W.widen (show 0 ≤ 0 by omega) (show 0 ≤ 0 by omega) (hret _ _ (Option.some.inj h).symm _ _ _ _ d_M_spot_24 hI)

abbrev b_M_zOf : ByteArray := prog_9_method_28_code
def y_M_zOf : MethodName := ⟨"BodySolidsModel", "zOf", "(IJ)J"⟩
theorem d_M_zOf_0 : decode b_M_zOf 0 = .ok (.aload_n 0, 1) := by decide +kernel
theorem d_M_zOf_1 : decode b_M_zOf 1 = .ok (.getfield 47, 3) := by decide +kernel
theorem d_M_zOf_4 : decode b_M_zOf 4 = .ok (.iload_n 1, 1) := by decide +kernel
theorem d_M_zOf_5 : decode b_M_zOf 5 = .ok (.iaload, 1) := by decide +kernel
theorem d_M_zOf_6 : decode b_M_zOf 6 = .ok (.iconst 1, 1) := by decide +kernel
theorem d_M_zOf_7 : decode b_M_zOf 7 = .ok (.if_icmp .ne 14, 3) := by decide +kernel
theorem d_M_zOf_10 : decode b_M_zOf 10 = .ok (.lconst 0, 1) := by decide +kernel
theorem d_M_zOf_11 : decode b_M_zOf 11 = .ok (.aload_n 0, 1) := by decide +kernel
theorem d_M_zOf_12 : decode b_M_zOf 12 = .ok (.getfield 76, 3) := by decide +kernel
theorem d_M_zOf_15 : decode b_M_zOf 15 = .ok (.lsub, 1) := by decide +kernel
theorem d_M_zOf_16 : decode b_M_zOf 16 = .ok (.lload_n 2, 1) := by decide +kernel
theorem d_M_zOf_17 : decode b_M_zOf 17 = .ok (.lsub, 1) := by decide +kernel
theorem d_M_zOf_18 : decode b_M_zOf 18 = .ok (.goto 4, 3) := by decide +kernel
theorem d_M_zOf_21 : decode b_M_zOf 21 = .ok (.lload_n 2, 1) := by decide +kernel
theorem d_M_zOf_22 : decode b_M_zOf 22 = .ok (.lreturn, 1) := by decide +kernel
abbrev rm_M_zOf : Room := { frames := 0, cells := 0, slots := 0, locals := 0 }
theorem ce_M_zOf : gCe y_M_zOf (.code y_M_zOf b_M_zOf 4 (some .long)) 4 2 false := gCe.code wd_994 wd_57 wd_993 (by decide) (by decide +kernel)
def f_M_zOf (g0 : gG) (a0 : Nat) (p1 : Int32) (p2 : Int64) (w : gW) : gX Int64 := (gfA w a0 7 17).bind fun v1 => (gaI w v1 p1).bind fun v3 => gjoin (fun K22 => if v3 = 1 then ((gfJ w a0 7 1).bind fun v7 => K22 ((0 - v7) - p2) w) else (K22 p2 w)) (fun (y5 : Int64) (w : gW) => some (.inr y5, w))
set_option maxHeartbeats 4000000 in
set_option maxRecDepth 100000 in
theorem m_M_zOf (l : Launch) (hst : l.stackTraces = false) (D : gD) (g0 : gG) (a0 : Nat) (p1 : Int32) (p2 : Int64) (w : gW) (r : (String ⊕ Int64) × gW) (h : f_M_zOf g0 a0 p1 p2 w = some r) : gMet l y_M_zOf (.code y_M_zOf b_M_zOf 4 (some .long)) rm_M_zOf D g0 [.ref a0, .int p1, .long p2] w (goJ r) := by
  refine gw_ofJ (by decide +kernel) (Nat.le_of_ble_eq_true rfl) ?_
  intro p e s m below meth c ls args A Q hx hb hml hown hlocks hin hnt hT hK hZ hA hret hexc hthr hI hl
  obtain ⟨H, hH⟩ : ∃ H, H = s.heap := ⟨_, rfl⟩
  rw [← hH] at hI ⊢
  obtain ⟨locs, hlocs⟩ : ∃ z : List Loc, z = [] := ⟨_, rfl⟩
  rw [← hlocs] at hI ⊢
  have hl : lv_has ls 4 [(0, .ref a0), (1, .int p1), (2, .long p2)] := hl
  unfold f_M_zOf at h
  refine lv_aload_n hx hb d_M_zOf_0 rfl (lv_at hl 0 rfl) ?_
  obtain ⟨v1, e2, h⟩ := gb h
  refine gw_getA hx hb hT hown hK hI (ci := 7) rfl i_7 17 (by decide) wd_803 (fun _ h9 => h9) e2 d_M_zOf_1 ?_
  refine lv_iload_n hx hb d_M_zOf_4 rfl (lv_at hl 1 rfl) ?_
  obtain ⟨v3, e4, h⟩ := gb h
  refine gw_aldI hx hb hK hI e4 d_M_zOf_5 ?_
  refine lv_iconst (v := 1) hx hb d_M_zOf_6 (by decide) ?_
  obtain ⟨K22, eK22, h⟩ := gj h
  have hK22 : ∀ (y5 : Int64) (w : gW) (H : Heap) (locs : List Loc) (ls : Array Slot), K22 y5 w = some r → gI D s A w H locs → lv_has ls 4 [] → W p l e rm_M_zOf s m args below meth c H locs 0 0 Q (F0 m 22 ls [.long y5]) := by
    intro y5 w H locs ls h hI hl
    have h := gk2 eK22 h
    exact W.widen (show 0 ≤ 0 by omega) (show 0 ≤ 0 by omega) (hret _ _ (Option.some.inj h).symm _ _ _ _ d_M_zOf_22 hI)
  refine lv_icmp_ne (tgt := 21) hx hb d_M_zOf_7 (by decide) (fun c6 => ?_) (fun c6 => ?_)
  · skip
    have h := gie c6 h
    refine lv_lload_n hx hb d_M_zOf_21 rfl (lv_at hl 2 rfl) ?_
    exact hK22 _ w H locs ls h hI (lv_sub hl [] rfl)
  · skip
    have h := git c6 h
    refine lv_lconst (v := 0) hx hb d_M_zOf_10 (by decide) ?_
    refine lv_aload_n hx hb d_M_zOf_11 rfl (lv_at hl 0 rfl) ?_
    obtain ⟨v7, e8, h⟩ := gb h
    refine gw_getJ hx hb hT hown hK hI (ci := 7) rfl i_7 1 (by decide) wd_787 (fun _ h9 => h9) e8 d_M_zOf_12 ?_
    refine lv_lsub hx hb d_M_zOf_15 ?_
    refine lv_lload_n hx hb d_M_zOf_16 rfl (lv_at hl 2 rfl) ?_
    refine lv_lsub hx hb d_M_zOf_17 ?_
    refine lv_goto (tgt := 22) hx hb d_M_zOf_18 (by decide) ?_
    exact hK22 _ w H locs ls h hI (lv_sub hl [] rfl)

abbrev b_M_heights : ByteArray := prog_9_method_29_code
def y_M_heights : MethodName := ⟨"BodySolidsModel", "heights", "(IJJ)V"⟩
theorem d_M_heights_0 : decode b_M_heights 0 = .ok (.aload_n 0, 1) := by decide +kernel
theorem d_M_heights_1 : decode b_M_heights 1 = .ok (.getfield 68, 3) := by decide +kernel
theorem d_M_heights_4 : decode b_M_heights 4 = .ok (.iload_n 1, 1) := by decide +kernel
theorem d_M_heights_5 : decode b_M_heights 5 = .ok (.lload_n 2, 1) := by decide +kernel
theorem d_M_heights_6 : decode b_M_heights 6 = .ok (.lload 4, 2) := by decide +kernel
theorem d_M_heights_8 : decode b_M_heights 8 = .ok (.lcmp, 1) := by decide +kernel
theorem d_M_heights_9 : decode b_M_heights 9 = .ok (.ifCond .ge 7, 3) := by decide +kernel
theorem d_M_heights_12 : decode b_M_heights 12 = .ok (.lload_n 2, 1) := by decide +kernel
theorem d_M_heights_13 : decode b_M_heights 13 = .ok (.goto 5, 3) := by decide +kernel
theorem d_M_heights_16 : decode b_M_heights 16 = .ok (.lload 4, 2) := by decide +kernel
theorem d_M_heights_18 : decode b_M_heights 18 = .ok (.lastore, 1) := by decide +kernel
theorem d_M_heights_19 : decode b_M_heights 19 = .ok (.aload_n 0, 1) := by decide +kernel
theorem d_M_heights_20 : decode b_M_heights 20 = .ok (.getfield 71, 3) := by decide +kernel
theorem d_M_heights_23 : decode b_M_heights 23 = .ok (.iload_n 1, 1) := by decide +kernel
theorem d_M_heights_24 : decode b_M_heights 24 = .ok (.lload_n 2, 1) := by decide +kernel
theorem d_M_heights_25 : decode b_M_heights 25 = .ok (.lload 4, 2) := by decide +kernel
theorem d_M_heights_27 : decode b_M_heights 27 = .ok (.lcmp, 1) := by decide +kernel
theorem d_M_heights_28 : decode b_M_heights 28 = .ok (.ifCond .ge 8, 3) := by decide +kernel
theorem d_M_heights_31 : decode b_M_heights 31 = .ok (.lload 4, 2) := by decide +kernel
theorem d_M_heights_33 : decode b_M_heights 33 = .ok (.goto 4, 3) := by decide +kernel
theorem d_M_heights_36 : decode b_M_heights 36 = .ok (.lload_n 2, 1) := by decide +kernel
theorem d_M_heights_37 : decode b_M_heights 37 = .ok (.lastore, 1) := by decide +kernel
theorem d_M_heights_38 : decode b_M_heights 38 = .ok (.return_, 1) := by decide +kernel
abbrev rm_M_heights : Room := { frames := 0, cells := 0, slots := 0, locals := 0 }
theorem ce_M_heights : gCe y_M_heights (.code y_M_heights b_M_heights 6 none) 6 3 false := gCe.code wd_999 wd_57 wd_998 (by decide) (by decide +kernel)
def f_M_heights (g0 : gG) (a0 : Nat) (p1 : Int32) (p2 : Int64) (p3 : Int64) (w : gW) : gX Unit := (gfA w a0 7 25).bind fun v1 => gjoin (fun K18 => if p3 ≤ p2 then (K18 p3 w) else (K18 p2 w)) (fun (y3 : Int64) (w : gW) => (gsJ w v1 p1 y3).bind fun w => (gfA w a0 7 26).bind fun v5 => gjoin (fun K37 => if p3 ≤ p2 then (K37 p2 w) else (K37 p3 w)) (fun (y7 : Int64) (w : gW) => (gsJ w v5 p1 y7).bind fun w => some (.inr (), w)))
set_option maxHeartbeats 4000000 in
set_option maxRecDepth 100000 in
theorem m_M_heights (l : Launch) (hst : l.stackTraces = false) (D : gD) (g0 : gG) (a0 : Nat) (p1 : Int32) (p2 : Int64) (p3 : Int64) (w : gW) (r : (String ⊕ Unit) × gW) (h : f_M_heights g0 a0 p1 p2 p3 w = some r) : gMet l y_M_heights (.code y_M_heights b_M_heights 6 none) rm_M_heights D g0 [.ref a0, .int p1, .long p2, .long p3] w (goV r) := by
  refine gw_ofV (by decide +kernel) (Nat.le_of_ble_eq_true rfl) ?_
  intro p e s m below meth c ls args A Q hx hb hml hown hlocks hin hnt hT hK hZ hA hret hexc hthr hI hl
  obtain ⟨H, hH⟩ : ∃ H, H = s.heap := ⟨_, rfl⟩
  rw [← hH] at hI ⊢
  obtain ⟨locs, hlocs⟩ : ∃ z : List Loc, z = [] := ⟨_, rfl⟩
  rw [← hlocs] at hI ⊢
  have hl : lv_has ls 6 [(0, .ref a0), (1, .int p1), (2, .long p2), (4, .long p3)] := hl
  unfold f_M_heights at h
  refine lv_aload_n hx hb d_M_heights_0 rfl (lv_at hl 0 rfl) ?_
  obtain ⟨v1, e2, h⟩ := gb h
  refine gw_getA hx hb hT hown hK hI (ci := 7) rfl i_7 25 (by decide) wd_811 (fun _ h9 => h9) e2 d_M_heights_1 ?_
  refine lv_iload_n hx hb d_M_heights_4 rfl (lv_at hl 1 rfl) ?_
  refine lv_lload_n hx hb d_M_heights_5 rfl (lv_at hl 2 rfl) ?_
  refine lv_lload hx hb d_M_heights_6 (lv_at hl 3 rfl) ?_
  refine W.lcmp hx hb d_M_heights_8 ?_
  obtain ⟨K18, eK18, h⟩ := gj h
  have hK18 : ∀ (y3 : Int64) (w : gW) (H : Heap) (locs : List Loc) (ls : Array Slot), K18 y3 w = some r → gI D s A w H locs → lv_has ls 6 [(0, .ref a0), (1, .int p1), (2, .long p2), (4, .long p3)] → W p l e rm_M_heights s m args below meth c H locs 0 0 Q (F0 m 18 ls [.long y3, .int p1, .ref v1]) := by
    intro y3 w H locs ls h hI hl
    have h := gk2 eK18 h
    obtain ⟨w, e4, h⟩ := gb h
    refine gw_astJ hx hb hK hI e4 d_M_heights_18 (fun H locs hI => ?_)
    refine lv_aload_n hx hb d_M_heights_19 rfl (lv_at hl 0 rfl) ?_
    obtain ⟨v5, e6, h⟩ := gb h
    refine gw_getA hx hb hT hown hK hI (ci := 7) rfl i_7 26 (by decide) wd_812 (fun _ h9 => h9) e6 d_M_heights_20 ?_
    refine lv_iload_n hx hb d_M_heights_23 rfl (lv_at hl 1 rfl) ?_
    refine lv_lload_n hx hb d_M_heights_24 rfl (lv_at hl 2 rfl) ?_
    refine lv_lload hx hb d_M_heights_25 (lv_at hl 3 rfl) ?_
    refine W.lcmp hx hb d_M_heights_27 ?_
    obtain ⟨K37, eK37, h⟩ := gj h
    have hK37 : ∀ (y7 : Int64) (w : gW) (H : Heap) (locs : List Loc) (ls : Array Slot), K37 y7 w = some r → gI D s A w H locs → lv_has ls 6 [] → W p l e rm_M_heights s m args below meth c H locs 0 0 Q (F0 m 37 ls [.long y7, .int p1, .ref v5]) := by
      intro y7 w H locs ls h hI hl
      have h := gk2 eK37 h
      obtain ⟨w, e8, h⟩ := gb h
      refine gw_astJ hx hb hK hI e8 d_M_heights_37 (fun H locs hI => ?_)
      exact W.widen (show 0 ≤ 0 by omega) (show 0 ≤ 0 by omega) (hret _ _ (Option.some.inj h).symm _ _ _ _ d_M_heights_38 hI)
    refine lv_if_ge (tgt := 36) hx hb d_M_heights_28 (by decide) (fun c9 => ?_) (fun c9 => ?_)
    · have c9 := (lg_cmp_ge _ _).mp c9
      have h := git c9 h
      refine lv_lload_n hx hb d_M_heights_36 rfl (lv_at hl 2 rfl) ?_
      exact hK37 _ w H locs ls h hI (lv_sub hl [] rfl)
    · have c9 := mt (lg_cmp_ge _ _).mpr c9
      have h := gie c9 h
      refine lv_lload hx hb d_M_heights_31 (lv_at hl 3 rfl) ?_
      refine lv_goto (tgt := 37) hx hb d_M_heights_33 (by decide) ?_
      exact hK37 _ w H locs ls h hI (lv_sub hl [] rfl)
  refine lv_if_ge (tgt := 16) hx hb d_M_heights_9 (by decide) (fun c10 => ?_) (fun c10 => ?_)
  · have c10 := (lg_cmp_ge _ _).mp c10
    have h := git c10 h
    refine lv_lload hx hb d_M_heights_16 (lv_at hl 3 rfl) ?_
    exact hK18 _ w H locs ls h hI (lv_sub hl [0, 1, 2, 3] rfl)
  · have c10 := mt (lg_cmp_ge _ _).mpr c10
    have h := gie c10 h
    refine lv_lload_n hx hb d_M_heights_12 rfl (lv_at hl 2 rfl) ?_
    refine lv_goto (tgt := 18) hx hb d_M_heights_13 (by decide) ?_
    exact hK18 _ w H locs ls h hI (lv_sub hl [0, 1, 2, 3] rfl)
