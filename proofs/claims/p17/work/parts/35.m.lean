abbrev b_M_lesser : ByteArray := prog_9_method_44_code
def y_M_lesser : MethodName := ⟨"BodySolidsModel", "lesser", "(JJ)J"⟩
theorem d_M_lesser_0 : decode b_M_lesser 0 = .ok (.lload_n 0, 1) := by decide +kernel
theorem d_M_lesser_1 : decode b_M_lesser 1 = .ok (.lload_n 2, 1) := by decide +kernel
theorem d_M_lesser_2 : decode b_M_lesser 2 = .ok (.lcmp, 1) := by decide +kernel
theorem d_M_lesser_3 : decode b_M_lesser 3 = .ok (.ifCond .ge 7, 3) := by decide +kernel
theorem d_M_lesser_6 : decode b_M_lesser 6 = .ok (.lload_n 0, 1) := by decide +kernel
theorem d_M_lesser_7 : decode b_M_lesser 7 = .ok (.goto 4, 3) := by decide +kernel
theorem d_M_lesser_10 : decode b_M_lesser 10 = .ok (.lload_n 2, 1) := by decide +kernel
theorem d_M_lesser_11 : decode b_M_lesser 11 = .ok (.lreturn, 1) := by decide +kernel
abbrev rm_M_lesser : Room := { frames := 0, cells := 0, slots := 0, locals := 0 }
theorem ce_M_lesser : gCe y_M_lesser (.code y_M_lesser b_M_lesser 4 (some .long)) 4 2 true := gCe.code wd_1010 wd_57 wd_1009 (by decide) (by decide +kernel)
def f_M_lesser (g0 : gG) (p0 : Int64) (p1 : Int64) (w : gW) : gX Int64 := gjoin (fun K11 => if p1 ≤ p0 then (K11 p1 w) else (K11 p0 w)) (fun (y1 : Int64) (w : gW) => some (.inr y1, w))
set_option maxHeartbeats 4000000 in
set_option maxRecDepth 100000 in
theorem m_M_lesser (l : Launch) (hst : l.stackTraces = false) (D : gD) (g0 : gG) (p0 : Int64) (p1 : Int64) (w : gW) (r : (String ⊕ Int64) × gW) (h : f_M_lesser g0 p0 p1 w = some r) : gMet l y_M_lesser (.code y_M_lesser b_M_lesser 4 (some .long)) rm_M_lesser D g0 [.long p0, .long p1] w (goJ r) := by
  refine gw_ofJ (by decide +kernel) (Nat.le_of_ble_eq_true rfl) ?_
  intro p e s m below meth c ls args A Q hx hb hml hown hlocks hin hnt hT hK hZ hA hret hexc hthr hI hl
  obtain ⟨H, hH⟩ : ∃ H, H = s.heap := ⟨_, rfl⟩
  rw [← hH] at hI ⊢
  obtain ⟨locs, hlocs⟩ : ∃ z : List Loc, z = [] := ⟨_, rfl⟩
  rw [← hlocs] at hI ⊢
  have hl : lv_has ls 4 [(0, .long p0), (2, .long p1)] := hl
  unfold f_M_lesser at h
  refine lv_lload_n hx hb d_M_lesser_0 rfl (lv_at hl 0 rfl) ?_
  refine lv_lload_n hx hb d_M_lesser_1 rfl (lv_at hl 1 rfl) ?_
  refine W.lcmp hx hb d_M_lesser_2 ?_
  obtain ⟨K11, eK11, h⟩ := gj h
  have hK11 : ∀ (y1 : Int64) (w : gW) (H : Heap) (locs : List Loc) (ls : Array Slot), K11 y1 w = some r → gI D s A w H locs → lv_has ls 4 [] → W p l e rm_M_lesser s m args below meth c H locs 0 0 Q (F0 m 11 ls [.long y1]) := by
    intro y1 w H locs ls h hI hl
    have h := gk2 eK11 h
    exact W.widen (show 0 ≤ 0 by omega) (show 0 ≤ 0 by omega) (hret _ _ (Option.some.inj h).symm _ _ _ _ d_M_lesser_11 hI)
  refine lv_if_ge (tgt := 10) hx hb d_M_lesser_3 (by decide) (fun c2 => ?_) (fun c2 => ?_)
  · have c2 := (lg_cmp_ge _ _).mp c2
    have h := git c2 h
    refine lv_lload_n hx hb d_M_lesser_10 rfl (lv_at hl 1 rfl) ?_
    exact hK11 _ w H locs ls h hI (lv_sub hl [] rfl)
  · have c2 := mt (lg_cmp_ge _ _).mpr c2
    have h := gie c2 h
    refine lv_lload_n hx hb d_M_lesser_6 rfl (lv_at hl 0 rfl) ?_
    refine lv_goto (tgt := 11) hx hb d_M_lesser_7 (by decide) ?_
    exact hK11 _ w H locs ls h hI (lv_sub hl [] rfl)

abbrev b_M_greater : ByteArray := prog_9_method_45_code
def y_M_greater : MethodName := ⟨"BodySolidsModel", "greater", "(JJ)J"⟩
theorem d_M_greater_0 : decode b_M_greater 0 = .ok (.lload_n 0, 1) := by decide +kernel
theorem d_M_greater_1 : decode b_M_greater 1 = .ok (.lload_n 2, 1) := by decide +kernel
theorem d_M_greater_2 : decode b_M_greater 2 = .ok (.lcmp, 1) := by decide +kernel
theorem d_M_greater_3 : decode b_M_greater 3 = .ok (.ifCond .ge 7, 3) := by decide +kernel
theorem d_M_greater_6 : decode b_M_greater 6 = .ok (.lload_n 2, 1) := by decide +kernel
theorem d_M_greater_7 : decode b_M_greater 7 = .ok (.goto 4, 3) := by decide +kernel
theorem d_M_greater_10 : decode b_M_greater 10 = .ok (.lload_n 0, 1) := by decide +kernel
theorem d_M_greater_11 : decode b_M_greater 11 = .ok (.lreturn, 1) := by decide +kernel
abbrev rm_M_greater : Room := { frames := 0, cells := 0, slots := 0, locals := 0 }
theorem ce_M_greater : gCe y_M_greater (.code y_M_greater b_M_greater 4 (some .long)) 4 2 true := gCe.code wd_1013 wd_57 wd_1012 (by decide) (by decide +kernel)
def f_M_greater (g0 : gG) (p0 : Int64) (p1 : Int64) (w : gW) : gX Int64 := gjoin (fun K11 => if p1 ≤ p0 then (K11 p0 w) else (K11 p1 w)) (fun (y1 : Int64) (w : gW) => some (.inr y1, w))
set_option maxHeartbeats 4000000 in
set_option maxRecDepth 100000 in
theorem m_M_greater (l : Launch) (hst : l.stackTraces = false) (D : gD) (g0 : gG) (p0 : Int64) (p1 : Int64) (w : gW) (r : (String ⊕ Int64) × gW) (h : f_M_greater g0 p0 p1 w = some r) : gMet l y_M_greater (.code y_M_greater b_M_greater 4 (some .long)) rm_M_greater D g0 [.long p0, .long p1] w (goJ r) := by
  refine gw_ofJ (by decide +kernel) (Nat.le_of_ble_eq_true rfl) ?_
  intro p e s m below meth c ls args A Q hx hb hml hown hlocks hin hnt hT hK hZ hA hret hexc hthr hI hl
  obtain ⟨H, hH⟩ : ∃ H, H = s.heap := ⟨_, rfl⟩
  rw [← hH] at hI ⊢
  obtain ⟨locs, hlocs⟩ : ∃ z : List Loc, z = [] := ⟨_, rfl⟩
  rw [← hlocs] at hI ⊢
  have hl : lv_has ls 4 [(0, .long p0), (2, .long p1)] := hl
  unfold f_M_greater at h
  refine lv_lload_n hx hb d_M_greater_0 rfl (lv_at hl 0 rfl) ?_
  refine lv_lload_n hx hb d_M_greater_1 rfl (lv_at hl 1 rfl) ?_
  refine W.lcmp hx hb d_M_greater_2 ?_
  obtain ⟨K11, eK11, h⟩ := gj h
  have hK11 : ∀ (y1 : Int64) (w : gW) (H : Heap) (locs : List Loc) (ls : Array Slot), K11 y1 w = some r → gI D s A w H locs → lv_has ls 4 [] → W p l e rm_M_greater s m args below meth c H locs 0 0 Q (F0 m 11 ls [.long y1]) := by
    intro y1 w H locs ls h hI hl
    have h := gk2 eK11 h
    exact W.widen (show 0 ≤ 0 by omega) (show 0 ≤ 0 by omega) (hret _ _ (Option.some.inj h).symm _ _ _ _ d_M_greater_11 hI)
  refine lv_if_ge (tgt := 10) hx hb d_M_greater_3 (by decide) (fun c2 => ?_) (fun c2 => ?_)
  · have c2 := (lg_cmp_ge _ _).mp c2
    have h := git c2 h
    refine lv_lload_n hx hb d_M_greater_10 rfl (lv_at hl 0 rfl) ?_
    exact hK11 _ w H locs ls h hI (lv_sub hl [] rfl)
  · have c2 := mt (lg_cmp_ge _ _).mpr c2
    have h := gie c2 h
    refine lv_lload_n hx hb d_M_greater_6 rfl (lv_at hl 1 rfl) ?_
    refine lv_goto (tgt := 11) hx hb d_M_greater_7 (by decide) ?_
    exact hK11 _ w H locs ls h hI (lv_sub hl [] rfl)

abbrev b_M_edge : ByteArray := prog_9_method_60_code
def y_M_edge : MethodName := ⟨"BodySolidsModel", "edge", "(I)J"⟩
theorem d_M_edge_0 : decode b_M_edge 0 = .ok (.aload_n 0, 1) := by decide +kernel
theorem d_M_edge_1 : decode b_M_edge 1 = .ok (.getfield 53, 3) := by decide +kernel
theorem d_M_edge_4 : decode b_M_edge 4 = .ok (.iconst 0, 1) := by decide +kernel
theorem d_M_edge_5 : decode b_M_edge 5 = .ok (.iaload, 1) := by decide +kernel
theorem d_M_edge_6 : decode b_M_edge 6 = .ok (.iconst 2, 1) := by decide +kernel
theorem d_M_edge_7 : decode b_M_edge 7 = .ok (.if_icmp .ne 7, 3) := by decide +kernel
theorem d_M_edge_10 : decode b_M_edge 10 = .ok (.lconst 0, 1) := by decide +kernel
theorem d_M_edge_11 : decode b_M_edge 11 = .ok (.goto 9, 3) := by decide +kernel
theorem d_M_edge_14 : decode b_M_edge 14 = .ok (.aload_n 0, 1) := by decide +kernel
theorem d_M_edge_15 : decode b_M_edge 15 = .ok (.getfield 65, 3) := by decide +kernel
theorem d_M_edge_18 : decode b_M_edge 18 = .ok (.iconst 0, 1) := by decide +kernel
theorem d_M_edge_19 : decode b_M_edge 19 = .ok (.laload, 1) := by decide +kernel
theorem d_M_edge_20 : decode b_M_edge 20 = .ok (.lstore_n 2, 1) := by decide +kernel
theorem d_M_edge_21 : decode b_M_edge 21 = .ok (.iload_n 1, 1) := by decide +kernel
theorem d_M_edge_22 : decode b_M_edge 22 = .ok (.iconst 2, 1) := by decide +kernel
theorem d_M_edge_23 : decode b_M_edge 23 = .ok (.if_icmp .ne 26, 3) := by decide +kernel
theorem d_M_edge_26 : decode b_M_edge 26 = .ok (.aload_n 0, 1) := by decide +kernel
theorem d_M_edge_27 : decode b_M_edge 27 = .ok (.getfield 68, 3) := by decide +kernel
theorem d_M_edge_30 : decode b_M_edge 30 = .ok (.iconst 0, 1) := by decide +kernel
theorem d_M_edge_31 : decode b_M_edge 31 = .ok (.laload, 1) := by decide +kernel
theorem d_M_edge_32 : decode b_M_edge 32 = .ok (.aload_n 0, 1) := by decide +kernel
theorem d_M_edge_33 : decode b_M_edge 33 = .ok (.getfield 53, 3) := by decide +kernel
theorem d_M_edge_36 : decode b_M_edge 36 = .ok (.iconst 0, 1) := by decide +kernel
theorem d_M_edge_37 : decode b_M_edge 37 = .ok (.iaload, 1) := by decide +kernel
theorem d_M_edge_38 : decode b_M_edge 38 = .ok (.iconst 3, 1) := by decide +kernel
theorem d_M_edge_39 : decode b_M_edge 39 = .ok (.if_icmp .ne 7, 3) := by decide +kernel
theorem d_M_edge_42 : decode b_M_edge 42 = .ok (.lload_n 2, 1) := by decide +kernel
theorem d_M_edge_43 : decode b_M_edge 43 = .ok (.goto 4, 3) := by decide +kernel
theorem d_M_edge_46 : decode b_M_edge 46 = .ok (.lconst 0, 1) := by decide +kernel
theorem d_M_edge_47 : decode b_M_edge 47 = .ok (.lsub, 1) := by decide +kernel
theorem d_M_edge_48 : decode b_M_edge 48 = .ok (.lreturn, 1) := by decide +kernel
theorem d_M_edge_49 : decode b_M_edge 49 = .ok (.iload_n 1, 1) := by decide +kernel
theorem d_M_edge_50 : decode b_M_edge 50 = .ok (.iconst 5, 1) := by decide +kernel
theorem d_M_edge_51 : decode b_M_edge 51 = .ok (.if_icmp .ne 26, 3) := by decide +kernel
theorem d_M_edge_54 : decode b_M_edge 54 = .ok (.aload_n 0, 1) := by decide +kernel
theorem d_M_edge_55 : decode b_M_edge 55 = .ok (.getfield 71, 3) := by decide +kernel
theorem d_M_edge_58 : decode b_M_edge 58 = .ok (.iconst 0, 1) := by decide +kernel
theorem d_M_edge_59 : decode b_M_edge 59 = .ok (.laload, 1) := by decide +kernel
theorem d_M_edge_60 : decode b_M_edge 60 = .ok (.aload_n 0, 1) := by decide +kernel
theorem d_M_edge_61 : decode b_M_edge 61 = .ok (.getfield 53, 3) := by decide +kernel
theorem d_M_edge_64 : decode b_M_edge 64 = .ok (.iconst 0, 1) := by decide +kernel
theorem d_M_edge_65 : decode b_M_edge 65 = .ok (.iaload, 1) := by decide +kernel
theorem d_M_edge_66 : decode b_M_edge 66 = .ok (.iconst 3, 1) := by decide +kernel
theorem d_M_edge_67 : decode b_M_edge 67 = .ok (.if_icmp .ne 7, 3) := by decide +kernel
theorem d_M_edge_70 : decode b_M_edge 70 = .ok (.lload_n 2, 1) := by decide +kernel
theorem d_M_edge_71 : decode b_M_edge 71 = .ok (.goto 4, 3) := by decide +kernel
theorem d_M_edge_74 : decode b_M_edge 74 = .ok (.lconst 0, 1) := by decide +kernel
theorem d_M_edge_75 : decode b_M_edge 75 = .ok (.ladd, 1) := by decide +kernel
theorem d_M_edge_76 : decode b_M_edge 76 = .ok (.lreturn, 1) := by decide +kernel
theorem d_M_edge_77 : decode b_M_edge 77 = .ok (.iload_n 1, 1) := by decide +kernel
theorem d_M_edge_78 : decode b_M_edge 78 = .ok (.iconst 3, 1) := by decide +kernel
theorem d_M_edge_79 : decode b_M_edge 79 = .ok (.irem, 1) := by decide +kernel
theorem d_M_edge_80 : decode b_M_edge 80 = .ok (.ifCond .ne 12, 3) := by decide +kernel
theorem d_M_edge_83 : decode b_M_edge 83 = .ok (.aload_n 0, 1) := by decide +kernel
theorem d_M_edge_84 : decode b_M_edge 84 = .ok (.getfield 59, 3) := by decide +kernel
theorem d_M_edge_87 : decode b_M_edge 87 = .ok (.iconst 0, 1) := by decide +kernel
theorem d_M_edge_88 : decode b_M_edge 88 = .ok (.laload, 1) := by decide +kernel
theorem d_M_edge_89 : decode b_M_edge 89 = .ok (.goto 9, 3) := by decide +kernel
theorem d_M_edge_92 : decode b_M_edge 92 = .ok (.aload_n 0, 1) := by decide +kernel
theorem d_M_edge_93 : decode b_M_edge 93 = .ok (.getfield 62, 3) := by decide +kernel
theorem d_M_edge_96 : decode b_M_edge 96 = .ok (.iconst 0, 1) := by decide +kernel
theorem d_M_edge_97 : decode b_M_edge 97 = .ok (.laload, 1) := by decide +kernel
theorem d_M_edge_98 : decode b_M_edge 98 = .ok (.lstore 4, 2) := by decide +kernel
theorem d_M_edge_100 : decode b_M_edge 100 = .ok (.iconst 1, 1) := by decide +kernel
theorem d_M_edge_101 : decode b_M_edge 101 = .ok (.istore 6, 2) := by decide +kernel
theorem d_M_edge_103 : decode b_M_edge 103 = .ok (.iload 6, 2) := by decide +kernel
theorem d_M_edge_105 : decode b_M_edge 105 = .ok (.aload_n 0, 1) := by decide +kernel
theorem d_M_edge_106 : decode b_M_edge 106 = .ok (.getfield 56, 3) := by decide +kernel
theorem d_M_edge_109 : decode b_M_edge 109 = .ok (.iconst 0, 1) := by decide +kernel
theorem d_M_edge_110 : decode b_M_edge 110 = .ok (.iaload, 1) := by decide +kernel
theorem d_M_edge_111 : decode b_M_edge 111 = .ok (.if_icmp .ge 58, 3) := by decide +kernel
theorem d_M_edge_114 : decode b_M_edge 114 = .ok (.iload_n 1, 1) := by decide +kernel
theorem d_M_edge_115 : decode b_M_edge 115 = .ok (.iconst 3, 1) := by decide +kernel
theorem d_M_edge_116 : decode b_M_edge 116 = .ok (.irem, 1) := by decide +kernel
theorem d_M_edge_117 : decode b_M_edge 117 = .ok (.ifCond .ne 13, 3) := by decide +kernel
theorem d_M_edge_120 : decode b_M_edge 120 = .ok (.aload_n 0, 1) := by decide +kernel
theorem d_M_edge_121 : decode b_M_edge 121 = .ok (.getfield 59, 3) := by decide +kernel
theorem d_M_edge_124 : decode b_M_edge 124 = .ok (.iload 6, 2) := by decide +kernel
theorem d_M_edge_126 : decode b_M_edge 126 = .ok (.laload, 1) := by decide +kernel
theorem d_M_edge_127 : decode b_M_edge 127 = .ok (.goto 10, 3) := by decide +kernel
theorem d_M_edge_130 : decode b_M_edge 130 = .ok (.aload_n 0, 1) := by decide +kernel
theorem d_M_edge_131 : decode b_M_edge 131 = .ok (.getfield 62, 3) := by decide +kernel
theorem d_M_edge_134 : decode b_M_edge 134 = .ok (.iload 6, 2) := by decide +kernel
theorem d_M_edge_136 : decode b_M_edge 136 = .ok (.laload, 1) := by decide +kernel
theorem d_M_edge_137 : decode b_M_edge 137 = .ok (.lstore 7, 2) := by decide +kernel
theorem d_M_edge_139 : decode b_M_edge 139 = .ok (.iload_n 1, 1) := by decide +kernel
theorem d_M_edge_140 : decode b_M_edge 140 = .ok (.iconst 3, 1) := by decide +kernel
theorem d_M_edge_141 : decode b_M_edge 141 = .ok (.if_icmp .ge 13, 3) := by decide +kernel
theorem d_M_edge_144 : decode b_M_edge 144 = .ok (.lload 4, 2) := by decide +kernel
theorem d_M_edge_146 : decode b_M_edge 146 = .ok (.lload 7, 2) := by decide +kernel
theorem d_M_edge_148 : decode b_M_edge 148 = .ok (.invokestatic 219, 3) := by decide +kernel
theorem d_M_edge_151 : decode b_M_edge 151 = .ok (.goto 10, 3) := by decide +kernel
theorem d_M_edge_154 : decode b_M_edge 154 = .ok (.lload 4, 2) := by decide +kernel
theorem d_M_edge_156 : decode b_M_edge 156 = .ok (.lload 7, 2) := by decide +kernel
theorem d_M_edge_158 : decode b_M_edge 158 = .ok (.invokestatic 222, 3) := by decide +kernel
theorem d_M_edge_161 : decode b_M_edge 161 = .ok (.lstore 4, 2) := by decide +kernel
theorem d_M_edge_163 : decode b_M_edge 163 = .ok (.iinc 6 1, 3) := by decide +kernel
theorem d_M_edge_166 : decode b_M_edge 166 = .ok (.goto (-63), 3) := by decide +kernel
theorem d_M_edge_169 : decode b_M_edge 169 = .ok (.iload_n 1, 1) := by decide +kernel
theorem d_M_edge_170 : decode b_M_edge 170 = .ok (.iconst 3, 1) := by decide +kernel
theorem d_M_edge_171 : decode b_M_edge 171 = .ok (.if_icmp .ge 10, 3) := by decide +kernel
theorem d_M_edge_174 : decode b_M_edge 174 = .ok (.lload 4, 2) := by decide +kernel
theorem d_M_edge_176 : decode b_M_edge 176 = .ok (.lload_n 2, 1) := by decide +kernel
theorem d_M_edge_177 : decode b_M_edge 177 = .ok (.lsub, 1) := by decide +kernel
theorem d_M_edge_178 : decode b_M_edge 178 = .ok (.goto 7, 3) := by decide +kernel
theorem d_M_edge_181 : decode b_M_edge 181 = .ok (.lload 4, 2) := by decide +kernel
theorem d_M_edge_183 : decode b_M_edge 183 = .ok (.lload_n 2, 1) := by decide +kernel
theorem d_M_edge_184 : decode b_M_edge 184 = .ok (.ladd, 1) := by decide +kernel
theorem d_M_edge_185 : decode b_M_edge 185 = .ok (.lreturn, 1) := by decide +kernel
abbrev rm_M_edge : Room := { frames := 1, cells := 0, slots := 0, locals := 23 }
theorem ce_M_edge : gCe y_M_edge (.code y_M_edge b_M_edge 9 (some .long)) 9 1 false := gCe.code wd_1105 wd_57 wd_1104 (by decide) (by decide +kernel)
def f_M_edge_L103 (g0 : gG) (c0 : Nat) (c1 : Int32) (c2 : Int64) (K169 : Int64 → gW → gX Int64) : Nat → Int64 → Int32 → gW → gX Int64
  | 0, _, _, _ => none
  | n + 1, z4, z6, w => (gfA w c0 7 21).bind fun v13 => (gaI w v13 0).bind fun v15 => if v15 ≤ z6 then (K169 z4 w) else (gguard (¬ (3 : Int32) = 0) (gjoin (fun K137 => if (c1 - c1 / 3 * 3) = 0 then ((gfA w c0 7 22).bind fun v33 => (gaJ w v33 z6).bind fun v35 => K137 v35 w) else ((gfA w c0 7 23).bind fun v29 => (gaJ w v29 z6).bind fun v31 => K137 v31 w)) (fun (y19 : Int64) (w : gW) => gjoin (fun K161 => if 3 ≤ c1 then (gbind (f_M_greater g0 z4 y19 w) fun v24 w => K161 v24 w) else (gbind (f_M_lesser g0 z4 y19 w) fun v27 w => K161 v27 w)) (fun (y20 : Int64) (w : gW) => f_M_edge_L103 g0 c0 c1 c2 K169 n y20 (z6 + 1) w))))
def f_M_edge (g0 : gG) (a0 : Nat) (p1 : Int32) (w : gW) : gX Int64 := (gfA w a0 7 20).bind fun v1 => (gaI w v1 0).bind fun v3 => gjoin (fun K20 => if v3 = 2 then (K20 0 w) else ((gfA w a0 7 24).bind fun v69 => (gaJ w v69 0).bind fun v71 => K20 v71 w)) (fun (y5 : Int64) (w : gW) => if p1 = 2 then ((gfA w a0 7 25).bind fun v58 => (gaJ w v58 0).bind fun v60 => (gfA w a0 7 20).bind fun v62 => (gaI w v62 0).bind fun v64 => gjoin (fun K47 => if v64 = 3 then (K47 y5 w) else (K47 0 w)) (fun (y66 : Int64) (w : gW) => some (.inr (v60 - y66), w))) else (if p1 = 5 then ((gfA w a0 7 26).bind fun v48 => (gaJ w v48 0).bind fun v50 => (gfA w a0 7 20).bind fun v52 => (gaI w v52 0).bind fun v54 => gjoin (fun K75 => if v54 = 3 then (K75 y5 w) else (K75 0 w)) (fun (y56 : Int64) (w : gW) => some (.inr (v50 + y56), w))) else (gguard (¬ (3 : Int32) = 0) (gjoin (fun K98 => if (p1 - p1 / 3 * 3) = 0 then ((gfA w a0 7 22).bind fun v44 => (gaJ w v44 0).bind fun v46 => K98 v46 w) else ((gfA w a0 7 23).bind fun v40 => (gaJ w v40 0).bind fun v42 => K98 v42 w)) (fun (y9 : Int64) (w : gW) => gjoin (fun K169 => f_M_edge_L103 g0 a0 p1 y5 K169 64 y9 1 w) (fun (x10 : Int64) (w : gW) => gjoin (fun K185 => if 3 ≤ p1 then (K185 (x10 + y5) w) else (K185 (x10 - y5) w)) (fun (y11 : Int64) (w : gW) => some (.inr y11, w))))))))
set_option maxHeartbeats 4000000 in
set_option maxRecDepth 100000 in
theorem m_M_edge (l : Launch) (hst : l.stackTraces = false) (D : gD) (g0 : gG) (a0 : Nat) (p1 : Int32) (w : gW) (r : (String ⊕ Int64) × gW) (h : f_M_edge g0 a0 p1 w = some r) : gMet l y_M_edge (.code y_M_edge b_M_edge 9 (some .long)) rm_M_edge D g0 [.ref a0, .int p1] w (goJ r) := by
  refine gw_ofJ (by decide +kernel) (Nat.le_of_ble_eq_true rfl) ?_
  intro p e s m below meth c ls args A Q hx hb hml hown hlocks hin hnt hT hK hZ hA hret hexc hthr hI hl
  obtain ⟨H, hH⟩ : ∃ H, H = s.heap := ⟨_, rfl⟩
  rw [← hH] at hI ⊢
  obtain ⟨locs, hlocs⟩ : ∃ z : List Loc, z = [] := ⟨_, rfl⟩
  rw [← hlocs] at hI ⊢
  have hl : lv_has ls 9 [(0, .ref a0), (1, .int p1)] := hl
  unfold f_M_edge at h
  refine lv_aload_n hx hb d_M_edge_0 rfl (lv_at hl 0 rfl) ?_
  obtain ⟨v1, e2, h⟩ := gb h
  refine gw_getA hx hb hT hown hK hI (ci := 7) rfl i_7 20 (by decide) wd_806 (fun _ h9 => h9) e2 d_M_edge_1 ?_
  refine lv_iconst (v := 0) hx hb d_M_edge_4 (by decide) ?_
  obtain ⟨v3, e4, h⟩ := gb h
  refine gw_aldI hx hb hK hI e4 d_M_edge_5 ?_
  refine lv_iconst (v := 2) hx hb d_M_edge_6 (by decide) ?_
  obtain ⟨K20, eK20, h⟩ := gj h
  have hK20 : ∀ (y5 : Int64) (w : gW) (H : Heap) (locs : List Loc) (ls : Array Slot), K20 y5 w = some r → gI D s A w H locs → lv_has ls 9 [(0, .ref a0), (1, .int p1)] → W p l e rm_M_edge s m args below meth c H locs 0 0 Q (F0 m 20 ls [.long y5]) := by
    intro y5 w H locs ls h hI hl
    have h := gk2 eK20 h
    refine lv_lstore_n (lv' := [(2, .long y5), (0, .ref a0), (1, .int p1)]) hx hb d_M_edge_20 rfl hl (by decide) rfl (fun ls hl => ?_)
    refine lv_iload_n hx hb d_M_edge_21 rfl (lv_at hl 2 rfl) ?_
    refine lv_iconst (v := 2) hx hb d_M_edge_22 (by decide) ?_
    refine lv_icmp_ne (tgt := 49) hx hb d_M_edge_23 (by decide) (fun c6 => ?_) (fun c6 => ?_)
    · skip
      have h := gie c6 h
      refine lv_iload_n hx hb d_M_edge_49 rfl (lv_at hl 2 rfl) ?_
      refine lv_iconst (v := 5) hx hb d_M_edge_50 (by decide) ?_
      refine lv_icmp_ne (tgt := 77) hx hb d_M_edge_51 (by decide) (fun c7 => ?_) (fun c7 => ?_)
      · skip
        have h := gie c7 h
        refine lv_iload_n hx hb d_M_edge_77 rfl (lv_at hl 2 rfl) ?_
        refine lv_iconst (v := 3) hx hb d_M_edge_78 (by decide) ?_
        obtain ⟨g8, h⟩ := gif h
        refine lv_irem hx hb d_M_edge_79 g8 ?_
        obtain ⟨K98, eK98, h⟩ := gj h
        have hK98 : ∀ (y9 : Int64) (w : gW) (H : Heap) (locs : List Loc) (ls : Array Slot), K98 y9 w = some r → gI D s A w H locs → lv_has ls 9 [(0, .ref a0), (1, .int p1), (2, .long y5)] → W p l e rm_M_edge s m args below meth c H locs 0 0 Q (F0 m 98 ls [.long y9]) := by
          intro y9 w H locs ls h hI hl
          have h := gk2 eK98 h
          refine lv_lstore (lv' := [(4, .long y9), (0, .ref a0), (1, .int p1), (2, .long y5)]) hx hb d_M_edge_98 hl (by decide) rfl (fun ls hl => ?_)
          refine lv_iconst (v := 1) hx hb d_M_edge_100 (by decide) ?_
          refine lv_istore (lv' := [(6, .int 1), (4, .long y9), (0, .ref a0), (1, .int p1), (2, .long y5)]) hx hb d_M_edge_101 hl (by decide) rfl (fun ls hl => ?_)
          obtain ⟨K169, eK169, h⟩ := gj h
          have hK169 : ∀ (x10 : Int64) (w : gW) (H : Heap) (locs : List Loc) (ls : Array Slot), K169 x10 w = some r → gI D s A w H locs → lv_has ls 9 [(1, .int p1), (2, .long y5), (4, .long x10)] → W p l e rm_M_edge s m args below meth c H locs 0 0 Q (F0 m 169 ls []) := by
            intro x10 w H locs ls h hI hl
            have h := gk2 eK169 h
            refine lv_iload_n hx hb d_M_edge_169 rfl (lv_at hl 0 rfl) ?_
            refine lv_iconst (v := 3) hx hb d_M_edge_170 (by decide) ?_
            obtain ⟨K185, eK185, h⟩ := gj h
            have hK185 : ∀ (y11 : Int64) (w : gW) (H : Heap) (locs : List Loc) (ls : Array Slot), K185 y11 w = some r → gI D s A w H locs → lv_has ls 9 [] → W p l e rm_M_edge s m args below meth c H locs 0 0 Q (F0 m 185 ls [.long y11]) := by
              intro y11 w H locs ls h hI hl
              have h := gk2 eK185 h
              exact W.widen (show 0 ≤ 0 by omega) (show 0 ≤ 0 by omega) (hret _ _ (Option.some.inj h).symm _ _ _ _ d_M_edge_185 hI)
            refine lv_icmp_ge (tgt := 181) hx hb d_M_edge_171 (by decide) (fun c12 => ?_) (fun c12 => ?_)
            · skip
              have h := git c12 h
              refine lv_lload hx hb d_M_edge_181 (lv_at hl 2 rfl) ?_
              refine lv_lload_n hx hb d_M_edge_183 rfl (lv_at hl 1 rfl) ?_
              refine lv_ladd hx hb d_M_edge_184 ?_
              exact hK185 _ w H locs ls h hI (lv_sub hl [] rfl)
            · skip
              have h := gie c12 h
              refine lv_lload hx hb d_M_edge_174 (lv_at hl 2 rfl) ?_
              refine lv_lload_n hx hb d_M_edge_176 rfl (lv_at hl 1 rfl) ?_
              refine lv_lsub hx hb d_M_edge_177 ?_
              refine lv_goto (tgt := 185) hx hb d_M_edge_178 (by decide) ?_
              exact hK185 _ w H locs ls h hI (lv_sub hl [] rfl)
          have hL103 : ∀ (n : Nat), ∀ (z13 : Int64) (z14 : Int32) (w : gW) (H : Heap) (locs : List Loc) (ls : Array Slot), f_M_edge_L103 g0 a0 p1 y5 K169 n z13 z14 w = some r → gI D s A w H locs → lv_has ls 9 [(0, .ref a0), (1, .int p1), (2, .long y5), (4, .long z13), (6, .int z14)] → W p l e rm_M_edge s m args below meth c H locs 0 0 Q (F0 m 103 ls []) := by
            intro n
            induction n with
            | zero => intro z13 z14 w H locs ls h hI hl; exact absurd h (by simp [f_M_edge_L103])
            | succ n ih =>
              intro z13 z14 w H locs ls h hI hl
              rw [f_M_edge_L103] at h
              refine lv_iload hx hb d_M_edge_103 (lv_at hl 4 rfl) ?_
              refine lv_aload_n hx hb d_M_edge_105 rfl (lv_at hl 0 rfl) ?_
              obtain ⟨v15, e16, h⟩ := gb h
              refine gw_getA hx hb hT hown hK hI (ci := 7) rfl i_7 21 (by decide) wd_807 (fun _ h9 => h9) e16 d_M_edge_106 ?_
              refine lv_iconst (v := 0) hx hb d_M_edge_109 (by decide) ?_
              obtain ⟨v17, e18, h⟩ := gb h
              refine gw_aldI hx hb hK hI e18 d_M_edge_110 ?_
              refine lv_icmp_ge (tgt := 169) hx hb d_M_edge_111 (by decide) (fun c19 => ?_) (fun c19 => ?_)
              · skip
                have h := git c19 h
                exact hK169 _ w H locs ls h hI (lv_sub hl [1, 2, 3] rfl)
              · skip
                have h := gie c19 h
                refine lv_iload_n hx hb d_M_edge_114 rfl (lv_at hl 1 rfl) ?_
                refine lv_iconst (v := 3) hx hb d_M_edge_115 (by decide) ?_
                obtain ⟨g20, h⟩ := gif h
                refine lv_irem hx hb d_M_edge_116 g20 ?_
                obtain ⟨K137, eK137, h⟩ := gj h
                have hK137 : ∀ (y21 : Int64) (w : gW) (H : Heap) (locs : List Loc) (ls : Array Slot), K137 y21 w = some r → gI D s A w H locs → lv_has ls 9 [(0, .ref a0), (1, .int p1), (2, .long y5), (4, .long z13), (6, .int z14)] → W p l e rm_M_edge s m args below meth c H locs 0 0 Q (F0 m 137 ls [.long y21]) := by
                  intro y21 w H locs ls h hI hl
                  have h := gk2 eK137 h
                  refine lv_lstore (lv' := [(7, .long y21), (0, .ref a0), (1, .int p1), (2, .long y5), (4, .long z13), (6, .int z14)]) hx hb d_M_edge_137 hl (by decide) rfl (fun ls hl => ?_)
                  refine lv_iload_n hx hb d_M_edge_139 rfl (lv_at hl 2 rfl) ?_
                  refine lv_iconst (v := 3) hx hb d_M_edge_140 (by decide) ?_
                  obtain ⟨K161, eK161, h⟩ := gj h
                  have hK161 : ∀ (y22 : Int64) (w : gW) (H : Heap) (locs : List Loc) (ls : Array Slot), K161 y22 w = some r → gI D s A w H locs → lv_has ls 9 [(0, .ref a0), (1, .int p1), (2, .long y5), (6, .int z14)] → W p l e rm_M_edge s m args below meth c H locs 0 0 Q (F0 m 161 ls [.long y22]) := by
                    intro y22 w H locs ls h hI hl
                    have h := gk2 eK161 h
                    refine lv_lstore (lv' := [(4, .long y22), (0, .ref a0), (1, .int p1), (2, .long y5), (6, .int z14)]) hx hb d_M_edge_161 hl (by decide) rfl (fun ls hl => ?_)
                    refine lv_iinc (v := z14 + 1) (lv' := [(6, .int (z14 + 1)), (4, .long y22), (0, .ref a0), (1, .int p1), (2, .long y5)]) hx hb d_M_edge_163 hl (k := 4) rfl rfl (by decide) rfl (fun ls hl => ?_)
                    refine lv_goto (tgt := 103) hx hb d_M_edge_166 (by decide) ?_
                    exact ih _ _ w H locs ls h hI (lv_sub hl [2, 3, 4, 1, 0] rfl)
                  refine lv_icmp_ge (tgt := 154) hx hb d_M_edge_141 (by decide) (fun c23 => ?_) (fun c23 => ?_)
                  · skip
                    have h := git c23 h
                    refine lv_lload hx hb d_M_edge_154 (lv_at hl 4 rfl) ?_
                    refine lv_lload hx hb d_M_edge_156 (lv_at hl 0 rfl) ?_
                    obtain ⟨u24, e25⟩ := gsome h
                    refine gw_callJ e25 h (gw_runS (As := [.long z13, .long y21]) (rest := []) hx hb hml hown hT hK hZ hA hI (m_M_greater l hst D g0 z13 y21 w u24 e25) ce_M_greater wd_1011 ⟨by decide, by decide⟩ rfl rfl hl.1 rfl (lv_room (Nat.le_of_ble_eq_true rfl)) d_M_edge_158 ⟨(show 0 + 0 ≤ 0 by omega), (show 0 + 0 ≤ 0 by omega)⟩) hI hA hexc (show 0 + 0 ≤ 0 by omega) (show 0 + 0 ≤ 0 by omega) (fun v26 w H locs h hI => ?_)
                    exact hK161 _ w H locs ls h hI (lv_sub hl [1, 2, 3, 5] rfl)
                  · skip
                    have h := gie c23 h
                    refine lv_lload hx hb d_M_edge_144 (lv_at hl 4 rfl) ?_
                    refine lv_lload hx hb d_M_edge_146 (lv_at hl 0 rfl) ?_
                    obtain ⟨u27, e28⟩ := gsome h
                    refine gw_callJ e28 h (gw_runS (As := [.long z13, .long y21]) (rest := []) hx hb hml hown hT hK hZ hA hI (m_M_lesser l hst D g0 z13 y21 w u27 e28) ce_M_lesser wd_1008 ⟨by decide, by decide⟩ rfl rfl hl.1 rfl (lv_room (Nat.le_of_ble_eq_true rfl)) d_M_edge_148 ⟨(show 0 + 0 ≤ 0 by omega), (show 0 + 0 ≤ 0 by omega)⟩) hI hA hexc (show 0 + 0 ≤ 0 by omega) (show 0 + 0 ≤ 0 by omega) (fun v29 w H locs h hI => ?_)
                    refine lv_goto (tgt := 161) hx hb d_M_edge_151 (by decide) ?_
                    exact hK161 _ w H locs ls h hI (lv_sub hl [1, 2, 3, 5] rfl)
                refine lv_if_ne (tgt := 130) hx hb d_M_edge_117 (by decide) (fun c30 => ?_) (fun c30 => ?_)
                · skip
                  have h := gie c30 h
                  refine lv_aload_n hx hb d_M_edge_130 rfl (lv_at hl 0 rfl) ?_
                  obtain ⟨v31, e32, h⟩ := gb h
                  refine gw_getA hx hb hT hown hK hI (ci := 7) rfl i_7 23 (by decide) wd_809 (fun _ h9 => h9) e32 d_M_edge_131 ?_
                  refine lv_iload hx hb d_M_edge_134 (lv_at hl 4 rfl) ?_
                  obtain ⟨v33, e34, h⟩ := gb h
                  refine gw_aldJ hx hb hK hI e34 d_M_edge_136 ?_
                  exact hK137 _ w H locs ls h hI (lv_sub hl [0, 1, 2, 3, 4] rfl)
                · skip
                  have h := git c30 h
                  refine lv_aload_n hx hb d_M_edge_120 rfl (lv_at hl 0 rfl) ?_
                  obtain ⟨v35, e36, h⟩ := gb h
                  refine gw_getA hx hb hT hown hK hI (ci := 7) rfl i_7 22 (by decide) wd_808 (fun _ h9 => h9) e36 d_M_edge_121 ?_
                  refine lv_iload hx hb d_M_edge_124 (lv_at hl 4 rfl) ?_
                  obtain ⟨v37, e38, h⟩ := gb h
                  refine gw_aldJ hx hb hK hI e38 d_M_edge_126 ?_
                  refine lv_goto (tgt := 137) hx hb d_M_edge_127 (by decide) ?_
                  exact hK137 _ w H locs ls h hI (lv_sub hl [0, 1, 2, 3, 4] rfl)
          exact hL103 64 _ _ w H locs ls h hI (lv_sub hl [2, 3, 4, 1, 0] rfl)
        refine lv_if_ne (tgt := 92) hx hb d_M_edge_80 (by decide) (fun c39 => ?_) (fun c39 => ?_)
        · skip
          have h := gie c39 h
          refine lv_aload_n hx hb d_M_edge_92 rfl (lv_at hl 1 rfl) ?_
          obtain ⟨v40, e41, h⟩ := gb h
          refine gw_getA hx hb hT hown hK hI (ci := 7) rfl i_7 23 (by decide) wd_809 (fun _ h9 => h9) e41 d_M_edge_93 ?_
          refine lv_iconst (v := 0) hx hb d_M_edge_96 (by decide) ?_
          obtain ⟨v42, e43, h⟩ := gb h
          refine gw_aldJ hx hb hK hI e43 d_M_edge_97 ?_
          exact hK98 _ w H locs ls h hI (lv_sub hl [1, 2, 0] rfl)
        · skip
          have h := git c39 h
          refine lv_aload_n hx hb d_M_edge_83 rfl (lv_at hl 1 rfl) ?_
          obtain ⟨v44, e45, h⟩ := gb h
          refine gw_getA hx hb hT hown hK hI (ci := 7) rfl i_7 22 (by decide) wd_808 (fun _ h9 => h9) e45 d_M_edge_84 ?_
          refine lv_iconst (v := 0) hx hb d_M_edge_87 (by decide) ?_
          obtain ⟨v46, e47, h⟩ := gb h
          refine gw_aldJ hx hb hK hI e47 d_M_edge_88 ?_
          refine lv_goto (tgt := 98) hx hb d_M_edge_89 (by decide) ?_
          exact hK98 _ w H locs ls h hI (lv_sub hl [1, 2, 0] rfl)
      · skip
        have h := git c7 h
        refine lv_aload_n hx hb d_M_edge_54 rfl (lv_at hl 1 rfl) ?_
        obtain ⟨v48, e49, h⟩ := gb h
        refine gw_getA hx hb hT hown hK hI (ci := 7) rfl i_7 26 (by decide) wd_812 (fun _ h9 => h9) e49 d_M_edge_55 ?_
        refine lv_iconst (v := 0) hx hb d_M_edge_58 (by decide) ?_
        obtain ⟨v50, e51, h⟩ := gb h
        refine gw_aldJ hx hb hK hI e51 d_M_edge_59 ?_
        refine lv_aload_n hx hb d_M_edge_60 rfl (lv_at hl 1 rfl) ?_
        obtain ⟨v52, e53, h⟩ := gb h
        refine gw_getA hx hb hT hown hK hI (ci := 7) rfl i_7 20 (by decide) wd_806 (fun _ h9 => h9) e53 d_M_edge_61 ?_
        refine lv_iconst (v := 0) hx hb d_M_edge_64 (by decide) ?_
        obtain ⟨v54, e55, h⟩ := gb h
        refine gw_aldI hx hb hK hI e55 d_M_edge_65 ?_
        refine lv_iconst (v := 3) hx hb d_M_edge_66 (by decide) ?_
        obtain ⟨K75, eK75, h⟩ := gj h
        have hK75 : ∀ (y56 : Int64) (w : gW) (H : Heap) (locs : List Loc) (ls : Array Slot), K75 y56 w = some r → gI D s A w H locs → lv_has ls 9 [] → W p l e rm_M_edge s m args below meth c H locs 0 0 Q (F0 m 75 ls [.long y56, .long v50]) := by
          intro y56 w H locs ls h hI hl
          have h := gk2 eK75 h
          refine lv_ladd hx hb d_M_edge_75 ?_
          exact W.widen (show 0 ≤ 0 by omega) (show 0 ≤ 0 by omega) (hret _ _ (Option.some.inj h).symm _ _ _ _ d_M_edge_76 hI)
        refine lv_icmp_ne (tgt := 74) hx hb d_M_edge_67 (by decide) (fun c57 => ?_) (fun c57 => ?_)
        · skip
          have h := gie c57 h
          refine lv_lconst (v := 0) hx hb d_M_edge_74 (by decide) ?_
          exact hK75 _ w H locs ls h hI (lv_sub hl [] rfl)
        · skip
          have h := git c57 h
          refine lv_lload_n hx hb d_M_edge_70 rfl (lv_at hl 0 rfl) ?_
          refine lv_goto (tgt := 75) hx hb d_M_edge_71 (by decide) ?_
          exact hK75 _ w H locs ls h hI (lv_sub hl [] rfl)
    · skip
      have h := git c6 h
      refine lv_aload_n hx hb d_M_edge_26 rfl (lv_at hl 1 rfl) ?_
      obtain ⟨v58, e59, h⟩ := gb h
      refine gw_getA hx hb hT hown hK hI (ci := 7) rfl i_7 25 (by decide) wd_811 (fun _ h9 => h9) e59 d_M_edge_27 ?_
      refine lv_iconst (v := 0) hx hb d_M_edge_30 (by decide) ?_
      obtain ⟨v60, e61, h⟩ := gb h
      refine gw_aldJ hx hb hK hI e61 d_M_edge_31 ?_
      refine lv_aload_n hx hb d_M_edge_32 rfl (lv_at hl 1 rfl) ?_
      obtain ⟨v62, e63, h⟩ := gb h
      refine gw_getA hx hb hT hown hK hI (ci := 7) rfl i_7 20 (by decide) wd_806 (fun _ h9 => h9) e63 d_M_edge_33 ?_
      refine lv_iconst (v := 0) hx hb d_M_edge_36 (by decide) ?_
      obtain ⟨v64, e65, h⟩ := gb h
      refine gw_aldI hx hb hK hI e65 d_M_edge_37 ?_
      refine lv_iconst (v := 3) hx hb d_M_edge_38 (by decide) ?_
      obtain ⟨K47, eK47, h⟩ := gj h
      have hK47 : ∀ (y66 : Int64) (w : gW) (H : Heap) (locs : List Loc) (ls : Array Slot), K47 y66 w = some r → gI D s A w H locs → lv_has ls 9 [] → W p l e rm_M_edge s m args below meth c H locs 0 0 Q (F0 m 47 ls [.long y66, .long v60]) := by
        intro y66 w H locs ls h hI hl
        have h := gk2 eK47 h
        refine lv_lsub hx hb d_M_edge_47 ?_
        exact W.widen (show 0 ≤ 0 by omega) (show 0 ≤ 0 by omega) (hret _ _ (Option.some.inj h).symm _ _ _ _ d_M_edge_48 hI)
      refine lv_icmp_ne (tgt := 46) hx hb d_M_edge_39 (by decide) (fun c67 => ?_) (fun c67 => ?_)
      · skip
        have h := gie c67 h
        refine lv_lconst (v := 0) hx hb d_M_edge_46 (by decide) ?_
        exact hK47 _ w H locs ls h hI (lv_sub hl [] rfl)
      · skip
        have h := git c67 h
        refine lv_lload_n hx hb d_M_edge_42 rfl (lv_at hl 0 rfl) ?_
        refine lv_goto (tgt := 47) hx hb d_M_edge_43 (by decide) ?_
        exact hK47 _ w H locs ls h hI (lv_sub hl [] rfl)
  refine lv_icmp_ne (tgt := 14) hx hb d_M_edge_7 (by decide) (fun c68 => ?_) (fun c68 => ?_)
  · skip
    have h := gie c68 h
    refine lv_aload_n hx hb d_M_edge_14 rfl (lv_at hl 0 rfl) ?_
    obtain ⟨v69, e70, h⟩ := gb h
    refine gw_getA hx hb hT hown hK hI (ci := 7) rfl i_7 24 (by decide) wd_810 (fun _ h9 => h9) e70 d_M_edge_15 ?_
    refine lv_iconst (v := 0) hx hb d_M_edge_18 (by decide) ?_
    obtain ⟨v71, e72, h⟩ := gb h
    refine gw_aldJ hx hb hK hI e72 d_M_edge_19 ?_
    exact hK20 _ w H locs ls h hI (lv_sub hl [0, 1] rfl)
  · skip
    have h := git c68 h
    refine lv_lconst (v := 0) hx hb d_M_edge_10 (by decide) ?_
    refine lv_goto (tgt := 20) hx hb d_M_edge_11 (by decide) ?_
    exact hK20 _ w H locs ls h hI (lv_sub hl [0, 1] rfl)

abbrev b_M_section : ByteArray := prog_9_method_62_code
def y_M_section : MethodName := ⟨"BodySolidsModel", "section", "(JII)J"⟩
theorem d_M_section_0 : decode b_M_section 0 = .ok (.aload_n 0, 1) := by decide +kernel
theorem d_M_section_1 : decode b_M_section 1 = .ok (.iload 4, 2) := by decide +kernel
theorem d_M_section_3 : decode b_M_section 3 = .ok (.ifCond .lt 9, 3) := by decide +kernel
theorem d_M_section_6 : decode b_M_section 6 = .ok (.iload 4, 2) := by decide +kernel
theorem d_M_section_8 : decode b_M_section 8 = .ok (.iconst 5, 1) := by decide +kernel
theorem d_M_section_9 : decode b_M_section 9 = .ok (.if_icmp .le 7, 3) := by decide +kernel
theorem d_M_section_12 : decode b_M_section 12 = .ok (.iconst 1, 1) := by decide +kernel
theorem d_M_section_13 : decode b_M_section 13 = .ok (.goto 4, 3) := by decide +kernel
theorem d_M_section_16 : decode b_M_section 16 = .ok (.iconst 0, 1) := by decide +kernel
theorem d_M_section_17 : decode b_M_section 17 = .ok (.putfield 80, 3) := by decide +kernel
theorem d_M_section_20 : decode b_M_section 20 = .ok (.aload_n 0, 1) := by decide +kernel
theorem d_M_section_21 : decode b_M_section 21 = .ok (.getfield 80, 3) := by decide +kernel
theorem d_M_section_24 : decode b_M_section 24 = .ok (.ifCond .eq 5, 3) := by decide +kernel
theorem d_M_section_27 : decode b_M_section 27 = .ok (.lconst 0, 1) := by decide +kernel
theorem d_M_section_28 : decode b_M_section 28 = .ok (.lreturn, 1) := by decide +kernel
theorem d_M_section_29 : decode b_M_section 29 = .ok (.iload_n 3, 1) := by decide +kernel
theorem d_M_section_30 : decode b_M_section 30 = .ok (.istore 5, 2) := by decide +kernel
theorem d_M_section_32 : decode b_M_section 32 = .ok (.iconst 0, 1) := by decide +kernel
theorem d_M_section_33 : decode b_M_section 33 = .ok (.istore 6, 2) := by decide +kernel
theorem d_M_section_35 : decode b_M_section 35 = .ok (.iload 6, 2) := by decide +kernel
theorem d_M_section_37 : decode b_M_section 37 = .ok (.aload_n 0, 1) := by decide +kernel
theorem d_M_section_38 : decode b_M_section 38 = .ok (.getfield 95, 3) := by decide +kernel
theorem d_M_section_41 : decode b_M_section 41 = .ok (.if_icmp .ge 147, 3) := by decide +kernel
theorem d_M_section_44 : decode b_M_section 44 = .ok (.iload_n 3, 1) := by decide +kernel
theorem d_M_section_45 : decode b_M_section 45 = .ok (.ifCond .lt 143, 3) := by decide +kernel
theorem d_M_section_48 : decode b_M_section 48 = .ok (.iconst 0, 1) := by decide +kernel
theorem d_M_section_49 : decode b_M_section 49 = .ok (.istore 7, 2) := by decide +kernel
theorem d_M_section_51 : decode b_M_section 51 = .ok (.iload 7, 2) := by decide +kernel
theorem d_M_section_53 : decode b_M_section 53 = .ok (.aload_n 0, 1) := by decide +kernel
theorem d_M_section_54 : decode b_M_section 54 = .ok (.getfield 7, 3) := by decide +kernel
theorem d_M_section_57 : decode b_M_section 57 = .ok (.aload_n 0, 1) := by decide +kernel
theorem d_M_section_58 : decode b_M_section 58 = .ok (.getfield 35, 3) := by decide +kernel
theorem d_M_section_61 : decode b_M_section 61 = .ok (.iload 6, 2) := by decide +kernel
theorem d_M_section_63 : decode b_M_section 63 = .ok (.iaload, 1) := by decide +kernel
theorem d_M_section_64 : decode b_M_section 64 = .ok (.iaload, 1) := by decide +kernel
theorem d_M_section_65 : decode b_M_section 65 = .ok (.if_icmp .ge 117, 3) := by decide +kernel
theorem d_M_section_68 : decode b_M_section 68 = .ok (.aload_n 0, 1) := by decide +kernel
theorem d_M_section_69 : decode b_M_section 69 = .ok (.iconst 0, 1) := by decide +kernel
theorem d_M_section_70 : decode b_M_section 70 = .ok (.iload 6, 2) := by decide +kernel
theorem d_M_section_72 : decode b_M_section 72 = .ok (.bipush 12, 2) := by decide +kernel
theorem d_M_section_74 : decode b_M_section 74 = .ok (.aload_n 0, 1) := by decide +kernel
theorem d_M_section_75 : decode b_M_section 75 = .ok (.getfield 35, 3) := by decide +kernel
theorem d_M_section_78 : decode b_M_section 78 = .ok (.iload 6, 2) := by decide +kernel
theorem d_M_section_80 : decode b_M_section 80 = .ok (.iaload, 1) := by decide +kernel
theorem d_M_section_81 : decode b_M_section 81 = .ok (.imul, 1) := by decide +kernel
theorem d_M_section_82 : decode b_M_section 82 = .ok (.iload 7, 2) := by decide +kernel
theorem d_M_section_84 : decode b_M_section 84 = .ok (.iadd, 1) := by decide +kernel
theorem d_M_section_85 : decode b_M_section 85 = .ok (.invokevirtual 252, 3) := by decide +kernel
theorem d_M_section_88 : decode b_M_section 88 = .ok (.aload_n 0, 1) := by decide +kernel
theorem d_M_section_89 : decode b_M_section 89 = .ok (.getfield 53, 3) := by decide +kernel
theorem d_M_section_92 : decode b_M_section 92 = .ok (.iconst 0, 1) := by decide +kernel
theorem d_M_section_93 : decode b_M_section 93 = .ok (.iaload, 1) := by decide +kernel
theorem d_M_section_94 : decode b_M_section 94 = .ok (.iconst 3, 1) := by decide +kernel
theorem d_M_section_95 : decode b_M_section 95 = .ok (.if_icmp .eq 81, 3) := by decide +kernel
theorem d_M_section_98 : decode b_M_section 98 = .ok (.lload_n 1, 1) := by decide +kernel
theorem d_M_section_99 : decode b_M_section 99 = .ok (.aload_n 0, 1) := by decide +kernel
theorem d_M_section_100 : decode b_M_section 100 = .ok (.getfield 68, 3) := by decide +kernel
theorem d_M_section_103 : decode b_M_section 103 = .ok (.iconst 0, 1) := by decide +kernel
theorem d_M_section_104 : decode b_M_section 104 = .ok (.laload, 1) := by decide +kernel
theorem d_M_section_105 : decode b_M_section 105 = .ok (.lcmp, 1) := by decide +kernel
theorem d_M_section_106 : decode b_M_section 106 = .ok (.ifCond .le 70, 3) := by decide +kernel
theorem d_M_section_109 : decode b_M_section 109 = .ok (.lload_n 1, 1) := by decide +kernel
theorem d_M_section_110 : decode b_M_section 110 = .ok (.aload_n 0, 1) := by decide +kernel
theorem d_M_section_111 : decode b_M_section 111 = .ok (.getfield 71, 3) := by decide +kernel
theorem d_M_section_114 : decode b_M_section 114 = .ok (.iconst 0, 1) := by decide +kernel
theorem d_M_section_115 : decode b_M_section 115 = .ok (.laload, 1) := by decide +kernel
theorem d_M_section_116 : decode b_M_section 116 = .ok (.lcmp, 1) := by decide +kernel
theorem d_M_section_117 : decode b_M_section 117 = .ok (.ifCond .lt 6, 3) := by decide +kernel
theorem d_M_section_120 : decode b_M_section 120 = .ok (.goto 56, 3) := by decide +kernel
theorem d_M_section_123 : decode b_M_section 123 = .ok (.iload 5, 2) := by decide +kernel
theorem d_M_section_125 : decode b_M_section 125 = .ok (.ifCond .ne 48, 3) := by decide +kernel
theorem d_M_section_128 : decode b_M_section 128 = .ok (.iload 4, 2) := by decide +kernel
theorem d_M_section_130 : decode b_M_section 130 = .ok (.ifCond .ne 9, 3) := by decide +kernel
theorem d_M_section_133 : decode b_M_section 133 = .ok (.iload 6, 2) := by decide +kernel
theorem d_M_section_135 : decode b_M_section 135 = .ok (.i2l, 1) := by decide +kernel
theorem d_M_section_136 : decode b_M_section 136 = .ok (.goto 36, 3) := by decide +kernel
theorem d_M_section_139 : decode b_M_section 139 = .ok (.iload 4, 2) := by decide +kernel
theorem d_M_section_141 : decode b_M_section 141 = .ok (.iconst 1, 1) := by decide +kernel
theorem d_M_section_142 : decode b_M_section 142 = .ok (.if_icmp .ne 9, 3) := by decide +kernel
theorem d_M_section_145 : decode b_M_section 145 = .ok (.iload 7, 2) := by decide +kernel
theorem d_M_section_147 : decode b_M_section 147 = .ok (.i2l, 1) := by decide +kernel
theorem d_M_section_148 : decode b_M_section 148 = .ok (.goto 24, 3) := by decide +kernel
theorem d_M_section_151 : decode b_M_section 151 = .ok (.aload_n 0, 1) := by decide +kernel
theorem d_M_section_152 : decode b_M_section 152 = .ok (.iload 4, 2) := by decide +kernel
theorem d_M_section_154 : decode b_M_section 154 = .ok (.iconst 4, 1) := by decide +kernel
theorem d_M_section_155 : decode b_M_section 155 = .ok (.if_icmp .ge 10, 3) := by decide +kernel
theorem d_M_section_158 : decode b_M_section 158 = .ok (.iload 4, 2) := by decide +kernel
theorem d_M_section_160 : decode b_M_section 160 = .ok (.iconst 2, 1) := by decide +kernel
theorem d_M_section_161 : decode b_M_section 161 = .ok (.isub, 1) := by decide +kernel
theorem d_M_section_162 : decode b_M_section 162 = .ok (.goto 7, 3) := by decide +kernel
theorem d_M_section_165 : decode b_M_section 165 = .ok (.iload 4, 2) := by decide +kernel
theorem d_M_section_167 : decode b_M_section 167 = .ok (.iconst 1, 1) := by decide +kernel
theorem d_M_section_168 : decode b_M_section 168 = .ok (.isub, 1) := by decide +kernel
theorem d_M_section_169 : decode b_M_section 169 = .ok (.invokevirtual 279, 3) := by decide +kernel
theorem d_M_section_172 : decode b_M_section 172 = .ok (.lreturn, 1) := by decide +kernel
theorem d_M_section_173 : decode b_M_section 173 = .ok (.iinc 5 (-1), 3) := by decide +kernel
theorem d_M_section_176 : decode b_M_section 176 = .ok (.iinc 7 1, 3) := by decide +kernel
theorem d_M_section_179 : decode b_M_section 179 = .ok (.goto (-128), 3) := by decide +kernel
theorem d_M_section_182 : decode b_M_section 182 = .ok (.iinc 6 1, 3) := by decide +kernel
theorem d_M_section_185 : decode b_M_section 185 = .ok (.goto (-150), 3) := by decide +kernel
theorem d_M_section_188 : decode b_M_section 188 = .ok (.ldc2_w 206, 3) := by decide +kernel
theorem d_M_section_191 : decode b_M_section 191 = .ok (.lreturn, 1) := by decide +kernel
abbrev rm_M_section : Room := { frames := 3, cells := 0, slots := 0, locals := 85 }
theorem ce_M_section : gCe y_M_section (.code y_M_section b_M_section 8 (some .long)) 8 3 false := gCe.code wd_1109 wd_57 wd_1107 (by decide) (by decide +kernel)
def f_M_section_L51 (g0 : gG) (c0 : Nat) (c1 : Int64) (c3 : Int32) (c4 : Int32) (c6 : Int32) (K182 : Int32 → gW → gX Int64) (K128 : Int32 → Int32 → gW → gX Int64) : Nat → Int32 → Int32 → gW → gX Int64
  | 0, _, _, _ => none
  | n + 1, z5, z7, w => (gfA w c0 7 3).bind fun v23 => (gfA w c0 7 13).bind fun v25 => (gaI w v25 c6).bind fun v27 => (gaI w v23 v27).bind fun v29 => if v29 ≤ z7 then (K182 z5 w) else ((gfA w c0 7 13).bind fun v32 => (gaI w v32 c6).bind fun v34 => (gck w c0 7).bind fun _ => gbind (f_M_lay g0 c0 0 c6 ((12 * v34) + z7) w) fun v40 w => (gfA w c0 7 20).bind fun v41 => (gaI w v41 0).bind fun v43 => gjoin (fun K176 => if v43 = 3 then (K176 z5 w) else ((gfA w c0 7 25).bind fun v47 => (gaJ w v47 0).bind fun v49 => if c1 ≤ v49 then (K176 z5 w) else ((gfA w c0 7 26).bind fun v52 => (gaJ w v52 0).bind fun v54 => if c1 < v54 then (if z5 = 0 then (K128 c6 z7 w) else (K176 (z5 + (-1)) w)) else (K176 z5 w)))) (fun (x45 : Int32) (w : gW) => f_M_section_L51 g0 c0 c1 c3 c4 c6 K182 K128 n x45 (z7 + 1) w))
def f_M_section_L35 (g0 : gG) (c0 : Nat) (c1 : Int64) (c3 : Int32) (c4 : Int32) (K188 : gW → gX Int64) (K128 : Int32 → Int32 → gW → gX Int64) : Nat → Int32 → Int32 → gW → gX Int64
  | 0, _, _, _ => none
  | n + 1, z5, z6, w => (gfI w c0 7 12).bind fun v18 => if v18 ≤ z6 then (K188 w) else (if c3 < 0 then (K188 w) else (gjoin (fun K182 => f_M_section_L51 g0 c0 c1 c3 c4 z6 K182 K128 64 z5 0 w) (fun (x22 : Int32) (w : gW) => f_M_section_L35 g0 c0 c1 c3 c4 K188 K128 n x22 (z6 + 1) w)))
def f_M_section (g0 : gG) (a0 : Nat) (p1 : Int64) (p2 : Int32) (p3 : Int32) (w : gW) : gX Int64 := gjoin (fun K17 => gjoin (fun K12 => if p3 < 0 then (K12 w) else (if p3 ≤ 5 then (K17 0 w) else (K12 w))) (fun (w : gW) => K17 1 w)) (fun (y1 : Int32) (w : gW) => (gp w a0 7 0 (.int y1)).bind fun w => (gfI w a0 7 0).bind fun v3 => if v3 = 0 then (gjoin (fun K188 => gjoin (fun K128 => f_M_section_L35 g0 a0 p1 p2 p3 K188 K128 64 p2 0 w) (fun (x6 : Int32) (x7 : Int32) (w : gW) => gjoin (fun K172 => if p3 = 0 then (K172 (x6.toInt64) w) else (if p3 = 1 then (K172 (x7.toInt64) w) else (gjoin (fun K169 => if 4 ≤ p3 then (K169 (p3 - 1) w) else (K169 (p3 - 2) w)) (fun (y11 : Int32) (w : gW) => (gck w a0 7).bind fun _ => gbind (f_M_edge g0 a0 y11 w) fun v16 w => K172 v16 w)))) (fun (y8 : Int64) (w : gW) => some (.inr y8, w)))) (fun (w : gW) => some (.inr (-1), w))) else (some (.inr 0, w)))
set_option maxHeartbeats 4000000 in
set_option maxRecDepth 100000 in
theorem m_M_section (l : Launch) (hst : l.stackTraces = false) (D : gD) (g0 : gG) (a0 : Nat) (p1 : Int64) (p2 : Int32) (p3 : Int32) (w : gW) (r : (String ⊕ Int64) × gW) (h : f_M_section g0 a0 p1 p2 p3 w = some r) : gMet l y_M_section (.code y_M_section b_M_section 8 (some .long)) rm_M_section D g0 [.ref a0, .long p1, .int p2, .int p3] w (goJ r) := by
  refine gw_ofJ (by decide +kernel) (Nat.le_of_ble_eq_true rfl) ?_
  intro p e s m below meth c ls args A Q hx hb hml hown hlocks hin hnt hT hK hZ hA hret hexc hthr hI hl
  obtain ⟨H, hH⟩ : ∃ H, H = s.heap := ⟨_, rfl⟩
  rw [← hH] at hI ⊢
  obtain ⟨locs, hlocs⟩ : ∃ z : List Loc, z = [] := ⟨_, rfl⟩
  rw [← hlocs] at hI ⊢
  have hl : lv_has ls 8 [(0, .ref a0), (1, .long p1), (3, .int p2), (4, .int p3)] := hl
  unfold f_M_section at h
  refine lv_aload_n hx hb d_M_section_0 rfl (lv_at hl 0 rfl) ?_
  refine lv_iload hx hb d_M_section_1 (lv_at hl 3 rfl) ?_
  obtain ⟨K17, eK17, h⟩ := gj h
  have hK17 : ∀ (y1 : Int32) (w : gW) (H : Heap) (locs : List Loc) (ls : Array Slot), K17 y1 w = some r → gI D s A w H locs → lv_has ls 8 [(0, .ref a0), (1, .long p1), (3, .int p2), (4, .int p3)] → W p l e rm_M_section s m args below meth c H locs 0 0 Q (F0 m 17 ls [.int y1, .ref a0]) := by
    intro y1 w H locs ls h hI hl
    have h := gk2 eK17 h
    obtain ⟨w, e2, h⟩ := gb h
    refine gw_put hx hb hT hown hK hI (ci := 7) rfl i_7 t_7 t_7_ok n_7 0 (by decide) wd_786 (fun _ h9 => h9) rfl (ty := .int) (by decide +kernel) rfl rfl e2 d_M_section_17 (fun H locs hI => ?_)
    refine lv_aload_n hx hb d_M_section_20 rfl (lv_at hl 0 rfl) ?_
    obtain ⟨v3, e4, h⟩ := gb h
    refine gw_getI hx hb hT hown hK hI (ci := 7) rfl i_7 0 (by decide) wd_786 (fun _ h9 => h9) e4 d_M_section_21 ?_
    refine lv_if_eq (tgt := 29) hx hb d_M_section_24 (by decide) (fun c5 => ?_) (fun c5 => ?_)
    · skip
      have h := git c5 h
      refine lv_iload_n hx hb d_M_section_29 rfl (lv_at hl 2 rfl) ?_
      refine lv_istore (lv' := [(5, .int p2), (0, .ref a0), (1, .long p1), (3, .int p2), (4, .int p3)]) hx hb d_M_section_30 hl (by decide) rfl (fun ls hl => ?_)
      refine lv_iconst (v := 0) hx hb d_M_section_32 (by decide) ?_
      refine lv_istore (lv' := [(6, .int 0), (5, .int p2), (0, .ref a0), (1, .long p1), (3, .int p2), (4, .int p3)]) hx hb d_M_section_33 hl (by decide) rfl (fun ls hl => ?_)
      obtain ⟨K188, eK188, h⟩ := gj h
      have hK188 : ∀ (w : gW) (H : Heap) (locs : List Loc) (ls : Array Slot), K188 w = some r → gI D s A w H locs → lv_has ls 8 [] → W p l e rm_M_section s m args below meth c H locs 0 0 Q (F0 m 188 ls []) := by
        intro w H locs ls h hI hl
        have h := gk1 eK188 h
        refine lv_ldc2 (v := (-1)) hx hb hown (hT _ wd_1054 args) d_M_section_188 ?_
        exact W.widen (show 0 ≤ 0 by omega) (show 0 ≤ 0 by omega) (hret _ _ (Option.some.inj h).symm _ _ _ _ d_M_section_191 hI)
      obtain ⟨K128, eK128, h⟩ := gj h
      have hK128 : ∀ (x6 : Int32) (x7 : Int32) (w : gW) (H : Heap) (locs : List Loc) (ls : Array Slot), K128 x6 x7 w = some r → gI D s A w H locs → lv_has ls 8 [(0, .ref a0), (4, .int p3), (6, .int x6), (7, .int x7)] → W p l e rm_M_section s m args below meth c H locs 0 0 Q (F0 m 128 ls []) := by
        intro x6 x7 w H locs ls h hI hl
        have h := gk3 eK128 h
        refine lv_iload hx hb d_M_section_128 (lv_at hl 1 rfl) ?_
        obtain ⟨K172, eK172, h⟩ := gj h
        have hK172 : ∀ (y8 : Int64) (w : gW) (H : Heap) (locs : List Loc) (ls : Array Slot), K172 y8 w = some r → gI D s A w H locs → lv_has ls 8 [] → W p l e rm_M_section s m args below meth c H locs 0 0 Q (F0 m 172 ls [.long y8]) := by
          intro y8 w H locs ls h hI hl
          have h := gk2 eK172 h
          exact W.widen (show 0 ≤ 0 by omega) (show 0 ≤ 0 by omega) (hret _ _ (Option.some.inj h).symm _ _ _ _ d_M_section_172 hI)
        refine lv_if_ne (tgt := 139) hx hb d_M_section_130 (by decide) (fun c9 => ?_) (fun c9 => ?_)
        · skip
          have h := gie c9 h
          refine lv_iload hx hb d_M_section_139 (lv_at hl 1 rfl) ?_
          refine lv_iconst (v := 1) hx hb d_M_section_141 (by decide) ?_
          refine lv_icmp_ne (tgt := 151) hx hb d_M_section_142 (by decide) (fun c10 => ?_) (fun c10 => ?_)
          · skip
            have h := gie c10 h
            refine lv_aload_n hx hb d_M_section_151 rfl (lv_at hl 0 rfl) ?_
            refine lv_iload hx hb d_M_section_152 (lv_at hl 1 rfl) ?_
            refine lv_iconst (v := 4) hx hb d_M_section_154 (by decide) ?_
            obtain ⟨K169, eK169, h⟩ := gj h
            have hK169 : ∀ (y11 : Int32) (w : gW) (H : Heap) (locs : List Loc) (ls : Array Slot), K169 y11 w = some r → gI D s A w H locs → lv_has ls 8 [] → W p l e rm_M_section s m args below meth c H locs 0 0 Q (F0 m 169 ls [.int y11, .ref a0]) := by
              intro y11 w H locs ls h hI hl
              have h := gk2 eK169 h
              obtain ⟨q14, e15, h⟩ := gb h
              obtain ⟨u12, e13⟩ := gsome h
              refine gw_callJ e13 h (gw_runV (As := [.int y11]) (rest := []) hx hb hml hown hT hK hZ hA hI (ci := 7) rfl e15 (m_M_edge l hst D g0 a0 y11 w u12 e13) ce_M_edge wd_1102 wd_46 ⟨by decide, by decide⟩ rfl rfl hl.1 rfl (lv_room (Nat.le_of_ble_eq_true rfl)) d_M_section_169 ⟨(show 0 + 0 ≤ 0 by omega), (show 0 + 0 ≤ 0 by omega)⟩) hI hA hexc (show 0 + 0 ≤ 0 by omega) (show 0 + 0 ≤ 0 by omega) (fun v16 w H locs h hI => ?_)
              exact hK172 _ w H locs ls h hI (lv_sub hl [] rfl)
            refine lv_icmp_ge (tgt := 165) hx hb d_M_section_155 (by decide) (fun c17 => ?_) (fun c17 => ?_)
            · skip
              have h := git c17 h
              refine lv_iload hx hb d_M_section_165 (lv_at hl 1 rfl) ?_
              refine lv_iconst (v := 1) hx hb d_M_section_167 (by decide) ?_
              refine lv_isub hx hb d_M_section_168 ?_
              exact hK169 _ w H locs ls h hI (lv_sub hl [] rfl)
            · skip
              have h := gie c17 h
              refine lv_iload hx hb d_M_section_158 (lv_at hl 1 rfl) ?_
              refine lv_iconst (v := 2) hx hb d_M_section_160 (by decide) ?_
              refine lv_isub hx hb d_M_section_161 ?_
              refine lv_goto (tgt := 169) hx hb d_M_section_162 (by decide) ?_
              exact hK169 _ w H locs ls h hI (lv_sub hl [] rfl)
          · skip
            have h := git c10 h
            refine lv_iload hx hb d_M_section_145 (lv_at hl 3 rfl) ?_
            refine lv_i2l (v := x7.toInt64) hx hb d_M_section_147 rfl ?_
            refine lv_goto (tgt := 172) hx hb d_M_section_148 (by decide) ?_
            exact hK172 _ w H locs ls h hI (lv_sub hl [] rfl)
        · skip
          have h := git c9 h
          refine lv_iload hx hb d_M_section_133 (lv_at hl 2 rfl) ?_
          refine lv_i2l (v := x6.toInt64) hx hb d_M_section_135 rfl ?_
          refine lv_goto (tgt := 172) hx hb d_M_section_136 (by decide) ?_
          exact hK172 _ w H locs ls h hI (lv_sub hl [] rfl)
      have hL35 : ∀ (n : Nat), ∀ (z18 : Int32) (z19 : Int32) (w : gW) (H : Heap) (locs : List Loc) (ls : Array Slot), f_M_section_L35 g0 a0 p1 p2 p3 K188 K128 n z18 z19 w = some r → gI D s A w H locs → lv_has ls 8 [(0, .ref a0), (1, .long p1), (3, .int p2), (4, .int p3), (5, .int z18), (6, .int z19)] → W p l e rm_M_section s m args below meth c H locs 0 0 Q (F0 m 35 ls []) := by
        intro n
        induction n with
        | zero => intro z18 z19 w H locs ls h hI hl; exact absurd h (by simp [f_M_section_L35])
        | succ n ih =>
          intro z18 z19 w H locs ls h hI hl
          rw [f_M_section_L35] at h
          refine lv_iload hx hb d_M_section_35 (lv_at hl 5 rfl) ?_
          refine lv_aload_n hx hb d_M_section_37 rfl (lv_at hl 0 rfl) ?_
          obtain ⟨v20, e21, h⟩ := gb h
          refine gw_getI hx hb hT hown hK hI (ci := 7) rfl i_7 12 (by decide) wd_798 (fun _ h9 => h9) e21 d_M_section_38 ?_
          refine lv_icmp_ge (tgt := 188) hx hb d_M_section_41 (by decide) (fun c22 => ?_) (fun c22 => ?_)
          · skip
            have h := git c22 h
            exact hK188 w H locs ls h hI (lv_sub hl [] rfl)
          · skip
            have h := gie c22 h
            refine lv_iload_n hx hb d_M_section_44 rfl (lv_at hl 2 rfl) ?_
            refine lv_if_lt (tgt := 188) hx hb d_M_section_45 (by decide) (fun c23 => ?_) (fun c23 => ?_)
            · skip
              have h := git c23 h
              exact hK188 w H locs ls h hI (lv_sub hl [] rfl)
            · skip
              have h := gie c23 h
              refine lv_iconst (v := 0) hx hb d_M_section_48 (by decide) ?_
              refine lv_istore (lv' := [(7, .int 0), (0, .ref a0), (1, .long p1), (3, .int p2), (4, .int p3), (5, .int z18), (6, .int z19)]) hx hb d_M_section_49 hl (by decide) rfl (fun ls hl => ?_)
              obtain ⟨K182, eK182, h⟩ := gj h
              have hK182 : ∀ (x24 : Int32) (w : gW) (H : Heap) (locs : List Loc) (ls : Array Slot), K182 x24 w = some r → gI D s A w H locs → lv_has ls 8 [(0, .ref a0), (1, .long p1), (3, .int p2), (4, .int p3), (5, .int x24), (6, .int z19)] → W p l e rm_M_section s m args below meth c H locs 0 0 Q (F0 m 182 ls []) := by
                intro x24 w H locs ls h hI hl
                have h := gk2 eK182 h
                refine lv_iinc (v := z19 + 1) (lv' := [(6, .int (z19 + 1)), (0, .ref a0), (1, .long p1), (3, .int p2), (4, .int p3), (5, .int x24)]) hx hb d_M_section_182 hl (k := 5) rfl rfl (by decide) rfl (fun ls hl => ?_)
                refine lv_goto (tgt := 35) hx hb d_M_section_185 (by decide) ?_
                exact ih _ _ w H locs ls h hI (lv_sub hl [1, 2, 3, 4, 5, 0] rfl)
              have hL51 : ∀ (n : Nat), ∀ (z25 : Int32) (z26 : Int32) (w : gW) (H : Heap) (locs : List Loc) (ls : Array Slot), f_M_section_L51 g0 a0 p1 p2 p3 z19 K182 K128 n z25 z26 w = some r → gI D s A w H locs → lv_has ls 8 [(0, .ref a0), (1, .long p1), (3, .int p2), (4, .int p3), (6, .int z19), (5, .int z25), (7, .int z26)] → W p l e rm_M_section s m args below meth c H locs 0 0 Q (F0 m 51 ls []) := by
                intro n
                induction n with
                | zero => intro z25 z26 w H locs ls h hI hl; exact absurd h (by simp [f_M_section_L51])
                | succ n ih =>
                  intro z25 z26 w H locs ls h hI hl
                  rw [f_M_section_L51] at h
                  refine lv_iload hx hb d_M_section_51 (lv_at hl 6 rfl) ?_
                  refine lv_aload_n hx hb d_M_section_53 rfl (lv_at hl 0 rfl) ?_
                  obtain ⟨v27, e28, h⟩ := gb h
                  refine gw_getA hx hb hT hown hK hI (ci := 7) rfl i_7 3 (by decide) wd_789 (fun _ h9 => h9) e28 d_M_section_54 ?_
                  refine lv_aload_n hx hb d_M_section_57 rfl (lv_at hl 0 rfl) ?_
                  obtain ⟨v29, e30, h⟩ := gb h
                  refine gw_getA hx hb hT hown hK hI (ci := 7) rfl i_7 13 (by decide) wd_799 (fun _ h9 => h9) e30 d_M_section_58 ?_
                  refine lv_iload hx hb d_M_section_61 (lv_at hl 4 rfl) ?_
                  obtain ⟨v31, e32, h⟩ := gb h
                  refine gw_aldI hx hb hK hI e32 d_M_section_63 ?_
                  obtain ⟨v33, e34, h⟩ := gb h
                  refine gw_aldI hx hb hK hI e34 d_M_section_64 ?_
                  refine lv_icmp_ge (tgt := 182) hx hb d_M_section_65 (by decide) (fun c35 => ?_) (fun c35 => ?_)
                  · skip
                    have h := git c35 h
                    exact hK182 _ w H locs ls h hI (lv_sub hl [0, 1, 2, 3, 5, 4] rfl)
                  · skip
                    have h := gie c35 h
                    refine lv_aload_n hx hb d_M_section_68 rfl (lv_at hl 0 rfl) ?_
                    refine lv_iconst (v := 0) hx hb d_M_section_69 (by decide) ?_
                    refine lv_iload hx hb d_M_section_70 (lv_at hl 4 rfl) ?_
                    refine lv_bipush (v := 12) hx hb d_M_section_72 (by decide) ?_
                    refine lv_aload_n hx hb d_M_section_74 rfl (lv_at hl 0 rfl) ?_
                    obtain ⟨v36, e37, h⟩ := gb h
                    refine gw_getA hx hb hT hown hK hI (ci := 7) rfl i_7 13 (by decide) wd_799 (fun _ h9 => h9) e37 d_M_section_75 ?_
                    refine lv_iload hx hb d_M_section_78 (lv_at hl 4 rfl) ?_
                    obtain ⟨v38, e39, h⟩ := gb h
                    refine gw_aldI hx hb hK hI e39 d_M_section_80 ?_
                    refine lv_imul hx hb d_M_section_81 ?_
                    refine lv_iload hx hb d_M_section_82 (lv_at hl 6 rfl) ?_
                    refine lv_iadd hx hb d_M_section_84 ?_
                    obtain ⟨q42, e43, h⟩ := gb h
                    obtain ⟨u40, e41⟩ := gsome h
                    refine gw_callV e41 h (gw_runV (As := [.int 0, .int z19, .int ((12 * v38) + z26)]) (rest := []) hx hb hml hown hT hK hZ hA hI (ci := 7) rfl e43 (m_M_lay l hst D g0 a0 0 z19 ((12 * v38) + z26) w u40 e41) ce_M_lay wd_967 wd_25 ⟨by decide, by decide⟩ rfl rfl hl.1 rfl (lv_room (Nat.le_of_ble_eq_true rfl)) d_M_section_85 ⟨(show 0 + 0 ≤ 0 by omega), (show 0 + 0 ≤ 0 by omega)⟩) hI hA hexc (show 0 + 0 ≤ 0 by omega) (show 0 + 0 ≤ 0 by omega) (fun v44 w H locs h hI => ?_)
                    refine lv_aload_n hx hb d_M_section_88 rfl (lv_at hl 0 rfl) ?_
                    obtain ⟨v45, e46, h⟩ := gb h
                    refine gw_getA hx hb hT hown hK hI (ci := 7) rfl i_7 20 (by decide) wd_806 (fun _ h9 => h9) e46 d_M_section_89 ?_
                    refine lv_iconst (v := 0) hx hb d_M_section_92 (by decide) ?_
                    obtain ⟨v47, e48, h⟩ := gb h
                    refine gw_aldI hx hb hK hI e48 d_M_section_93 ?_
                    refine lv_iconst (v := 3) hx hb d_M_section_94 (by decide) ?_
                    obtain ⟨K176, eK176, h⟩ := gj h
                    have hK176 : ∀ (x49 : Int32) (w : gW) (H : Heap) (locs : List Loc) (ls : Array Slot), K176 x49 w = some r → gI D s A w H locs → lv_has ls 8 [(0, .ref a0), (1, .long p1), (3, .int p2), (4, .int p3), (5, .int x49), (6, .int z19), (7, .int z26)] → W p l e rm_M_section s m args below meth c H locs 0 0 Q (F0 m 176 ls []) := by
                      intro x49 w H locs ls h hI hl
                      have h := gk2 eK176 h
                      refine lv_iinc (v := z26 + 1) (lv' := [(7, .int (z26 + 1)), (0, .ref a0), (1, .long p1), (3, .int p2), (4, .int p3), (5, .int x49), (6, .int z19)]) hx hb d_M_section_176 hl (k := 6) rfl rfl (by decide) rfl (fun ls hl => ?_)
                      refine lv_goto (tgt := 51) hx hb d_M_section_179 (by decide) ?_
                      exact ih _ _ w H locs ls h hI (lv_sub hl [1, 2, 3, 4, 6, 5, 0] rfl)
                    refine lv_icmp_eq (tgt := 176) hx hb d_M_section_95 (by decide) (fun c50 => ?_) (fun c50 => ?_)
                    · skip
                      have h := git c50 h
                      exact hK176 _ w H locs ls h hI (lv_sub hl [0, 1, 2, 3, 5, 4, 6] rfl)
                    · skip
                      have h := gie c50 h
                      refine lv_lload_n hx hb d_M_section_98 rfl (lv_at hl 1 rfl) ?_
                      refine lv_aload_n hx hb d_M_section_99 rfl (lv_at hl 0 rfl) ?_
                      obtain ⟨v51, e52, h⟩ := gb h
                      refine gw_getA hx hb hT hown hK hI (ci := 7) rfl i_7 25 (by decide) wd_811 (fun _ h9 => h9) e52 d_M_section_100 ?_
                      refine lv_iconst (v := 0) hx hb d_M_section_103 (by decide) ?_
                      obtain ⟨v53, e54, h⟩ := gb h
                      refine gw_aldJ hx hb hK hI e54 d_M_section_104 ?_
                      refine W.lcmp hx hb d_M_section_105 ?_
                      refine lv_if_le (tgt := 176) hx hb d_M_section_106 (by decide) (fun c55 => ?_) (fun c55 => ?_)
                      · have c55 := (lg_cmp_le _ _).mp c55
                        have h := git c55 h
                        exact hK176 _ w H locs ls h hI (lv_sub hl [0, 1, 2, 3, 5, 4, 6] rfl)
                      · have c55 := mt (lg_cmp_le _ _).mpr c55
                        have h := gie c55 h
                        refine lv_lload_n hx hb d_M_section_109 rfl (lv_at hl 1 rfl) ?_
                        refine lv_aload_n hx hb d_M_section_110 rfl (lv_at hl 0 rfl) ?_
                        obtain ⟨v56, e57, h⟩ := gb h
                        refine gw_getA hx hb hT hown hK hI (ci := 7) rfl i_7 26 (by decide) wd_812 (fun _ h9 => h9) e57 d_M_section_111 ?_
                        refine lv_iconst (v := 0) hx hb d_M_section_114 (by decide) ?_
                        obtain ⟨v58, e59, h⟩ := gb h
                        refine gw_aldJ hx hb hK hI e59 d_M_section_115 ?_
                        refine W.lcmp hx hb d_M_section_116 ?_
                        refine lv_if_lt (tgt := 123) hx hb d_M_section_117 (by decide) (fun c60 => ?_) (fun c60 => ?_)
                        · have c60 := (lg_cmp_lt _ _).mp c60
                          have h := git c60 h
                          refine lv_iload hx hb d_M_section_123 (lv_at hl 5 rfl) ?_
                          refine lv_if_ne (tgt := 173) hx hb d_M_section_125 (by decide) (fun c61 => ?_) (fun c61 => ?_)
                          · skip
                            have h := gie c61 h
                            refine lv_iinc (v := z25 + (-1)) (lv' := [(5, .int (z25 + (-1))), (0, .ref a0), (1, .long p1), (3, .int p2), (4, .int p3), (6, .int z19), (7, .int z26)]) hx hb d_M_section_173 hl (k := 5) rfl rfl (by decide) rfl (fun ls hl => ?_)
                            exact hK176 _ w H locs ls h hI (lv_sub hl [1, 2, 3, 4, 0, 5, 6] rfl)
                          · skip
                            have h := git c61 h
                            exact hK128 _ _ w H locs ls h hI (lv_sub hl [0, 3, 4, 6] rfl)
                        · have c60 := mt (lg_cmp_lt _ _).mpr c60
                          have h := gie c60 h
                          refine lv_goto (tgt := 176) hx hb d_M_section_120 (by decide) ?_
                          exact hK176 _ w H locs ls h hI (lv_sub hl [0, 1, 2, 3, 5, 4, 6] rfl)
              exact hL51 64 _ _ w H locs ls h hI (lv_sub hl [1, 2, 3, 4, 6, 5, 0] rfl)
      exact hL35 64 _ _ w H locs ls h hI (lv_sub hl [2, 3, 4, 5, 1, 0] rfl)
    · skip
      have h := gie c5 h
      refine lv_lconst (v := 0) hx hb d_M_section_27 (by decide) ?_
      exact W.widen (show 0 ≤ 0 by omega) (show 0 ≤ 0 by omega) (hret _ _ (Option.some.inj h).symm _ _ _ _ d_M_section_28 hI)
  obtain ⟨K12, eK12, h⟩ := gj h
  have hK12 : ∀ (w : gW) (H : Heap) (locs : List Loc) (ls : Array Slot), K12 w = some r → gI D s A w H locs → lv_has ls 8 [(0, .ref a0), (1, .long p1), (3, .int p2), (4, .int p3)] → W p l e rm_M_section s m args below meth c H locs 0 0 Q (F0 m 12 ls [.ref a0]) := by
    intro w H locs ls h hI hl
    have h := gk1 eK12 h
    refine lv_iconst (v := 1) hx hb d_M_section_12 (by decide) ?_
    refine lv_goto (tgt := 17) hx hb d_M_section_13 (by decide) ?_
    exact hK17 _ w H locs ls h hI (lv_sub hl [0, 1, 2, 3] rfl)
  refine lv_if_lt (tgt := 12) hx hb d_M_section_3 (by decide) (fun c62 => ?_) (fun c62 => ?_)
  · skip
    have h := git c62 h
    exact hK12 w H locs ls h hI (lv_sub hl [0, 1, 2, 3] rfl)
  · skip
    have h := gie c62 h
    refine lv_iload hx hb d_M_section_6 (lv_at hl 3 rfl) ?_
    refine lv_iconst (v := 5) hx hb d_M_section_8 (by decide) ?_
    refine lv_icmp_le (tgt := 16) hx hb d_M_section_9 (by decide) (fun c63 => ?_) (fun c63 => ?_)
    · skip
      have h := git c63 h
      refine lv_iconst (v := 0) hx hb d_M_section_16 (by decide) ?_
      exact hK17 _ w H locs ls h hI (lv_sub hl [0, 1, 2, 3] rfl)
    · skip
      have h := gie c63 h
      exact hK12 w H locs ls h hI (lv_sub hl [0, 1, 2, 3] rfl)

abbrev b_M_thrown : ByteArray := prog_9_method_2_code
def y_M_thrown : MethodName := ⟨"BodySolidsModel", "thrown", "()I"⟩
theorem d_M_thrown_0 : decode b_M_thrown 0 = .ok (.aload_n 0, 1) := by decide +kernel
theorem d_M_thrown_1 : decode b_M_thrown 1 = .ok (.getfield 80, 3) := by decide +kernel
theorem d_M_thrown_4 : decode b_M_thrown 4 = .ok (.ireturn, 1) := by decide +kernel
abbrev rm_M_thrown : Room := { frames := 0, cells := 0, slots := 0, locals := 0 }
theorem ce_M_thrown : gCe y_M_thrown (.code y_M_thrown b_M_thrown 1 (some .int)) 1 0 false := gCe.code wd_871 wd_57 wd_869 (by decide) (by decide +kernel)
def f_M_thrown (g0 : gG) (a0 : Nat) (w : gW) : gX Int32 := (gfI w a0 7 0).bind fun v1 => some (.inr v1, w)
set_option maxHeartbeats 4000000 in
set_option maxRecDepth 100000 in
theorem m_M_thrown (l : Launch) (hst : l.stackTraces = false) (D : gD) (g0 : gG) (a0 : Nat) (w : gW) (r : (String ⊕ Int32) × gW) (h : f_M_thrown g0 a0 w = some r) : gMet l y_M_thrown (.code y_M_thrown b_M_thrown 1 (some .int)) rm_M_thrown D g0 [.ref a0] w (goI r) := by
  refine gw_ofI (by decide +kernel) (Nat.le_of_ble_eq_true rfl) ?_
  intro p e s m below meth c ls args A Q hx hb hml hown hlocks hin hnt hT hK hZ hA hret hexc hthr hI hl
  obtain ⟨H, hH⟩ : ∃ H, H = s.heap := ⟨_, rfl⟩
  rw [← hH] at hI ⊢
  obtain ⟨locs, hlocs⟩ : ∃ z : List Loc, z = [] := ⟨_, rfl⟩
  rw [← hlocs] at hI ⊢
  have hl : lv_has ls 1 [(0, .ref a0)] := hl
  unfold f_M_thrown at h
  refine lv_aload_n hx hb d_M_thrown_0 rfl (lv_at hl 0 rfl) ?_
  obtain ⟨v1, e2, h⟩ := gb h
  refine gw_getI hx hb hT hown hK hI (ci := 7) rfl i_7 0 (by decide) wd_786 (fun _ h9 => h9) e2 d_M_thrown_1 ?_
  exact W.widen (show 0 ≤ 0 by omega) (show 0 ≤ 0 by omega) (hret _ _ (Option.some.inj h).symm _ _ _ _ d_M_thrown_4 hI)
