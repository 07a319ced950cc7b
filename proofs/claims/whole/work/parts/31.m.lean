abbrev b_M_edge : ByteArray := prog_9_method_60_code
def y_M_edge : MethodName := ⟨"BodySolidsModel", "edge", "(I)J"⟩
theorem d_M_edge_0 : decode b_M_edge 0 = .ok (.aload_n 0, 1) := by decide +kernel
theorem d_M_edge_1 : decode b_M_edge 1 = .ok (.getfield 53, 3) := by decide +kernel
theorem d_M_edge_4 : decode b_M_edge 4 = .ok (.iconst 0, 1) := by decide +kernel
theorem d_M_edge_5 : decode b_M_edge 5 = .ok (.iaload, 1) := by decide +kernel
theorem d_M_edge_6 : decode b_M_edge 6 = .ok (.iconst 2, 1) := by decide +kernel
theorem d_M_edge_7 : decode b_M_edge 7 = .ok (.if_icmp .ne 7, 3) := by decide +kernel
theorem d_M_edge_10 : decode b_M_edge 10 = .ok (.lconst 0, 1) := by decide +kernel
theorem d_M_edge_11 : decode b_M_edge 11 = .ok (.goto 9, 3) := by decide +kernel
theorem d_M_edge_14 : decode b_M_edge 14 = .ok (.aload_n 0, 1) := by decide +kernel
theorem d_M_edge_15 : decode b_M_edge 15 = .ok (.getfield 65, 3) := by decide +kernel
theorem d_M_edge_18 : decode b_M_edge 18 = .ok (.iconst 0, 1) := by decide +kernel
theorem d_M_edge_19 : decode b_M_edge 19 = .ok (.laload, 1) := by decide +kernel
theorem d_M_edge_20 : decode b_M_edge 20 = .ok (.lstore_n 2, 1) := by decide +kernel
theorem d_M_edge_21 : decode b_M_edge 21 = .ok (.iload_n 1, 1) := by decide +kernel
theorem d_M_edge_22 : decode b_M_edge 22 = .ok (.iconst 2, 1) := by decide +kernel
theorem d_M_edge_23 : decode b_M_edge 23 = .ok (.if_icmp .ne 26, 3) := by decide +kernel
theorem d_M_edge_26 : decode b_M_edge 26 = .ok (.aload_n 0, 1) := by decide +kernel
theorem d_M_edge_27 : decode b_M_edge 27 = .ok (.getfield 68, 3) := by decide +kernel
theorem d_M_edge_30 : decode b_M_edge 30 = .ok (.iconst 0, 1) := by decide +kernel
theorem d_M_edge_31 : decode b_M_edge 31 = .ok (.laload, 1) := by decide +kernel
theorem d_M_edge_32 : decode b_M_edge 32 = .ok (.aload_n 0, 1) := by decide +kernel
theorem d_M_edge_33 : decode b_M_edge 33 = .ok (.getfield 53, 3) := by decide +kernel
theorem d_M_edge_36 : decode b_M_edge 36 = .ok (.iconst 0, 1) := by decide +kernel
theorem d_M_edge_37 : decode b_M_edge 37 = .ok (.iaload, 1) := by decide +kernel
theorem d_M_edge_38 : decode b_M_edge 38 = .ok (.iconst 3, 1) := by decide +kernel
theorem d_M_edge_39 : decode b_M_edge 39 = .ok (.if_icmp .ne 7, 3) := by decide +kernel
theorem d_M_edge_42 : decode b_M_edge 42 = .ok (.lload_n 2, 1) := by decide +kernel
theorem d_M_edge_43 : decode b_M_edge 43 = .ok (.goto 4, 3) := by decide +kernel
theorem d_M_edge_46 : decode b_M_edge 46 = .ok (.lconst 0, 1) := by decide +kernel
theorem d_M_edge_47 : decode b_M_edge 47 = .ok (.lsub, 1) := by decide +kernel
theorem d_M_edge_48 : decode b_M_edge 48 = .ok (.lreturn, 1) := by decide +kernel
theorem d_M_edge_49 : decode b_M_edge 49 = .ok (.iload_n 1, 1) := by decide +kernel
theorem d_M_edge_50 : decode b_M_edge 50 = .ok (.iconst 5, 1) := by decide +kernel
theorem d_M_edge_51 : decode b_M_edge 51 = .ok (.if_icmp .ne 26, 3) := by decide +kernel
theorem d_M_edge_54 : decode b_M_edge 54 = .ok (.aload_n 0, 1) := by decide +kernel
theorem d_M_edge_55 : decode b_M_edge 55 = .ok (.getfield 71, 3) := by decide +kernel
theorem d_M_edge_58 : decode b_M_edge 58 = .ok (.iconst 0, 1) := by decide +kernel
theorem d_M_edge_59 : decode b_M_edge 59 = .ok (.laload, 1) := by decide +kernel
theorem d_M_edge_60 : decode b_M_edge 60 = .ok (.aload_n 0, 1) := by decide +kernel
theorem d_M_edge_61 : decode b_M_edge 61 = .ok (.getfield 53, 3) := by decide +kernel
theorem d_M_edge_64 : decode b_M_edge 64 = .ok (.iconst 0, 1) := by decide +kernel
theorem d_M_edge_65 : decode b_M_edge 65 = .ok (.iaload, 1) := by decide +kernel
theorem d_M_edge_66 : decode b_M_edge 66 = .ok (.iconst 3, 1) := by decide +kernel
theorem d_M_edge_67 : decode b_M_edge 67 = .ok (.if_icmp .ne 7, 3) := by decide +kernel
theorem d_M_edge_70 : decode b_M_edge 70 = .ok (.lload_n 2, 1) := by decide +kernel
theorem d_M_edge_71 : decode b_M_edge 71 = .ok (.goto 4, 3) := by decide +kernel
theorem d_M_edge_74 : decode b_M_edge 74 = .ok (.lconst 0, 1) := by decide +kernel
theorem d_M_edge_75 : decode b_M_edge 75 = .ok (.ladd, 1) := by decide +kernel
theorem d_M_edge_76 : decode b_M_edge 76 = .ok (.lreturn, 1) := by decide +kernel
theorem d_M_edge_77 : decode b_M_edge 77 = .ok (.iload_n 1, 1) := by decide +kernel
theorem d_M_edge_78 : decode b_M_edge 78 = .ok (.iconst 3, 1) := by decide +kernel
theorem d_M_edge_79 : decode b_M_edge 79 = .ok (.irem, 1) := by decide +kernel
theorem d_M_edge_80 : decode b_M_edge 80 = .ok (.ifCond .ne 12, 3) := by decide +kernel
theorem d_M_edge_83 : decode b_M_edge 83 = .ok (.aload_n 0, 1) := by decide +kernel
theorem d_M_edge_84 : decode b_M_edge 84 = .ok (.getfield 59, 3) := by decide +kernel
theorem d_M_edge_87 : decode b_M_edge 87 = .ok (.iconst 0, 1) := by decide +kernel
theorem d_M_edge_88 : decode b_M_edge 88 = .ok (.laload, 1) := by decide +kernel
theorem d_M_edge_89 : decode b_M_edge 89 = .ok (.goto 9, 3) := by decide +kernel
theorem d_M_edge_92 : decode b_M_edge 92 = .ok (.aload_n 0, 1) := by decide +kernel
theorem d_M_edge_93 : decode b_M_edge 93 = .ok (.getfield 62, 3) := by decide +kernel
theorem d_M_edge_96 : decode b_M_edge 96 = .ok (.iconst 0, 1) := by decide +kernel
theorem d_M_edge_97 : decode b_M_edge 97 = .ok (.laload, 1) := by decide +kernel
theorem d_M_edge_98 : decode b_M_edge 98 = .ok (.lstore 4, 2) := by decide +kernel
theorem d_M_edge_100 : decode b_M_edge 100 = .ok (.iconst 1, 1) := by decide +kernel
theorem d_M_edge_101 : decode b_M_edge 101 = .ok (.istore 6, 2) := by decide +kernel
theorem d_M_edge_103 : decode b_M_edge 103 = .ok (.iload 6, 2) := by decide +kernel
theorem d_M_edge_105 : decode b_M_edge 105 = .ok (.aload_n 0, 1) := by decide +kernel
theorem d_M_edge_106 : decode b_M_edge 106 = .ok (.getfield 56, 3) := by decide +kernel
theorem d_M_edge_109 : decode b_M_edge 109 = .ok (.iconst 0, 1) := by decide +kernel
theorem d_M_edge_110 : decode b_M_edge 110 = .ok (.iaload, 1) := by decide +kernel
theorem d_M_edge_111 : decode b_M_edge 111 = .ok (.if_icmp .ge 58, 3) := by decide +kernel
theorem d_M_edge_114 : decode b_M_edge 114 = .ok (.iload_n 1, 1) := by decide +kernel
theorem d_M_edge_115 : decode b_M_edge 115 = .ok (.iconst 3, 1) := by decide +kernel
theorem d_M_edge_116 : decode b_M_edge 116 = .ok (.irem, 1) := by decide +kernel
theorem d_M_edge_117 : decode b_M_edge 117 = .ok (.ifCond .ne 13, 3) := by decide +kernel
theorem d_M_edge_120 : decode b_M_edge 120 = .ok (.aload_n 0, 1) := by decide +kernel
theorem d_M_edge_121 : decode b_M_edge 121 = .ok (.getfield 59, 3) := by decide +kernel
theorem d_M_edge_124 : decode b_M_edge 124 = .ok (.iload 6, 2) := by decide +kernel
theorem d_M_edge_126 : decode b_M_edge 126 = .ok (.laload, 1) := by decide +kernel
theorem d_M_edge_127 : decode b_M_edge 127 = .ok (.goto 10, 3) := by decide +kernel
theorem d_M_edge_130 : decode b_M_edge 130 = .ok (.aload_n 0, 1) := by decide +kernel
theorem d_M_edge_131 : decode b_M_edge 131 = .ok (.getfield 62, 3) := by decide +kernel
theorem d_M_edge_134 : decode b_M_edge 134 = .ok (.iload 6, 2) := by decide +kernel
theorem d_M_edge_136 : decode b_M_edge 136 = .ok (.laload, 1) := by decide +kernel
theorem d_M_edge_137 : decode b_M_edge 137 = .ok (.lstore 7, 2) := by decide +kernel
theorem d_M_edge_139 : decode b_M_edge 139 = .ok (.iload_n 1, 1) := by decide +kernel
theorem d_M_edge_140 : decode b_M_edge 140 = .ok (.iconst 3, 1) := by decide +kernel
theorem d_M_edge_141 : decode b_M_edge 141 = .ok (.if_icmp .ge 13, 3) := by decide +kernel
theorem d_M_edge_144 : decode b_M_edge 144 = .ok (.lload 4, 2) := by decide +kernel
theorem d_M_edge_146 : decode b_M_edge 146 = .ok (.lload 7, 2) := by decide +kernel
theorem d_M_edge_148 : decode b_M_edge 148 = .ok (.invokestatic 219, 3) := by decide +kernel
theorem d_M_edge_151 : decode b_M_edge 151 = .ok (.goto 10, 3) := by decide +kernel
theorem d_M_edge_154 : decode b_M_edge 154 = .ok (.lload 4, 2) := by decide +kernel
theorem d_M_edge_156 : decode b_M_edge 156 = .ok (.lload 7, 2) := by decide +kernel
theorem d_M_edge_158 : decode b_M_edge 158 = .ok (.invokestatic 222, 3) := by decide +kernel
theorem d_M_edge_161 : decode b_M_edge 161 = .ok (.lstore 4, 2) := by decide +kernel
theorem d_M_edge_163 : decode b_M_edge 163 = .ok (.iinc 6 1, 3) := by decide +kernel
theorem d_M_edge_166 : decode b_M_edge 166 = .ok (.goto (-63), 3) := by decide +kernel
theorem d_M_edge_169 : decode b_M_edge 169 = .ok (.iload_n 1, 1) := by decide +kernel
theorem d_M_edge_170 : decode b_M_edge 170 = .ok (.iconst 3, 1) := by decide +kernel
theorem d_M_edge_171 : decode b_M_edge 171 = .ok (.if_icmp .ge 10, 3) := by decide +kernel
theorem d_M_edge_174 : decode b_M_edge 174 = .ok (.lload 4, 2) := by decide +kernel
theorem d_M_edge_176 : decode b_M_edge 176 = .ok (.lload_n 2, 1) := by decide +kernel
theorem d_M_edge_177 : decode b_M_edge 177 = .ok (.lsub, 1) := by decide +kernel
theorem d_M_edge_178 : decode b_M_edge 178 = .ok (.goto 7, 3) := by decide +kernel
theorem d_M_edge_181 : decode b_M_edge 181 = .ok (.lload 4, 2) := by decide +kernel
theorem d_M_edge_183 : decode b_M_edge 183 = .ok (.lload_n 2, 1) := by decide +kernel
theorem d_M_edge_184 : decode b_M_edge 184 = .ok (.ladd, 1) := by decide +kernel
theorem d_M_edge_185 : decode b_M_edge 185 = .ok (.lreturn, 1) := by decide +kernel
abbrev rm_M_edge : Room := { frames := 1, cells := 0, slots := 0, locals := 23 }
theorem ce_M_edge : gCe y_M_edge (.code y_M_edge b_M_edge 9 (some .long)) 9 1 false := gCe.code wd_1105 wd_57 wd_1104 (by decide) (by decide +kernel)
def f_M_edge_L103 (g0 : gG) (c0 : Nat) (c1 : Int32) (c2 : Int64) (K169 : Int64 → gW → gX Int64) : Nat → Int64 → Int32 → gW → gX Int64
  | 0, _, _, _ => none
  | n + 1, z4, z6, w => (gfA w c0 7 21).bind fun v13 => (gaI w v13 0).bind fun v15 => if v15 ≤ z6 then (K169 z4 w) else (gguard (¬ (3 : Int32) = 0) (gjoin (fun K137 => if (c1 - c1 / 3 * 3) = 0 then ((gfA w c0 7 22).bind fun v33 => (gaJ w v33 z6).bind fun v35 => K137 v35 w) else ((gfA w c0 7 23).bind fun v29 => (gaJ w v29 z6).bind fun v31 => K137 v31 w)) (fun (y19 : Int64) (w : gW) => gjoin (fun K161 => if 3 ≤ c1 then (gbind (f_M_greater g0 z4 y19 w) fun v24 w => K161 v24 w) else (gbind (f_M_lesser g0 z4 y19 w) fun v27 w => K161 v27 w)) (fun (y20 : Int64) (w : gW) => f_M_edge_L103 g0 c0 c1 c2 K169 n y20 (z6 + 1) w))))
def f_M_edge (g0 : gG) (a0 : Nat) (p1 : Int32) (w : gW) : gX Int64 := (gfA w a0 7 20).bind fun v1 => (gaI w v1 0).bind fun v3 => gjoin (fun K20 => if v3 = 2 then (K20 0 w) else ((gfA w a0 7 24).bind fun v69 => (gaJ w v69 0).bind fun v71 => K20 v71 w)) (fun (y5 : Int64) (w : gW) => if p1 = 2 then ((gfA w a0 7 25).bind fun v58 => (gaJ w v58 0).bind fun v60 => (gfA w a0 7 20).bind fun v62 => (gaI w v62 0).bind fun v64 => gjoin (fun K47 => if v64 = 3 then (K47 y5 w) else (K47 0 w)) (fun (y66 : Int64) (w : gW) => some (.inr (v60 - y66), w))) else (if p1 = 5 then ((gfA w a0 7 26).bind fun v48 => (gaJ w v48 0).bind fun v50 => (gfA w a0 7 20).bind fun v52 => (gaI w v52 0).bind fun v54 => gjoin (fun K75 => if v54 = 3 then (K75 y5 w) else (K75 0 w)) (fun (y56 : Int64) (w : gW) => some (.inr (v50 + y56), w))) else (gguard (¬ (3 : Int32) = 0) (gjoin (fun K98 => if (p1 - p1 / 3 * 3) = 0 then ((gfA w a0 7 22).bind fun v44 => (gaJ w v44 0).bind fun v46 => K98 v46 w) else ((gfA w a0 7 23).bind fun v40 => (gaJ w v40 0).bind fun v42 => K98 v42 w)) (fun (y9 : Int64) (w : gW) => gjoin (fun K169 => f_M_edge_L103 g0 a0 p1 y5 K169 64 y9 1 w) (fun (x10 : Int64) (w : gW) => gjoin (fun K185 => if 3 ≤ p1 then (K185 (x10 + y5) w) else (K185 (x10 - y5) w)) (fun (y11 : Int64) (w : gW) => some (.inr y11, w))))))))
set_option maxHeartbeats 4000000 in
set_option maxRecDepth 100000 in
theorem m_M_edge (l : Launch) (hst : l.stackTraces = false) (D : gD) (g0 : gG) (a0 : Nat) (p1 : Int32) (w : gW) (r : (String ⊕ Int64) × gW) (h : f_M_edge g0 a0 p1 w = some r) : gMet l y_M_edge (.code y_M_edge b_M_edge 9 (some .long)) rm_M_edge D g0 [.ref a0, .int p1] w (goJ r) := by
  refine gw_ofJ (by decide +kernel) (Nat.le_of_ble_eq_true rfl) ?_
  intro p e s m below meth c ls args A Q hx hb hml hown hlocks hin hnt hT hK hZ hA hret hexc hthr hI hl
  obtain ⟨H, hH⟩ : ∃ H, H = s.heap := ⟨_, rfl⟩
  rw [← hH] at hI ⊢
  obtain ⟨locs, hlocs⟩ : ∃ z : List Loc, z = [] := ⟨_, rfl⟩
  rw [← hlocs] at hI ⊢
  have hl : lv_has ls 9 [(0, .ref a0), (1, .int p1)] := hl
  unfold f_M_edge at h
  refine lv_aload_n hx hb d_M_edge_0 rfl (lv_at hl 0 rfl) ?_
  obtain ⟨v1, e2, h⟩ := gb h
  refine gw_getA hx hb hT hown hK hI (ci := 7) rfl i_7 20 (by decide) wd_806 (fun _ h9 => h9) e2 d_M_edge_1 ?_
  refine lv_iconst (v := 0) hx hb d_M_edge_4 (by decide) ?_
  obtain ⟨v3, e4, h⟩ := gb h
  refine gw_aldI hx hb hK hI e4 d_M_edge_5 ?_
  refine lv_iconst (v := 2) hx hb d_M_edge_6 (by decide) ?_
  obtain ⟨K20, eK20, h⟩ := gj h
  have hK20 : ∀ (y5 : Int64) (w : gW) (H : Heap) (locs : List Loc) (ls : Array Slot), K20 y5 w = some r → gI D s A w H locs → lv_has ls 9 [(0, .ref a0), (1, .int p1)] → W p l e rm_M_edge s m args below meth c H locs 0 0 Q (F0 m 20 ls [.long y5]) := by
    intro y5 w H locs ls h hI hl
    have h := gk2 eK20 h
    refine lv_lstore_n (lv' := [(2, .long y5), (0, .ref a0), (1, .int p1)]) hx hb d_M_edge_20 rfl hl (by decide) rfl (fun ls hl => ?_)
    refine lv_iload_n hx hb d_M_edge_21 rfl (lv_at hl 2 rfl) ?_
    refine lv_iconst (v := 2) hx hb d_M_edge_22 (by decide) ?_
    refine lv_icmp_ne (tgt := 49) hx hb d_M_edge_23 (by decide) (fun c6 => ?_) (fun c6 => ?_)
    · skip
      have h := gie c6 h
      refine lv_iload_n hx hb d_M_edge_49 rfl (lv_at hl 2 rfl) ?_
      refine lv_iconst (v := 5) hx hb d_M_edge_50 (by decide) ?_
      refine lv_icmp_ne (tgt := 77) hx hb d_M_edge_51 (by decide) (fun c7 => ?_) (fun c7 => ?_)
      · skip
        have h := gie c7 h
        refine lv_iload_n hx hb d_M_edge_77 rfl (lv_at hl 2 rfl) ?_
        refine lv_iconst (v := 3) hx hb d_M_edge_78 (by decide) ?_
        obtain ⟨g8, h⟩ := gif h
        refine lv_irem hx hb d_M_edge_79 g8 ?_
        obtain ⟨K98, eK98, h⟩ := gj h
        have hK98 : ∀ (y9 : Int64) (w : gW) (H : Heap) (locs : List Loc) (ls : Array Slot), K98 y9 w = some r → gI D s A w H locs → lv_has ls 9 [(0, .ref a0), (1, .int p1), (2, .long y5)] → W p l e rm_M_edge s m args below meth c H locs 0 0 Q (F0 m 98 ls [.long y9]) := by
          intro y9 w H locs ls h hI hl
          have h := gk2 eK98 h
          refine lv_lstore (lv' := [(4, .long y9), (0, .ref a0), (1, .int p1), (2, .long y5)]) hx hb d_M_edge_98 hl (by decide) rfl (fun ls hl => ?_)
          refine lv_iconst (v := 1) hx hb d_M_edge_100 (by decide) ?_
          refine lv_istore (lv' := [(6, .int 1), (4, .long y9), (0, .ref a0), (1, .int p1), (2, .long y5)]) hx hb d_M_edge_101 hl (by decide) rfl (fun ls hl => ?_)
          obtain ⟨K169, eK169, h⟩ := gj h
          have hK169 : ∀ (x10 : Int64) (w : gW) (H : Heap) (locs : List Loc) (ls : Array Slot), K169 x10 w = some r → gI D s A w H locs → lv_has ls 9 [(1, .int p1), (2, .long y5), (4, .long x10)] → W p l e rm_M_edge s m args below meth c H locs 0 0 Q (F0 m 169 ls []) := by
            intro x10 w H locs ls h hI hl
            have h := gk2 eK169 h
            refine lv_iload_n hx hb d_M_edge_169 rfl (lv_at hl 0 rfl) ?_
            refine lv_iconst (v := 3) hx hb d_M_edge_170 (by decide) ?_
            obtain ⟨K185, eK185, h⟩ := gj h
            have hK185 : ∀ (y11 : Int64) (w : gW) (H : Heap) (locs : List Loc) (ls : Array Slot), K185 y11 w = some r → gI D s A w H locs → lv_has ls 9 [] → W p l e rm_M_edge s m args below meth c H locs 0 0 Q (F0 m 185 ls [.long y11]) := by
              intro y11 w H locs ls h hI hl
              have h := gk2 eK185 h
              exact W.widen (show 0 ≤ 0 by omega) (show 0 ≤ 0 by omega) (hret _ _ (Option.some.inj h).symm _ _ _ _ d_M_edge_185 hI)
            refine lv_icmp_ge (tgt := 181) hx hb d_M_edge_171 (by decide) (fun c12 => ?_) (fun c12 => ?_)
            · skip
              have h := git c12 h
              refine lv_lload hx hb d_M_edge_181 (lv_at hl 2 rfl) ?_
              refine lv_lload_n hx hb d_M_edge_183 rfl (lv_at hl 1 rfl) ?_
              refine lv_ladd hx hb d_M_edge_184 ?_
              exact hK185 _ w H locs ls h hI (lv_sub hl [] rfl)
            · skip
              have h := gie c12 h
              refine lv_lload hx hb d_M_edge_174 (lv_at hl 2 rfl) ?_
              refine lv_lload_n hx hb d_M_edge_176 rfl (lv_at hl 1 rfl) ?_
              refine lv_lsub hx hb d_M_edge_177 ?_
              refine lv_goto (tgt := 185) hx hb d_M_edge_178 (by decide) ?_
              exact hK185 _ w H locs ls h hI (lv_sub hl [] rfl)
          have hL103 : ∀ (n : Nat), ∀ (z13 : Int64) (z14 : Int32) (w : gW) (H : Heap) (locs : List Loc) (ls : Array Slot), f_M_edge_L103 g0 a0 p1 y5 K169 n z13 z14 w = some r → gI D s A w H locs → lv_has ls 9 [(0, .ref a0), (1, .int p1), (2, .long y5), (4, .long z13), (6, .int z14)] → W p l e rm_M_edge s m args below meth c H locs 0 0 Q (F0 m 103 ls []) := by
            intro n
            induction n with
            | zero => intro z13 z14 w H locs ls h hI hl; exact absurd h (by simp [f_M_edge_L103])
            | succ n ih =>
              intro z13 z14 w H locs ls h hI hl
              rw [f_M_edge_L103] at h
              refine lv_iload hx hb d_M_edge_103 (lv_at hl 4 rfl) ?_
              refine lv_aload_n hx hb d_M_edge_105 rfl (lv_at hl 0 rfl) ?_
              obtain ⟨v15, e16, h⟩ := gb h
              refine gw_getA hx hb hT hown hK hI (ci := 7) rfl i_7 21 (by decide) wd_807 (fun _ h9 => h9) e16 d_M_edge_106 ?_
              refine lv_iconst (v := 0) hx hb d_M_edge_109 (by decide) ?_
              obtain ⟨v17, e18, h⟩ := gb h
              refine gw_aldI hx hb hK hI e18 d_M_edge_110 ?_
              refine lv_icmp_ge (tgt := 169) hx hb d_M_edge_111 (by decide) (fun c19 => ?_) (fun c19 => ?_)
              · skip
                have h := git c19 h
                exact hK169 _ w H locs ls h hI (lv_sub hl [1, 2, 3] rfl)
              · skip
                have h := gie c19 h
                refine lv_iload_n hx hb d_M_edge_114 rfl (lv_at hl 1 rfl) ?_
                refine lv_iconst (v := 3) hx hb d_M_edge_115 (by decide) ?_
                obtain ⟨g20, h⟩ := gif h
                refine lv_irem hx hb d_M_edge_116 g20 ?_
                obtain ⟨K137, eK137, h⟩ := gj h
                have hK137 : ∀ (y21 : Int64) (w : gW) (H : Heap) (locs : List Loc) (ls : Array Slot), K137 y21 w = some r → gI D s A w H locs → lv_has ls 9 [(0, .ref a0), (1, .int p1), (2, .long y5), (4, .long z13), (6, .int z14)] → W p l e rm_M_edge s m args below meth c H locs 0 0 Q (F0 m 137 ls [.long y21]) := by
                  intro y21 w H locs ls h hI hl
                  have h := gk2 eK137 h
                  refine lv_lstore (lv' := [(7, .long y21), (0, .ref a0), (1, .int p1), (2, .long y5), (4, .long z13), (6, .int z14)]) hx hb d_M_edge_137 hl (by decide) rfl (fun ls hl => ?_)
                  refine lv_iload_n hx hb d_M_edge_139 rfl (lv_at hl 2 rfl) ?_
                  refine lv_iconst (v := 3) hx hb d_M_edge_140 (by decide) ?_
                  obtain ⟨K161, eK161, h⟩ := gj h
                  have hK161 : ∀ (y22 : Int64) (w : gW) (H : Heap) (locs : List Loc) (ls : Array Slot), K161 y22 w = some r → gI D s A w H locs → lv_has ls 9 [(0, .ref a0), (1, .int p1), (2, .long y5), (6, .int z14)] → W p l e rm_M_edge s m args below meth c H locs 0 0 Q (F0 m 161 ls [.long y22]) := by
                    intro y22 w H locs ls h hI hl
                    have h := gk2 eK161 h
                    refine lv_lstore (lv' := [(4, .long y22), (0, .ref a0), (1, .int p1), (2, .long y5), (6, .int z14)]) hx hb d_M_edge_161 hl (by decide) rfl (fun ls hl => ?_)
                    refine lv_iinc (v := z14 + 1) (lv' := [(6, .int (z14 + 1)), (4, .long y22), (0, .ref a0), (1, .int p1), (2, .long y5)]) hx hb d_M_edge_163 hl (k := 4) rfl rfl (by decide) rfl (fun ls hl => ?_)
                    refine lv_goto (tgt := 103) hx hb d_M_edge_166 (by decide) ?_
                    exact ih _ _ w H locs ls h hI (lv_sub hl [2, 3, 4, 1, 0] rfl)
                  refine lv_icmp_ge (tgt := 154) hx hb d_M_edge_141 (by decide) (fun c23 => ?_) (fun c23 => ?_)
                  · skip
                    have h := git c23 h
                    refine lv_lload hx hb d_M_edge_154 (lv_at hl 4 rfl) ?_
                    refine lv_lload hx hb d_M_edge_156 (lv_at hl 0 rfl) ?_
                    obtain ⟨u24, e25⟩ := gsome h
                    refine gw_callJ e25 h (gw_runS (As := [.long z13, .long y21]) (rest := []) hx hb hml hown hT hK hZ hA hI (m_M_greater l hst D g0 z13 y21 w u24 e25) ce_M_greater wd_1011 ⟨by decide, by decide⟩ rfl rfl hl.1 rfl (lv_room (Nat.le_of_ble_eq_true rfl)) d_M_edge_158 ⟨(show 0 + 0 ≤ 0 by omega), (show 0 + 0 ≤ 0 by omega)⟩) hI hA hexc (show 0 + 0 ≤ 0 by omega) (show 0 + 0 ≤ 0 by omega) (fun v26 w H locs h hI => ?_)
                    exact hK161 _ w H locs ls h hI (lv_sub hl [1, 2, 3, 5] rfl)
                  · skip
                    have h := gie c23 h
                    refine lv_lload hx hb d_M_edge_144 (lv_at hl 4 rfl) ?_
                    refine lv_lload hx hb d_M_edge_146 (lv_at hl 0 rfl) ?_
                    obtain ⟨u27, e28⟩ := gsome h
                    refine gw_callJ e28 h (gw_runS (As := [.long z13, .long y21]) (rest := []) hx hb hml hown hT hK hZ hA hI (m_M_lesser l hst D g0 z13 y21 w u27 e28) ce_M_lesser wd_1008 ⟨by decide, by decide⟩ rfl rfl hl.1 rfl (lv_room (Nat.le_of_ble_eq_true rfl)) d_M_edge_148 ⟨(show 0 + 0 ≤ 0 by omega), (show 0 + 0 ≤ 0 by omega)⟩) hI hA hexc (show 0 + 0 ≤ 0 by omega) (show 0 + 0 ≤ 0 by omega) (fun v29 w H locs h hI => ?_)
                    refine lv_goto (tgt := 161) hx hb d_M_edge_151 (by decide) ?_
                    exact hK161 _ w H locs ls h hI (lv_sub hl [1, 2, 3, 5] rfl)
                refine lv_if_ne (tgt := 130) hx hb d_M_edge_117 (by decide) (fun c30 => ?_) (fun c30 => ?_)
                · skip
                  have h := gie c30 h
                  refine lv_aload_n hx hb d_M_edge_130 rfl (lv_at hl 0 rfl) ?_
                  obtain ⟨v31, e32, h⟩ := gb h
                  refine gw_getA hx hb hT hown hK hI (ci := 7) rfl i_7 23 (by decide) wd_809 (fun _ h9 => h9) e32 d_M_edge_131 ?_
                  refine lv_iload hx hb d_M_edge_134 (lv_at hl 4 rfl) ?_
                  obtain ⟨v33, e34, h⟩ := gb h
                  refine gw_aldJ hx hb hK hI e34 d_M_edge_136 ?_
                  exact hK137 _ w H locs ls h hI (lv_sub hl [0, 1, 2, 3, 4] rfl)
                · skip
                  have h := git c30 h
                  refine lv_aload_n hx hb d_M_edge_120 rfl (lv_at hl 0 rfl) ?_
                  obtain ⟨v35, e36, h⟩ := gb h
                  refine gw_getA hx hb hT hown hK hI (ci := 7) rfl i_7 22 (by decide) wd_808 (fun _ h9 => h9) e36 d_M_edge_121 ?_
                  refine lv_iload hx hb d_M_edge_124 (lv_at hl 4 rfl) ?_
                  obtain ⟨v37, e38, h⟩ := gb h
                  refine gw_aldJ hx hb hK hI e38 d_M_edge_126 ?_
                  refine lv_goto (tgt := 137) hx hb d_M_edge_127 (by decide) ?_
                  exact hK137 _ w H locs ls h hI (lv_sub hl [0, 1, 2, 3, 4] rfl)
          exact hL103 64 _ _ w H locs ls h hI (lv_sub hl [2, 3, 4, 1, 0] rfl)
        refine lv_if_ne (tgt := 92) hx hb d_M_edge_80 (by decide) (fun c39 => ?_) (fun c39 => ?_)
        · skip
          have h := gie c39 h
          refine lv_aload_n hx hb d_M_edge_92 rfl (lv_at hl 1 rfl) ?_
          obtain ⟨v40, e41, h⟩ := gb h
          refine gw_getA hx hb hT hown hK hI (ci := 7) rfl i_7 23 (by decide) wd_809 (fun _ h9 => h9) e41 d_M_edge_93 ?_
          refine lv_iconst (v := 0) hx hb d_M_edge_96 (by decide) ?_
          obtain ⟨v42, e43, h⟩ := gb h
          refine gw_aldJ hx hb hK hI e43 d_M_edge_97 ?_
          exact hK98 _ w H locs ls h hI (lv_sub hl [1, 2, 0] rfl)
        · skip
          have h := git c39 h
          refine lv_aload_n hx hb d_M_edge_83 rfl (lv_at hl 1 rfl) ?_
          obtain ⟨v44, e45, h⟩ := gb h
          refine gw_getA hx hb hT hown hK hI (ci := 7) rfl i_7 22 (by decide) wd_808 (fun _ h9 => h9) e45 d_M_edge_84 ?_
          refine lv_iconst (v := 0) hx hb d_M_edge_87 (by decide) ?_
          obtain ⟨v46, e47, h⟩ := gb h
          refine gw_aldJ hx hb hK hI e47 d_M_edge_88 ?_
          refine lv_goto (tgt := 98) hx hb d_M_edge_89 (by decide) ?_
          exact hK98 _ w H locs ls h hI (lv_sub hl [1, 2, 0] rfl)
      · skip
        have h := git c7 h
        refine lv_aload_n hx hb d_M_edge_54 rfl (lv_at hl 1 rfl) ?_
        obtain ⟨v48, e49, h⟩ := gb h
        refine gw_getA hx hb hT hown hK hI (ci := 7) rfl i_7 26 (by decide) wd_812 (fun _ h9 => h9) e49 d_M_edge_55 ?_
        refine lv_iconst (v := 0) hx hb d_M_edge_58 (by decide) ?_
        obtain ⟨v50, e51, h⟩ := gb h
        refine gw_aldJ hx hb hK hI e51 d_M_edge_59 ?_
        refine lv_aload_n hx hb d_M_edge_60 rfl (lv_at hl 1 rfl) ?_
        obtain ⟨v52, e53, h⟩ := gb h
        refine gw_getA hx hb hT hown hK hI (ci := 7) rfl i_7 20 (by decide) wd_806 (fun _ h9 => h9) e53 d_M_edge_61 ?_
        refine lv_iconst (v := 0) hx hb d_M_edge_64 (by decide) ?_
        obtain ⟨v54, e55, h⟩ := gb h
        refine gw_aldI hx hb hK hI e55 d_M_edge_65 ?_
        refine lv_iconst (v := 3) hx hb d_M_edge_66 (by decide) ?_
        obtain ⟨K75, eK75, h⟩ := gj h
        have hK75 : ∀ (y56 : Int64) (w : gW) (H : Heap) (locs : List Loc) (ls : Array Slot), K75 y56 w = some r → gI D s A w H locs → lv_has ls 9 [] → W p l e rm_M_edge s m args below meth c H locs 0 0 Q (F0 m 75 ls [.long y56, .long v50]) := by
          intro y56 w H locs ls h hI hl
          have h := gk2 eK75 h
          refine lv_ladd hx hb d_M_edge_75 ?_
          exact W.widen (show 0 ≤ 0 by omega) (show 0 ≤ 0 by omega) (hret _ _ (Option.some.inj h).symm _ _ _ _ d_M_edge_76 hI)
        refine lv_icmp_ne (tgt := 74) hx hb d_M_edge_67 (by decide) (fun c57 => ?_) (fun c57 => ?_)
        · skip
          have h := gie c57 h
          refine lv_lconst (v := 0) hx hb d_M_edge_74 (by decide) ?_
          exact hK75 _ w H locs ls h hI (lv_sub hl [] rfl)
        · skip
          have h := git c57 h
          refine lv_lload_n hx hb d_M_edge_70 rfl (lv_at hl 0 rfl) ?_
          refine lv_goto (tgt := 75) hx hb d_M_edge_71 (by decide) ?_
          exact hK75 _ w H locs ls h hI (lv_sub hl [] rfl)
    · skip
      have h := git c6 h
      refine lv_aload_n hx hb d_M_edge_26 rfl (lv_at hl 1 rfl) ?_
      obtain ⟨v58, e59, h⟩ := gb h
      refine gw_getA hx hb hT hown hK hI (ci := 7) rfl i_7 25 (by decide) wd_811 (fun _ h9 => h9) e59 d_M_edge_27 ?_
      refine lv_iconst (v := 0) hx hb d_M_edge_30 (by decide) ?_
      obtain ⟨v60, e61, h⟩ := gb h
      refine gw_aldJ hx hb hK hI e61 d_M_edge_31 ?_
      refine lv_aload_n hx hb d_M_edge_32 rfl (lv_at hl 1 rfl) ?_
      obtain ⟨v62, e63, h⟩ := gb h
      refine gw_getA hx hb hT hown hK hI (ci := 7) rfl i_7 20 (by decide) wd_806 (fun _ h9 => h9) e63 d_M_edge_33 ?_
      refine lv_iconst (v := 0) hx hb d_M_edge_36 (by decide) ?_
      obtain ⟨v64, e65, h⟩ := gb h
      refine gw_aldI hx hb hK hI e65 d_M_edge_37 ?_
      refine lv_iconst (v := 3) hx hb d_M_edge_38 (by decide) ?_
      obtain ⟨K47, eK47, h⟩ := gj h
      have hK47 : ∀ (y66 : Int64) (w : gW) (H : Heap) (locs : List Loc) (ls : Array Slot), K47 y66 w = some r → gI D s A w H locs → lv_has ls 9 [] → W p l e rm_M_edge s m args below meth c H locs 0 0 Q (F0 m 47 ls [.long y66, .long v60]) := by
        intro y66 w H locs ls h hI hl
        have h := gk2 eK47 h
        refine lv_lsub hx hb d_M_edge_47 ?_
        exact W.widen (show 0 ≤ 0 by omega) (show 0 ≤ 0 by omega) (hret _ _ (Option.some.inj h).symm _ _ _ _ d_M_edge_48 hI)
      refine lv_icmp_ne (tgt := 46) hx hb d_M_edge_39 (by decide) (fun c67 => ?_) (fun c67 => ?_)
      · skip
        have h := gie c67 h
        refine lv_lconst (v := 0) hx hb d_M_edge_46 (by decide) ?_
        exact hK47 _ w H locs ls h hI (lv_sub hl [] rfl)
      · skip
        have h := git c67 h
        refine lv_lload_n hx hb d_M_edge_42 rfl (lv_at hl 0 rfl) ?_
        refine lv_goto (tgt := 47) hx hb d_M_edge_43 (by decide) ?_
        exact hK47 _ w H locs ls h hI (lv_sub hl [] rfl)
  refine lv_icmp_ne (tgt := 14) hx hb d_M_edge_7 (by decide) (fun c68 => ?_) (fun c68 => ?_)
  · skip
    have h := gie c68 h
    refine lv_aload_n hx hb d_M_edge_14 rfl (lv_at hl 0 rfl) ?_
    obtain ⟨v69, e70, h⟩ := gb h
    refine gw_getA hx hb hT hown hK hI (ci := 7) rfl i_7 24 (by decide) wd_810 (fun _ h9 => h9) e70 d_M_edge_15 ?_
    refine lv_iconst (v := 0) hx hb d_M_edge_18 (by decide) ?_
    obtain ⟨v71, e72, h⟩ := gb h
    refine gw_aldJ hx hb hK hI e72 d_M_edge_19 ?_
    exact hK20 _ w H locs ls h hI (lv_sub hl [0, 1] rfl)
  · skip
    have h := git c68 h
    refine lv_lconst (v := 0) hx hb d_M_edge_10 (by decide) ?_
    refine lv_goto (tgt := 20) hx hb d_M_edge_11 (by decide) ?_
    exact hK20 _ w H locs ls h hI (lv_sub hl [0, 1] rfl)

abbrev b_M_bound : ByteArray := prog_9_method_61_code
def y_M_bound : MethodName := ⟨"BodySolidsModel", "bound", "(II)J"⟩
theorem d_M_bound_0 : decode b_M_bound 0 = .ok (.aload_n 0, 1) := by decide +kernel
theorem d_M_bound_1 : decode b_M_bound 1 = .ok (.aload_n 0, 1) := by decide +kernel
theorem d_M_bound_2 : decode b_M_bound 2 = .ok (.iload_n 1, 1) := by decide +kernel
theorem d_M_bound_3 : decode b_M_bound 3 = .ok (.invokevirtual 150, 3) := by decide +kernel
theorem d_M_bound_6 : decode b_M_bound 6 = .ok (.ifCond .eq 12, 3) := by decide +kernel
theorem d_M_bound_9 : decode b_M_bound 9 = .ok (.iload_n 2, 1) := by decide +kernel
theorem d_M_bound_10 : decode b_M_bound 10 = .ok (.ifCond .lt 8, 3) := by decide +kernel
theorem d_M_bound_13 : decode b_M_bound 13 = .ok (.iload_n 2, 1) := by decide +kernel
theorem d_M_bound_14 : decode b_M_bound 14 = .ok (.iconst 5, 1) := by decide +kernel
theorem d_M_bound_15 : decode b_M_bound 15 = .ok (.if_icmp .le 7, 3) := by decide +kernel
theorem d_M_bound_18 : decode b_M_bound 18 = .ok (.iconst 1, 1) := by decide +kernel
theorem d_M_bound_19 : decode b_M_bound 19 = .ok (.goto 22, 3) := by decide +kernel
theorem d_M_bound_22 : decode b_M_bound 22 = .ok (.aload_n 0, 1) := by decide +kernel
theorem d_M_bound_23 : decode b_M_bound 23 = .ok (.getfield 7, 3) := by decide +kernel
theorem d_M_bound_26 : decode b_M_bound 26 = .ok (.aload_n 0, 1) := by decide +kernel
theorem d_M_bound_27 : decode b_M_bound 27 = .ok (.getfield 35, 3) := by decide +kernel
theorem d_M_bound_30 : decode b_M_bound 30 = .ok (.iload_n 1, 1) := by decide +kernel
theorem d_M_bound_31 : decode b_M_bound 31 = .ok (.iaload, 1) := by decide +kernel
theorem d_M_bound_32 : decode b_M_bound 32 = .ok (.iaload, 1) := by decide +kernel
theorem d_M_bound_33 : decode b_M_bound 33 = .ok (.ifCond .ne 7, 3) := by decide +kernel
theorem d_M_bound_36 : decode b_M_bound 36 = .ok (.iconst 2, 1) := by decide +kernel
theorem d_M_bound_37 : decode b_M_bound 37 = .ok (.goto 4, 3) := by decide +kernel
theorem d_M_bound_40 : decode b_M_bound 40 = .ok (.iconst 0, 1) := by decide +kernel
theorem d_M_bound_41 : decode b_M_bound 41 = .ok (.putfield 80, 3) := by decide +kernel
theorem d_M_bound_44 : decode b_M_bound 44 = .ok (.aload_n 0, 1) := by decide +kernel
theorem d_M_bound_45 : decode b_M_bound 45 = .ok (.getfield 80, 3) := by decide +kernel
theorem d_M_bound_48 : decode b_M_bound 48 = .ok (.ifCond .eq 5, 3) := by decide +kernel
theorem d_M_bound_51 : decode b_M_bound 51 = .ok (.lconst 0, 1) := by decide +kernel
theorem d_M_bound_52 : decode b_M_bound 52 = .ok (.lreturn, 1) := by decide +kernel
theorem d_M_bound_53 : decode b_M_bound 53 = .ok (.lconst 0, 1) := by decide +kernel
theorem d_M_bound_54 : decode b_M_bound 54 = .ok (.lstore_n 3, 1) := by decide +kernel
theorem d_M_bound_55 : decode b_M_bound 55 = .ok (.iconst 0, 1) := by decide +kernel
theorem d_M_bound_56 : decode b_M_bound 56 = .ok (.istore 5, 2) := by decide +kernel
theorem d_M_bound_58 : decode b_M_bound 58 = .ok (.iload 5, 2) := by decide +kernel
theorem d_M_bound_60 : decode b_M_bound 60 = .ok (.aload_n 0, 1) := by decide +kernel
theorem d_M_bound_61 : decode b_M_bound 61 = .ok (.getfield 7, 3) := by decide +kernel
theorem d_M_bound_64 : decode b_M_bound 64 = .ok (.aload_n 0, 1) := by decide +kernel
theorem d_M_bound_65 : decode b_M_bound 65 = .ok (.getfield 35, 3) := by decide +kernel
theorem d_M_bound_68 : decode b_M_bound 68 = .ok (.iload_n 1, 1) := by decide +kernel
theorem d_M_bound_69 : decode b_M_bound 69 = .ok (.iaload, 1) := by decide +kernel
theorem d_M_bound_70 : decode b_M_bound 70 = .ok (.iaload, 1) := by decide +kernel
theorem d_M_bound_71 : decode b_M_bound 71 = .ok (.if_icmp .ge 65, 3) := by decide +kernel
theorem d_M_bound_74 : decode b_M_bound 74 = .ok (.aload_n 0, 1) := by decide +kernel
theorem d_M_bound_75 : decode b_M_bound 75 = .ok (.iconst 0, 1) := by decide +kernel
theorem d_M_bound_76 : decode b_M_bound 76 = .ok (.iload_n 1, 1) := by decide +kernel
theorem d_M_bound_77 : decode b_M_bound 77 = .ok (.bipush 12, 2) := by decide +kernel
theorem d_M_bound_79 : decode b_M_bound 79 = .ok (.aload_n 0, 1) := by decide +kernel
theorem d_M_bound_80 : decode b_M_bound 80 = .ok (.getfield 35, 3) := by decide +kernel
theorem d_M_bound_83 : decode b_M_bound 83 = .ok (.iload_n 1, 1) := by decide +kernel
theorem d_M_bound_84 : decode b_M_bound 84 = .ok (.iaload, 1) := by decide +kernel
theorem d_M_bound_85 : decode b_M_bound 85 = .ok (.imul, 1) := by decide +kernel
theorem d_M_bound_86 : decode b_M_bound 86 = .ok (.iload 5, 2) := by decide +kernel
theorem d_M_bound_88 : decode b_M_bound 88 = .ok (.iadd, 1) := by decide +kernel
theorem d_M_bound_89 : decode b_M_bound 89 = .ok (.invokevirtual 252, 3) := by decide +kernel
theorem d_M_bound_92 : decode b_M_bound 92 = .ok (.aload_n 0, 1) := by decide +kernel
theorem d_M_bound_93 : decode b_M_bound 93 = .ok (.iload_n 2, 1) := by decide +kernel
theorem d_M_bound_94 : decode b_M_bound 94 = .ok (.invokevirtual 279, 3) := by decide +kernel
theorem d_M_bound_97 : decode b_M_bound 97 = .ok (.lstore 6, 2) := by decide +kernel
theorem d_M_bound_99 : decode b_M_bound 99 = .ok (.iload 5, 2) := by decide +kernel
theorem d_M_bound_101 : decode b_M_bound 101 = .ok (.ifCond .ne 8, 3) := by decide +kernel
theorem d_M_bound_104 : decode b_M_bound 104 = .ok (.lload 6, 2) := by decide +kernel
theorem d_M_bound_106 : decode b_M_bound 106 = .ok (.goto 23, 3) := by decide +kernel
theorem d_M_bound_109 : decode b_M_bound 109 = .ok (.iload_n 2, 1) := by decide +kernel
theorem d_M_bound_110 : decode b_M_bound 110 = .ok (.iconst 3, 1) := by decide +kernel
theorem d_M_bound_111 : decode b_M_bound 111 = .ok (.if_icmp .ge 12, 3) := by decide +kernel
theorem d_M_bound_114 : decode b_M_bound 114 = .ok (.lload_n 3, 1) := by decide +kernel
theorem d_M_bound_115 : decode b_M_bound 115 = .ok (.lload 6, 2) := by decide +kernel
theorem d_M_bound_117 : decode b_M_bound 117 = .ok (.invokestatic 219, 3) := by decide +kernel
theorem d_M_bound_120 : decode b_M_bound 120 = .ok (.goto 9, 3) := by decide +kernel
theorem d_M_bound_123 : decode b_M_bound 123 = .ok (.lload_n 3, 1) := by decide +kernel
theorem d_M_bound_124 : decode b_M_bound 124 = .ok (.lload 6, 2) := by decide +kernel
theorem d_M_bound_126 : decode b_M_bound 126 = .ok (.invokestatic 222, 3) := by decide +kernel
theorem d_M_bound_129 : decode b_M_bound 129 = .ok (.lstore_n 3, 1) := by decide +kernel
theorem d_M_bound_130 : decode b_M_bound 130 = .ok (.iinc 5 1, 3) := by decide +kernel
theorem d_M_bound_133 : decode b_M_bound 133 = .ok (.goto (-75), 3) := by decide +kernel
theorem d_M_bound_136 : decode b_M_bound 136 = .ok (.lload_n 3, 1) := by decide +kernel
theorem d_M_bound_137 : decode b_M_bound 137 = .ok (.lreturn, 1) := by decide +kernel
abbrev rm_M_bound : Room := { frames := 3, cells := 0, slots := 0, locals := 85 }
theorem ce_M_bound : gCe y_M_bound (.code y_M_bound b_M_bound 8 (some .long)) 8 2 false := gCe.code wd_1101 wd_57 wd_1099 (by decide) (by decide +kernel)
def f_M_bound_L58 (g0 : gG) (c0 : Nat) (c1 : Int32) (c2 : Int32) (K136 : Int64 → gW → gX Int64) : Nat → Int64 → Int32 → gW → gX Int64
  | 0, _, _, _ => none
  | n + 1, z3, z5, w => (gfA w c0 7 3).bind fun v12 => (gfA w c0 7 13).bind fun v14 => (gaI w v14 c1).bind fun v16 => (gaI w v12 v16).bind fun v18 => if v18 ≤ z5 then (K136 z3 w) else ((gfA w c0 7 13).bind fun v21 => (gaI w v21 c1).bind fun v23 => (gck w c0 7).bind fun _ => gbind (f_M_lay g0 c0 0 c1 ((12 * v23) + z5) w) fun v29 w => (gck w c0 7).bind fun _ => gbind (f_M_edge g0 c0 c2 w) fun v34 w => gjoin (fun K129 => if z5 = 0 then (K129 v34 w) else (if 3 ≤ c2 then (gbind (f_M_greater g0 z3 v34 w) fun v40 w => K129 v40 w) else (gbind (f_M_lesser g0 z3 v34 w) fun v43 w => K129 v43 w))) (fun (y35 : Int64) (w : gW) => f_M_bound_L58 g0 c0 c1 c2 K136 n y35 (z5 + 1) w))
def f_M_bound (g0 : gG) (a0 : Nat) (p1 : Int32) (p2 : Int32) (w : gW) : gX Int64 := (gck w a0 7).bind fun _ => gbind (f_M_isPlaced g0 a0 p1 w) fun v5 w => gjoin (fun K41 => gjoin (fun K18 => if v5 = 0 then (K18 w) else (if p2 < 0 then (K18 w) else (if p2 ≤ 5 then ((gfA w a0 7 3).bind fun v49 => (gfA w a0 7 13).bind fun v51 => (gaI w v51 p1).bind fun v53 => (gaI w v49 v53).bind fun v55 => if v55 = 0 then (K41 2 w) else (K41 0 w)) else (K18 w)))) (fun (w : gW) => K41 1 w)) (fun (y6 : Int32) (w : gW) => (gp w a0 7 0 (.int y6)).bind fun w => (gfI w a0 7 0).bind fun v8 => if v8 = 0 then (gjoin (fun K136 => f_M_bound_L58 g0 a0 p1 p2 K136 64 0 0 w) (fun (x11 : Int64) (w : gW) => some (.inr x11, w))) else (some (.inr 0, w)))
set_option maxHeartbeats 4000000 in
set_option maxRecDepth 100000 in
theorem m_M_bound (l : Launch) (hst : l.stackTraces = false) (D : gD) (g0 : gG) (a0 : Nat) (p1 : Int32) (p2 : Int32) (w : gW) (r : (String ⊕ Int64) × gW) (h : f_M_bound g0 a0 p1 p2 w = some r) : gMet l y_M_bound (.code y_M_bound b_M_bound 8 (some .long)) rm_M_bound D g0 [.ref a0, .int p1, .int p2] w (goJ r) := by
  refine gw_ofJ (by decide +kernel) (Nat.le_of_ble_eq_true rfl) ?_
  intro p e s m below meth c ls args A Q hx hb hml hown hlocks hin hnt hT hK hZ hA hret hexc hthr hI hl
  obtain ⟨H, hH⟩ : ∃ H, H = s.heap := ⟨_, rfl⟩
  rw [← hH] at hI ⊢
  obtain ⟨locs, hlocs⟩ : ∃ z : List Loc, z = [] := ⟨_, rfl⟩
  rw [← hlocs] at hI ⊢
  have hl : lv_has ls 8 [(0, .ref a0), (1, .int p1), (2, .int p2)] := hl
  unfold f_M_bound at h
  refine lv_aload_n hx hb d_M_bound_0 rfl (lv_at hl 0 rfl) ?_
  refine lv_aload_n hx hb d_M_bound_1 rfl (lv_at hl 0 rfl) ?_
  refine lv_iload_n hx hb d_M_bound_2 rfl (lv_at hl 1 rfl) ?_
  obtain ⟨q3, e4, h⟩ := gb h
  obtain ⟨u1, e2⟩ := gsome h
  refine gw_callI e2 h (gw_runV (As := [.int p1]) (rest := [.ref a0]) hx hb hml hown hT hK hZ hA hI (ci := 7) rfl e4 (m_M_isPlaced l hst D g0 a0 p1 w u1 e2) ce_M_isPlaced wd_955 wd_23 ⟨by decide, by decide⟩ rfl rfl hl.1 rfl (lv_room (Nat.le_of_ble_eq_true rfl)) d_M_bound_3 ⟨(show 0 + 0 ≤ 0 by omega), (show 0 + 0 ≤ 0 by omega)⟩) hI hA hexc (show 0 + 0 ≤ 0 by omega) (show 0 + 0 ≤ 0 by omega) (fun v5 w H locs h hI => ?_)
  obtain ⟨K41, eK41, h⟩ := gj h
  have hK41 : ∀ (y6 : Int32) (w : gW) (H : Heap) (locs : List Loc) (ls : Array Slot), K41 y6 w = some r → gI D s A w H locs → lv_has ls 8 [(0, .ref a0), (1, .int p1), (2, .int p2)] → W p l e rm_M_bound s m args below meth c H locs 0 0 Q (F0 m 41 ls [.int y6, .ref a0]) := by
    intro y6 w H locs ls h hI hl
    have h := gk2 eK41 h
    obtain ⟨w, e7, h⟩ := gb h
    refine gw_put hx hb hT hown hK hI (ci := 7) rfl i_7 t_7 t_7_ok n_7 0 (by decide) wd_786 (fun _ h9 => h9) rfl (ty := .int) (by decide +kernel) rfl rfl e7 d_M_bound_41 (fun H locs hI => ?_)
    refine lv_aload_n hx hb d_M_bound_44 rfl (lv_at hl 0 rfl) ?_
    obtain ⟨v8, e9, h⟩ := gb h
    refine gw_getI hx hb hT hown hK hI (ci := 7) rfl i_7 0 (by decide) wd_786 (fun _ h9 => h9) e9 d_M_bound_45 ?_
    refine lv_if_eq (tgt := 53) hx hb d_M_bound_48 (by decide) (fun c10 => ?_) (fun c10 => ?_)
    · skip
      have h := git c10 h
      refine lv_lconst (v := 0) hx hb d_M_bound_53 (by decide) ?_
      refine lv_lstore_n (lv' := [(3, .long 0), (0, .ref a0), (1, .int p1), (2, .int p2)]) hx hb d_M_bound_54 rfl hl (by decide) rfl (fun ls hl => ?_)
      refine lv_iconst (v := 0) hx hb d_M_bound_55 (by decide) ?_
      refine lv_istore (lv' := [(5, .int 0), (3, .long 0), (0, .ref a0), (1, .int p1), (2, .int p2)]) hx hb d_M_bound_56 hl (by decide) rfl (fun ls hl => ?_)
      obtain ⟨K136, eK136, h⟩ := gj h
      have hK136 : ∀ (x11 : Int64) (w : gW) (H : Heap) (locs : List Loc) (ls : Array Slot), K136 x11 w = some r → gI D s A w H locs → lv_has ls 8 [(3, .long x11)] → W p l e rm_M_bound s m args below meth c H locs 0 0 Q (F0 m 136 ls []) := by
        intro x11 w H locs ls h hI hl
        have h := gk2 eK136 h
        refine lv_lload_n hx hb d_M_bound_136 rfl (lv_at hl 0 rfl) ?_
        exact W.widen (show 0 ≤ 0 by omega) (show 0 ≤ 0 by omega) (hret _ _ (Option.some.inj h).symm _ _ _ _ d_M_bound_137 hI)
      have hL58 : ∀ (n : Nat), ∀ (z12 : Int64) (z13 : Int32) (w : gW) (H : Heap) (locs : List Loc) (ls : Array Slot), f_M_bound_L58 g0 a0 p1 p2 K136 n z12 z13 w = some r → gI D s A w H locs → lv_has ls 8 [(0, .ref a0), (1, .int p1), (2, .int p2), (3, .long z12), (5, .int z13)] → W p l e rm_M_bound s m args below meth c H locs 0 0 Q (F0 m 58 ls []) := by
        intro n
        induction n with
        | zero => intro z12 z13 w H locs ls h hI hl; exact absurd h (by simp [f_M_bound_L58])
        | succ n ih =>
          intro z12 z13 w H locs ls h hI hl
          rw [f_M_bound_L58] at h
          refine lv_iload hx hb d_M_bound_58 (lv_at hl 4 rfl) ?_
          refine lv_aload_n hx hb d_M_bound_60 rfl (lv_at hl 0 rfl) ?_
          obtain ⟨v14, e15, h⟩ := gb h
          refine gw_getA hx hb hT hown hK hI (ci := 7) rfl i_7 3 (by decide) wd_789 (fun _ h9 => h9) e15 d_M_bound_61 ?_
          refine lv_aload_n hx hb d_M_bound_64 rfl (lv_at hl 0 rfl) ?_
          obtain ⟨v16, e17, h⟩ := gb h
          refine gw_getA hx hb hT hown hK hI (ci := 7) rfl i_7 13 (by decide) wd_799 (fun _ h9 => h9) e17 d_M_bound_65 ?_
          refine lv_iload_n hx hb d_M_bound_68 rfl (lv_at hl 1 rfl) ?_
          obtain ⟨v18, e19, h⟩ := gb h
          refine gw_aldI hx hb hK hI e19 d_M_bound_69 ?_
          obtain ⟨v20, e21, h⟩ := gb h
          refine gw_aldI hx hb hK hI e21 d_M_bound_70 ?_
          refine lv_icmp_ge (tgt := 136) hx hb d_M_bound_71 (by decide) (fun c22 => ?_) (fun c22 => ?_)
          · skip
            have h := git c22 h
            exact hK136 _ w H locs ls h hI (lv_sub hl [3] rfl)
          · skip
            have h := gie c22 h
            refine lv_aload_n hx hb d_M_bound_74 rfl (lv_at hl 0 rfl) ?_
            refine lv_iconst (v := 0) hx hb d_M_bound_75 (by decide) ?_
            refine lv_iload_n hx hb d_M_bound_76 rfl (lv_at hl 1 rfl) ?_
            refine lv_bipush (v := 12) hx hb d_M_bound_77 (by decide) ?_
            refine lv_aload_n hx hb d_M_bound_79 rfl (lv_at hl 0 rfl) ?_
            obtain ⟨v23, e24, h⟩ := gb h
            refine gw_getA hx hb hT hown hK hI (ci := 7) rfl i_7 13 (by decide) wd_799 (fun _ h9 => h9) e24 d_M_bound_80 ?_
            refine lv_iload_n hx hb d_M_bound_83 rfl (lv_at hl 1 rfl) ?_
            obtain ⟨v25, e26, h⟩ := gb h
            refine gw_aldI hx hb hK hI e26 d_M_bound_84 ?_
            refine lv_imul hx hb d_M_bound_85 ?_
            refine lv_iload hx hb d_M_bound_86 (lv_at hl 4 rfl) ?_
            refine lv_iadd hx hb d_M_bound_88 ?_
            obtain ⟨q29, e30, h⟩ := gb h
            obtain ⟨u27, e28⟩ := gsome h
            refine gw_callV e28 h (gw_runV (As := [.int 0, .int p1, .int ((12 * v25) + z13)]) (rest := []) hx hb hml hown hT hK hZ hA hI (ci := 7) rfl e30 (m_M_lay l hst D g0 a0 0 p1 ((12 * v25) + z13) w u27 e28) ce_M_lay wd_967 wd_25 ⟨by decide, by decide⟩ rfl rfl hl.1 rfl (lv_room (Nat.le_of_ble_eq_true rfl)) d_M_bound_89 ⟨(show 0 + 0 ≤ 0 by omega), (show 0 + 0 ≤ 0 by omega)⟩) hI hA hexc (show 0 + 0 ≤ 0 by omega) (show 0 + 0 ≤ 0 by omega) (fun v31 w H locs h hI => ?_)
            refine lv_aload_n hx hb d_M_bound_92 rfl (lv_at hl 0 rfl) ?_
            refine lv_iload_n hx hb d_M_bound_93 rfl (lv_at hl 2 rfl) ?_
            obtain ⟨q34, e35, h⟩ := gb h
            obtain ⟨u32, e33⟩ := gsome h
            refine gw_callJ e33 h (gw_runV (As := [.int p2]) (rest := []) hx hb hml hown hT hK hZ hA hI (ci := 7) rfl e35 (m_M_edge l hst D g0 a0 p2 w u32 e33) ce_M_edge wd_1102 wd_46 ⟨by decide, by decide⟩ rfl rfl hl.1 rfl (lv_room (Nat.le_of_ble_eq_true rfl)) d_M_bound_94 ⟨(show 0 + 0 ≤ 0 by omega), (show 0 + 0 ≤ 0 by omega)⟩) hI hA hexc (show 0 + 0 ≤ 0 by omega) (show 0 + 0 ≤ 0 by omega) (fun v36 w H locs h hI => ?_)
            refine lv_lstore (lv' := [(6, .long v36), (0, .ref a0), (1, .int p1), (2, .int p2), (3, .long z12), (5, .int z13)]) hx hb d_M_bound_97 hl (by decide) rfl (fun ls hl => ?_)
            refine lv_iload hx hb d_M_bound_99 (lv_at hl 5 rfl) ?_
            obtain ⟨K129, eK129, h⟩ := gj h
            have hK129 : ∀ (y37 : Int64) (w : gW) (H : Heap) (locs : List Loc) (ls : Array Slot), K129 y37 w = some r → gI D s A w H locs → lv_has ls 8 [(0, .ref a0), (1, .int p1), (2, .int p2), (5, .int z13)] → W p l e rm_M_bound s m args below meth c H locs 0 0 Q (F0 m 129 ls [.long y37]) := by
              intro y37 w H locs ls h hI hl
              have h := gk2 eK129 h
              refine lv_lstore_n (lv' := [(3, .long y37), (0, .ref a0), (1, .int p1), (2, .int p2), (5, .int z13)]) hx hb d_M_bound_129 rfl hl (by decide) rfl (fun ls hl => ?_)
              refine lv_iinc (v := z13 + 1) (lv' := [(5, .int (z13 + 1)), (3, .long y37), (0, .ref a0), (1, .int p1), (2, .int p2)]) hx hb d_M_bound_130 hl (k := 4) rfl rfl (by decide) rfl (fun ls hl => ?_)
              refine lv_goto (tgt := 58) hx hb d_M_bound_133 (by decide) ?_
              exact ih _ _ w H locs ls h hI (lv_sub hl [2, 3, 4, 1, 0] rfl)
            refine lv_if_ne (tgt := 109) hx hb d_M_bound_101 (by decide) (fun c38 => ?_) (fun c38 => ?_)
            · skip
              have h := gie c38 h
              refine lv_iload_n hx hb d_M_bound_109 rfl (lv_at hl 3 rfl) ?_
              refine lv_iconst (v := 3) hx hb d_M_bound_110 (by decide) ?_
              refine lv_icmp_ge (tgt := 123) hx hb d_M_bound_111 (by decide) (fun c39 => ?_) (fun c39 => ?_)
              · skip
                have h := git c39 h
                refine lv_lload_n hx hb d_M_bound_123 rfl (lv_at hl 4 rfl) ?_
                refine lv_lload hx hb d_M_bound_124 (lv_at hl 0 rfl) ?_
                obtain ⟨u40, e41⟩ := gsome h
                refine gw_callJ e41 h (gw_runS (As := [.long z12, .long v36]) (rest := []) hx hb hml hown hT hK hZ hA hI (m_M_greater l hst D g0 z12 v36 w u40 e41) ce_M_greater wd_1011 ⟨by decide, by decide⟩ rfl rfl hl.1 rfl (lv_room (Nat.le_of_ble_eq_true rfl)) d_M_bound_126 ⟨(show 0 + 0 ≤ 0 by omega), (show 0 + 0 ≤ 0 by omega)⟩) hI hA hexc (show 0 + 0 ≤ 0 by omega) (show 0 + 0 ≤ 0 by omega) (fun v42 w H locs h hI => ?_)
                exact hK129 _ w H locs ls h hI (lv_sub hl [1, 2, 3, 5] rfl)
              · skip
                have h := gie c39 h
                refine lv_lload_n hx hb d_M_bound_114 rfl (lv_at hl 4 rfl) ?_
                refine lv_lload hx hb d_M_bound_115 (lv_at hl 0 rfl) ?_
                obtain ⟨u43, e44⟩ := gsome h
                refine gw_callJ e44 h (gw_runS (As := [.long z12, .long v36]) (rest := []) hx hb hml hown hT hK hZ hA hI (m_M_lesser l hst D g0 z12 v36 w u43 e44) ce_M_lesser wd_1008 ⟨by decide, by decide⟩ rfl rfl hl.1 rfl (lv_room (Nat.le_of_ble_eq_true rfl)) d_M_bound_117 ⟨(show 0 + 0 ≤ 0 by omega), (show 0 + 0 ≤ 0 by omega)⟩) hI hA hexc (show 0 + 0 ≤ 0 by omega) (show 0 + 0 ≤ 0 by omega) (fun v45 w H locs h hI => ?_)
                refine lv_goto (tgt := 129) hx hb d_M_bound_120 (by decide) ?_
                exact hK129 _ w H locs ls h hI (lv_sub hl [1, 2, 3, 5] rfl)
            · skip
              have h := git c38 h
              refine lv_lload hx hb d_M_bound_104 (lv_at hl 0 rfl) ?_
              refine lv_goto (tgt := 129) hx hb d_M_bound_106 (by decide) ?_
              exact hK129 _ w H locs ls h hI (lv_sub hl [1, 2, 3, 5] rfl)
      exact hL58 64 _ _ w H locs ls h hI (lv_sub hl [2, 3, 4, 1, 0] rfl)
    · skip
      have h := gie c10 h
      refine lv_lconst (v := 0) hx hb d_M_bound_51 (by decide) ?_
      exact W.widen (show 0 ≤ 0 by omega) (show 0 ≤ 0 by omega) (hret _ _ (Option.some.inj h).symm _ _ _ _ d_M_bound_52 hI)
  obtain ⟨K18, eK18, h⟩ := gj h
  have hK18 : ∀ (w : gW) (H : Heap) (locs : List Loc) (ls : Array Slot), K18 w = some r → gI D s A w H locs → lv_has ls 8 [(0, .ref a0), (1, .int p1), (2, .int p2)] → W p l e rm_M_bound s m args below meth c H locs 0 0 Q (F0 m 18 ls [.ref a0]) := by
    intro w H locs ls h hI hl
    have h := gk1 eK18 h
    refine lv_iconst (v := 1) hx hb d_M_bound_18 (by decide) ?_
    refine lv_goto (tgt := 41) hx hb d_M_bound_19 (by decide) ?_
    exact hK41 _ w H locs ls h hI (lv_sub hl [0, 1, 2] rfl)
  refine lv_if_eq (tgt := 18) hx hb d_M_bound_6 (by decide) (fun c46 => ?_) (fun c46 => ?_)
  · skip
    have h := git c46 h
    exact hK18 w H locs ls h hI (lv_sub hl [0, 1, 2] rfl)
  · skip
    have h := gie c46 h
    refine lv_iload_n hx hb d_M_bound_9 rfl (lv_at hl 2 rfl) ?_
    refine lv_if_lt (tgt := 18) hx hb d_M_bound_10 (by decide) (fun c47 => ?_) (fun c47 => ?_)
    · skip
      have h := git c47 h
      exact hK18 w H locs ls h hI (lv_sub hl [0, 1, 2] rfl)
    · skip
      have h := gie c47 h
      refine lv_iload_n hx hb d_M_bound_13 rfl (lv_at hl 2 rfl) ?_
      refine lv_iconst (v := 5) hx hb d_M_bound_14 (by decide) ?_
      refine lv_icmp_le (tgt := 22) hx hb d_M_bound_15 (by decide) (fun c48 => ?_) (fun c48 => ?_)
      · skip
        have h := git c48 h
        refine lv_aload_n hx hb d_M_bound_22 rfl (lv_at hl 0 rfl) ?_
        obtain ⟨v49, e50, h⟩ := gb h
        refine gw_getA hx hb hT hown hK hI (ci := 7) rfl i_7 3 (by decide) wd_789 (fun _ h9 => h9) e50 d_M_bound_23 ?_
        refine lv_aload_n hx hb d_M_bound_26 rfl (lv_at hl 0 rfl) ?_
        obtain ⟨v51, e52, h⟩ := gb h
        refine gw_getA hx hb hT hown hK hI (ci := 7) rfl i_7 13 (by decide) wd_799 (fun _ h9 => h9) e52 d_M_bound_27 ?_
        refine lv_iload_n hx hb d_M_bound_30 rfl (lv_at hl 1 rfl) ?_
        obtain ⟨v53, e54, h⟩ := gb h
        refine gw_aldI hx hb hK hI e54 d_M_bound_31 ?_
        obtain ⟨v55, e56, h⟩ := gb h
        refine gw_aldI hx hb hK hI e56 d_M_bound_32 ?_
        refine lv_if_ne (tgt := 40) hx hb d_M_bound_33 (by decide) (fun c57 => ?_) (fun c57 => ?_)
        · skip
          have h := gie c57 h
          refine lv_iconst (v := 0) hx hb d_M_bound_40 (by decide) ?_
          exact hK41 _ w H locs ls h hI (lv_sub hl [0, 1, 2] rfl)
        · skip
          have h := git c57 h
          refine lv_iconst (v := 2) hx hb d_M_bound_36 (by decide) ?_
          refine lv_goto (tgt := 41) hx hb d_M_bound_37 (by decide) ?_
          exact hK41 _ w H locs ls h hI (lv_sub hl [0, 1, 2] rfl)
      · skip
        have h := gie c48 h
        exact hK18 w H locs ls h hI (lv_sub hl [0, 1, 2] rfl)

abbrev b_M_within : ByteArray := prog_9_method_3_code
def y_M_within : MethodName := ⟨"BodySolidsModel", "within", "(JJJ)Z"⟩
theorem d_M_within_0 : decode b_M_within 0 = .ok (.lload_n 0, 1) := by decide +kernel
theorem d_M_within_1 : decode b_M_within 1 = .ok (.lload_n 2, 1) := by decide +kernel
theorem d_M_within_2 : decode b_M_within 2 = .ok (.lcmp, 1) := by decide +kernel
theorem d_M_within_3 : decode b_M_within 3 = .ok (.ifCond .lt 14, 3) := by decide +kernel
theorem d_M_within_6 : decode b_M_within 6 = .ok (.lload_n 0, 1) := by decide +kernel
theorem d_M_within_7 : decode b_M_within 7 = .ok (.lload 4, 2) := by decide +kernel
theorem d_M_within_9 : decode b_M_within 9 = .ok (.lcmp, 1) := by decide +kernel
theorem d_M_within_10 : decode b_M_within 10 = .ok (.ifCond .gt 7, 3) := by decide +kernel
theorem d_M_within_13 : decode b_M_within 13 = .ok (.iconst 1, 1) := by decide +kernel
theorem d_M_within_14 : decode b_M_within 14 = .ok (.goto 4, 3) := by decide +kernel
theorem d_M_within_17 : decode b_M_within 17 = .ok (.iconst 0, 1) := by decide +kernel
theorem d_M_within_18 : decode b_M_within 18 = .ok (.ireturn, 1) := by decide +kernel
abbrev rm_M_within : Room := { frames := 0, cells := 0, slots := 0, locals := 0 }
theorem ce_M_within : gCe y_M_within (.code y_M_within b_M_within 6 (some .boolean)) 6 3 true := gCe.code wd_887 wd_57 wd_886 (by decide) (by decide +kernel)
def f_M_within (g0 : gG) (p0 : Int64) (p1 : Int64) (p2 : Int64) (w : gW) : gX Int32 := gjoin (fun K18 => gjoin (fun K17 => if p0 < p1 then (K17 w) else (if p2 < p0 then (K17 w) else (K18 1 w))) (fun (w : gW) => K18 0 w)) (fun (y1 : Int32) (w : gW) => gguard (y1 = 0 ∨ y1 = 1) (some (.inr y1, w)))
set_option maxHeartbeats 4000000 in
set_option maxRecDepth 100000 in
theorem m_M_within (l : Launch) (hst : l.stackTraces = false) (D : gD) (g0 : gG) (p0 : Int64) (p1 : Int64) (p2 : Int64) (w : gW) (r : (String ⊕ Int32) × gW) (h : f_M_within g0 p0 p1 p2 w = some r) : gMet l y_M_within (.code y_M_within b_M_within 6 (some .boolean)) rm_M_within D g0 [.long p0, .long p1, .long p2] w (goI r) := by
  refine gw_ofZ (by decide +kernel) (Nat.le_of_ble_eq_true rfl) ?_
  intro p e s m below meth c ls args A Q hx hb hml hown hlocks hin hnt hT hK hZ hA hret hexc hthr hI hl
  obtain ⟨H, hH⟩ : ∃ H, H = s.heap := ⟨_, rfl⟩
  rw [← hH] at hI ⊢
  obtain ⟨locs, hlocs⟩ : ∃ z : List Loc, z = [] := ⟨_, rfl⟩
  rw [← hlocs] at hI ⊢
  have hl : lv_has ls 6 [(0, .long p0), (2, .long p1), (4, .long p2)] := hl
  unfold f_M_within at h
  refine lv_lload_n hx hb d_M_within_0 rfl (lv_at hl 0 rfl) ?_
  refine lv_lload_n hx hb d_M_within_1 rfl (lv_at hl 1 rfl) ?_
  refine W.lcmp hx hb d_M_within_2 ?_
  obtain ⟨K18, eK18, h⟩ := gj h
  have hK18 : ∀ (y1 : Int32) (w : gW) (H : Heap) (locs : List Loc) (ls : Array Slot), K18 y1 w = some r → gI D s A w H locs → lv_has ls 6 [] → W p l e rm_M_within s m args below meth c H locs 0 0 Q (F0 m 18 ls [.int y1]) := by
    intro y1 w H locs ls h hI hl
    have h := gk2 eK18 h
    obtain ⟨g2, h⟩ := gif h
    exact W.widen (show 0 ≤ 0 by omega) (show 0 ≤ 0 by omega) (hret g2 0 _ (Option.some.inj h).symm _ _ _ _ d_M_within_18 hI)
  obtain ⟨K17, eK17, h⟩ := gj h
  have hK17 : ∀ (w : gW) (H : Heap) (locs : List Loc) (ls : Array Slot), K17 w = some r → gI D s A w H locs → lv_has ls 6 [] → W p l e rm_M_within s m args below meth c H locs 0 0 Q (F0 m 17 ls []) := by
    intro w H locs ls h hI hl
    have h := gk1 eK17 h
    refine lv_iconst (v := 0) hx hb d_M_within_17 (by decide) ?_
    exact hK18 _ w H locs ls h hI (lv_sub hl [] rfl)
  refine lv_if_lt (tgt := 17) hx hb d_M_within_3 (by decide) (fun c3 => ?_) (fun c3 => ?_)
  · have c3 := (lg_cmp_lt _ _).mp c3
    have h := git c3 h
    exact hK17 w H locs ls h hI (lv_sub hl [] rfl)
  · have c3 := mt (lg_cmp_lt _ _).mpr c3
    have h := gie c3 h
    refine lv_lload_n hx hb d_M_within_6 rfl (lv_at hl 0 rfl) ?_
    refine lv_lload hx hb d_M_within_7 (lv_at hl 2 rfl) ?_
    refine W.lcmp hx hb d_M_within_9 ?_
    refine lv_if_gt (tgt := 17) hx hb d_M_within_10 (by decide) (fun c4 => ?_) (fun c4 => ?_)
    · have c4 := (lg_cmp_gt _ _).mp c4
      have h := git c4 h
      exact hK17 w H locs ls h hI (lv_sub hl [] rfl)
    · have c4 := mt (lg_cmp_gt _ _).mpr c4
      have h := gie c4 h
      refine lv_iconst (v := 1) hx hb d_M_within_13 (by decide) ?_
      refine lv_goto (tgt := 18) hx hb d_M_within_14 (by decide) ?_
      exact hK18 _ w H locs ls h hI (lv_sub hl [] rfl)

abbrev b_M_isPlace : ByteArray := prog_9_method_4_code
def y_M_isPlace : MethodName := ⟨"BodySolidsModel", "isPlace", "(JJ)Z"⟩
theorem d_M_isPlace_0 : decode b_M_isPlace 0 = .ok (.lload_n 0, 1) := by decide +kernel
theorem d_M_isPlace_1 : decode b_M_isPlace 1 = .ok (.ldc2_w 84, 3) := by decide +kernel
theorem d_M_isPlace_4 : decode b_M_isPlace 4 = .ok (.ldc2_w 86, 3) := by decide +kernel
theorem d_M_isPlace_7 : decode b_M_isPlace 7 = .ok (.invokestatic 88, 3) := by decide +kernel
theorem d_M_isPlace_10 : decode b_M_isPlace 10 = .ok (.ifCond .eq 20, 3) := by decide +kernel
theorem d_M_isPlace_13 : decode b_M_isPlace 13 = .ok (.lload_n 2, 1) := by decide +kernel
theorem d_M_isPlace_14 : decode b_M_isPlace 14 = .ok (.ldc2_w 84, 3) := by decide +kernel
theorem d_M_isPlace_17 : decode b_M_isPlace 17 = .ok (.ldc2_w 86, 3) := by decide +kernel
theorem d_M_isPlace_20 : decode b_M_isPlace 20 = .ok (.invokestatic 88, 3) := by decide +kernel
theorem d_M_isPlace_23 : decode b_M_isPlace 23 = .ok (.ifCond .eq 7, 3) := by decide +kernel
theorem d_M_isPlace_26 : decode b_M_isPlace 26 = .ok (.iconst 1, 1) := by decide +kernel
theorem d_M_isPlace_27 : decode b_M_isPlace 27 = .ok (.goto 4, 3) := by decide +kernel
theorem d_M_isPlace_30 : decode b_M_isPlace 30 = .ok (.iconst 0, 1) := by decide +kernel
theorem d_M_isPlace_31 : decode b_M_isPlace 31 = .ok (.ireturn, 1) := by decide +kernel
abbrev rm_M_isPlace : Room := { frames := 1, cells := 0, slots := 0, locals := 25 }
theorem ce_M_isPlace : gCe y_M_isPlace (.code y_M_isPlace b_M_isPlace 4 (some .boolean)) 4 2 true := gCe.code wd_882 wd_57 wd_881 (by decide) (by decide +kernel)
def f_M_isPlace (g0 : gG) (p0 : Int64) (p1 : Int64) (w : gW) : gX Int32 := gbind (f_M_within g0 p0 (-5000) 5000 w) fun v3 w => gjoin (fun K31 => gjoin (fun K30 => if v3 = 0 then (K30 w) else (gbind (f_M_within g0 p1 (-5000) 5000 w) fun v9 w => if v9 = 0 then (K30 w) else (K31 1 w))) (fun (w : gW) => K31 0 w)) (fun (y4 : Int32) (w : gW) => gguard (y4 = 0 ∨ y4 = 1) (some (.inr y4, w)))
set_option maxHeartbeats 4000000 in
set_option maxRecDepth 100000 in
theorem m_M_isPlace (l : Launch) (hst : l.stackTraces = false) (D : gD) (g0 : gG) (p0 : Int64) (p1 : Int64) (w : gW) (r : (String ⊕ Int32) × gW) (h : f_M_isPlace g0 p0 p1 w = some r) : gMet l y_M_isPlace (.code y_M_isPlace b_M_isPlace 4 (some .boolean)) rm_M_isPlace D g0 [.long p0, .long p1] w (goI r) := by
  refine gw_ofZ (by decide +kernel) (Nat.le_of_ble_eq_true rfl) ?_
  intro p e s m below meth c ls args A Q hx hb hml hown hlocks hin hnt hT hK hZ hA hret hexc hthr hI hl
  obtain ⟨H, hH⟩ : ∃ H, H = s.heap := ⟨_, rfl⟩
  rw [← hH] at hI ⊢
  obtain ⟨locs, hlocs⟩ : ∃ z : List Loc, z = [] := ⟨_, rfl⟩
  rw [← hlocs] at hI ⊢
  have hl : lv_has ls 4 [(0, .long p0), (2, .long p1)] := hl
  unfold f_M_isPlace at h
  refine lv_lload_n hx hb d_M_isPlace_0 rfl (lv_at hl 0 rfl) ?_
  refine lv_ldc2 (v := (-5000)) hx hb hown (hT _ wd_883 args) d_M_isPlace_1 ?_
  refine lv_ldc2 (v := 5000) hx hb hown (hT _ wd_884 args) d_M_isPlace_4 ?_
  obtain ⟨u1, e2⟩ := gsome h
  refine gw_callI e2 h (gw_runS (As := [.long p0, .long (-5000), .long 5000]) (rest := []) hx hb hml hown hT hK hZ hA hI (m_M_within l hst D g0 p0 (-5000) 5000 w u1 e2) ce_M_within wd_885 ⟨by decide, by decide⟩ rfl rfl hl.1 rfl (lv_room (Nat.le_of_ble_eq_true rfl)) d_M_isPlace_7 ⟨(show 0 + 0 ≤ 0 by omega), (show 0 + 0 ≤ 0 by omega)⟩) hI hA hexc (show 0 + 0 ≤ 0 by omega) (show 0 + 0 ≤ 0 by omega) (fun v3 w H locs h hI => ?_)
  obtain ⟨K31, eK31, h⟩ := gj h
  have hK31 : ∀ (y4 : Int32) (w : gW) (H : Heap) (locs : List Loc) (ls : Array Slot), K31 y4 w = some r → gI D s A w H locs → lv_has ls 4 [] → W p l e rm_M_isPlace s m args below meth c H locs 0 0 Q (F0 m 31 ls [.int y4]) := by
    intro y4 w H locs ls h hI hl
    have h := gk2 eK31 h
    obtain ⟨g5, h⟩ := gif h
    exact W.widen (show 0 ≤ 0 by omega) (show 0 ≤ 0 by omega) (hret g5 0 _ (Option.some.inj h).symm _ _ _ _ d_M_isPlace_31 hI)
  obtain ⟨K30, eK30, h⟩ := gj h
  have hK30 : ∀ (w : gW) (H : Heap) (locs : List Loc) (ls : Array Slot), K30 w = some r → gI D s A w H locs → lv_has ls 4 [] → W p l e rm_M_isPlace s m args below meth c H locs 0 0 Q (F0 m 30 ls []) := by
    intro w H locs ls h hI hl
    have h := gk1 eK30 h
    refine lv_iconst (v := 0) hx hb d_M_isPlace_30 (by decide) ?_
    exact hK31 _ w H locs ls h hI (lv_sub hl [] rfl)
  refine lv_if_eq (tgt := 30) hx hb d_M_isPlace_10 (by decide) (fun c6 => ?_) (fun c6 => ?_)
  · skip
    have h := git c6 h
    exact hK30 w H locs ls h hI (lv_sub hl [] rfl)
  · skip
    have h := gie c6 h
    refine lv_lload_n hx hb d_M_isPlace_13 rfl (lv_at hl 1 rfl) ?_
    refine lv_ldc2 (v := (-5000)) hx hb hown (hT _ wd_883 args) d_M_isPlace_14 ?_
    refine lv_ldc2 (v := 5000) hx hb hown (hT _ wd_884 args) d_M_isPlace_17 ?_
    obtain ⟨u7, e8⟩ := gsome h
    refine gw_callI e8 h (gw_runS (As := [.long p1, .long (-5000), .long 5000]) (rest := []) hx hb hml hown hT hK hZ hA hI (m_M_within l hst D g0 p1 (-5000) 5000 w u7 e8) ce_M_within wd_885 ⟨by decide, by decide⟩ rfl rfl hl.1 rfl (lv_room (Nat.le_of_ble_eq_true rfl)) d_M_isPlace_20 ⟨(show 0 + 0 ≤ 0 by omega), (show 0 + 0 ≤ 0 by omega)⟩) hI hA hexc (show 0 + 0 ≤ 0 by omega) (show 0 + 0 ≤ 0 by omega) (fun v9 w H locs h hI => ?_)
    refine lv_if_eq (tgt := 30) hx hb d_M_isPlace_23 (by decide) (fun c10 => ?_) (fun c10 => ?_)
    · skip
      have h := git c10 h
      exact hK30 w H locs ls h hI (lv_sub hl [] rfl)
    · skip
      have h := gie c10 h
      refine lv_iconst (v := 1) hx hb d_M_isPlace_26 (by decide) ?_
      refine lv_goto (tgt := 31) hx hb d_M_isPlace_27 (by decide) ?_
      exact hK31 _ w H locs ls h hI (lv_sub hl [] rfl)

abbrev b_M_isLong : ByteArray := prog_9_method_11_code
def y_M_isLong : MethodName := ⟨"BodySolidsModel", "isLong", "(J)Z"⟩
theorem d_M_isLong_0 : decode b_M_isLong 0 = .ok (.lload_n 0, 1) := by decide +kernel
theorem d_M_isLong_1 : decode b_M_isLong 1 = .ok (.lconst 1, 1) := by decide +kernel
theorem d_M_isLong_2 : decode b_M_isLong 2 = .ok (.ldc2_w 86, 3) := by decide +kernel
theorem d_M_isLong_5 : decode b_M_isLong 5 = .ok (.invokestatic 88, 3) := by decide +kernel
theorem d_M_isLong_8 : decode b_M_isLong 8 = .ok (.ireturn, 1) := by decide +kernel
abbrev rm_M_isLong : Room := { frames := 1, cells := 0, slots := 0, locals := 25 }
theorem ce_M_isLong : gCe y_M_isLong (.code y_M_isLong b_M_isLong 2 (some .boolean)) 2 1 true := gCe.code wd_890 wd_57 wd_889 (by decide) (by decide +kernel)
def f_M_isLong (g0 : gG) (p0 : Int64) (w : gW) : gX Int32 := gbind (f_M_within g0 p0 1 5000 w) fun v3 w => gguard (v3 = 0 ∨ v3 = 1) (some (.inr v3, w))
set_option maxHeartbeats 4000000 in
set_option maxRecDepth 100000 in
theorem m_M_isLong (l : Launch) (hst : l.stackTraces = false) (D : gD) (g0 : gG) (p0 : Int64) (w : gW) (r : (String ⊕ Int32) × gW) (h : f_M_isLong g0 p0 w = some r) : gMet l y_M_isLong (.code y_M_isLong b_M_isLong 2 (some .boolean)) rm_M_isLong D g0 [.long p0] w (goI r) := by
  refine gw_ofZ (by decide +kernel) (Nat.le_of_ble_eq_true rfl) ?_
  intro p e s m below meth c ls args A Q hx hb hml hown hlocks hin hnt hT hK hZ hA hret hexc hthr hI hl
  obtain ⟨H, hH⟩ : ∃ H, H = s.heap := ⟨_, rfl⟩
  rw [← hH] at hI ⊢
  obtain ⟨locs, hlocs⟩ : ∃ z : List Loc, z = [] := ⟨_, rfl⟩
  rw [← hlocs] at hI ⊢
  have hl : lv_has ls 2 [(0, .long p0)] := hl
  unfold f_M_isLong at h
  refine lv_lload_n hx hb d_M_isLong_0 rfl (lv_at hl 0 rfl) ?_
  refine lv_lconst (v := 1) hx hb d_M_isLong_1 (by decide) ?_
  refine lv_ldc2 (v := 5000) hx hb hown (hT _ wd_884 args) d_M_isLong_2 ?_
  obtain ⟨u1, e2⟩ := gsome h
  refine gw_callI e2 h (gw_runS (As := [.long p0, .long 1, .long 5000]) (rest := []) hx hb hml hown hT hK hZ hA hI (m_M_within l hst D g0 p0 1 5000 w u1 e2) ce_M_within wd_885 ⟨by decide, by decide⟩ rfl rfl hl.1 rfl (lv_room (Nat.le_of_ble_eq_true rfl)) d_M_isLong_5 ⟨(show 0 + 0 ≤ 0 by omega), (show 0 + 0 ≤ 0 by omega)⟩) hI hA hexc (show 0 + 0 ≤ 0 by omega) (show 0 + 0 ≤ 0 by omega) (fun v3 w H locs h hI => ?_)
  obtain ⟨g4, h⟩ := gif h
  exact W.widen (show 0 ≤ 0 by omega) (show 0 ≤ 0 by omega) (hret g4 0 _ (Option.some.inj h).symm _ _ _ _ d_M_isLong_8 hI)

abbrev b_M_isUpright : ByteArray := prog_9_method_12_code
def y_M_isUpright : MethodName := ⟨"BodySolidsModel", "isUpright", "(JJ)Z"⟩
theorem d_M_isUpright_0 : decode b_M_isUpright 0 = .ok (.lload_n 0, 1) := by decide +kernel
theorem d_M_isUpright_1 : decode b_M_isUpright 1 = .ok (.lconst 0, 1) := by decide +kernel
theorem d_M_isUpright_2 : decode b_M_isUpright 2 = .ok (.ldc2_w 86, 3) := by decide +kernel
theorem d_M_isUpright_5 : decode b_M_isUpright 5 = .ok (.invokestatic 88, 3) := by decide +kernel
theorem d_M_isUpright_8 : decode b_M_isUpright 8 = .ok (.ifCond .eq 24, 3) := by decide +kernel
theorem d_M_isUpright_11 : decode b_M_isUpright 11 = .ok (.lload_n 2, 1) := by decide +kernel
theorem d_M_isUpright_12 : decode b_M_isUpright 12 = .ok (.invokestatic 98, 3) := by decide +kernel
theorem d_M_isUpright_15 : decode b_M_isUpright 15 = .ok (.ifCond .eq 17, 3) := by decide +kernel
theorem d_M_isUpright_18 : decode b_M_isUpright 18 = .ok (.lload_n 0, 1) := by decide +kernel
theorem d_M_isUpright_19 : decode b_M_isUpright 19 = .ok (.lload_n 2, 1) := by decide +kernel
theorem d_M_isUpright_20 : decode b_M_isUpright 20 = .ok (.ladd, 1) := by decide +kernel
theorem d_M_isUpright_21 : decode b_M_isUpright 21 = .ok (.ldc2_w 86, 3) := by decide +kernel
theorem d_M_isUpright_24 : decode b_M_isUpright 24 = .ok (.lcmp, 1) := by decide +kernel
theorem d_M_isUpright_25 : decode b_M_isUpright 25 = .ok (.ifCond .gt 7, 3) := by decide +kernel
theorem d_M_isUpright_28 : decode b_M_isUpright 28 = .ok (.iconst 1, 1) := by decide +kernel
theorem d_M_isUpright_29 : decode b_M_isUpright 29 = .ok (.goto 4, 3) := by decide +kernel
theorem d_M_isUpright_32 : decode b_M_isUpright 32 = .ok (.iconst 0, 1) := by decide +kernel
theorem d_M_isUpright_33 : decode b_M_isUpright 33 = .ok (.ireturn, 1) := by decide +kernel
abbrev rm_M_isUpright : Room := { frames := 2, cells := 0, slots := 0, locals := 46 }
theorem ce_M_isUpright : gCe y_M_isUpright (.code y_M_isUpright b_M_isUpright 4 (some .boolean)) 4 2 true := gCe.code wd_893 wd_57 wd_892 (by decide) (by decide +kernel)
def f_M_isUpright (g0 : gG) (p0 : Int64) (p1 : Int64) (w : gW) : gX Int32 := gbind (f_M_within g0 p0 0 5000 w) fun v3 w => gjoin (fun K33 => gjoin (fun K32 => if v3 = 0 then (K32 w) else (gbind (f_M_isLong g0 p1 w) fun v9 w => if v9 = 0 then (K32 w) else (if 5000 < (p0 + p1) then (K32 w) else (K33 1 w)))) (fun (w : gW) => K33 0 w)) (fun (y4 : Int32) (w : gW) => gguard (y4 = 0 ∨ y4 = 1) (some (.inr y4, w)))
set_option maxHeartbeats 4000000 in
set_option maxRecDepth 100000 in
theorem m_M_isUpright (l : Launch) (hst : l.stackTraces = false) (D : gD) (g0 : gG) (p0 : Int64) (p1 : Int64) (w : gW) (r : (String ⊕ Int32) × gW) (h : f_M_isUpright g0 p0 p1 w = some r) : gMet l y_M_isUpright (.code y_M_isUpright b_M_isUpright 4 (some .boolean)) rm_M_isUpright D g0 [.long p0, .long p1] w (goI r) := by
  refine gw_ofZ (by decide +kernel) (Nat.le_of_ble_eq_true rfl) ?_
  intro p e s m below meth c ls args A Q hx hb hml hown hlocks hin hnt hT hK hZ hA hret hexc hthr hI hl
  obtain ⟨H, hH⟩ : ∃ H, H = s.heap := ⟨_, rfl⟩
  rw [← hH] at hI ⊢
  obtain ⟨locs, hlocs⟩ : ∃ z : List Loc, z = [] := ⟨_, rfl⟩
  rw [← hlocs] at hI ⊢
  have hl : lv_has ls 4 [(0, .long p0), (2, .long p1)] := hl
  unfold f_M_isUpright at h
  refine lv_lload_n hx hb d_M_isUpright_0 rfl (lv_at hl 0 rfl) ?_
  refine lv_lconst (v := 0) hx hb d_M_isUpright_1 (by decide) ?_
  refine lv_ldc2 (v := 5000) hx hb hown (hT _ wd_884 args) d_M_isUpright_2 ?_
  obtain ⟨u1, e2⟩ := gsome h
  refine gw_callI e2 h (gw_runS (As := [.long p0, .long 0, .long 5000]) (rest := []) hx hb hml hown hT hK hZ hA hI (m_M_within l hst D g0 p0 0 5000 w u1 e2) ce_M_within wd_885 ⟨by decide, by decide⟩ rfl rfl hl.1 rfl (lv_room (Nat.le_of_ble_eq_true rfl)) d_M_isUpright_5 ⟨(show 0 + 0 ≤ 0 by omega), (show 0 + 0 ≤ 0 by omega)⟩) hI hA hexc (show 0 + 0 ≤ 0 by omega) (show 0 + 0 ≤ 0 by omega) (fun v3 w H locs h hI => ?_)
  obtain ⟨K33, eK33, h⟩ := gj h
  have hK33 : ∀ (y4 : Int32) (w : gW) (H : Heap) (locs : List Loc) (ls : Array Slot), K33 y4 w = some r → gI D s A w H locs → lv_has ls 4 [] → W p l e rm_M_isUpright s m args below meth c H locs 0 0 Q (F0 m 33 ls [.int y4]) := by
    intro y4 w H locs ls h hI hl
    have h := gk2 eK33 h
    obtain ⟨g5, h⟩ := gif h
    exact W.widen (show 0 ≤ 0 by omega) (show 0 ≤ 0 by omega) (hret g5 0 _ (Option.some.inj h).symm _ _ _ _ d_M_isUpright_33 hI)
  obtain ⟨K32, eK32, h⟩ := gj h
  have hK32 : ∀ (w : gW) (H : Heap) (locs : List Loc) (ls : Array Slot), K32 w = some r → gI D s A w H locs → lv_has ls 4 [] → W p l e rm_M_isUpright s m args below meth c H locs 0 0 Q (F0 m 32 ls []) := by
    intro w H locs ls h hI hl
    have h := gk1 eK32 h
    refine lv_iconst (v := 0) hx hb d_M_isUpright_32 (by decide) ?_
    exact hK33 _ w H locs ls h hI (lv_sub hl [] rfl)
  refine lv_if_eq (tgt := 32) hx hb d_M_isUpright_8 (by decide) (fun c6 => ?_) (fun c6 => ?_)
  · skip
    have h := git c6 h
    exact hK32 w H locs ls h hI (lv_sub hl [] rfl)
  · skip
    have h := gie c6 h
    refine lv_lload_n hx hb d_M_isUpright_11 rfl (lv_at hl 1 rfl) ?_
    obtain ⟨u7, e8⟩ := gsome h
    refine gw_callI e8 h (gw_runS (As := [.long p1]) (rest := []) hx hb hml hown hT hK hZ hA hI (m_M_isLong l hst D g0 p1 w u7 e8) ce_M_isLong wd_888 ⟨by decide, by decide⟩ rfl rfl hl.1 rfl (lv_room (Nat.le_of_ble_eq_true rfl)) d_M_isUpright_12 ⟨(show 0 + 0 ≤ 0 by omega), (show 0 + 0 ≤ 0 by omega)⟩) hI hA hexc (show 0 + 0 ≤ 0 by omega) (show 0 + 0 ≤ 0 by omega) (fun v9 w H locs h hI => ?_)
    refine lv_if_eq (tgt := 32) hx hb d_M_isUpright_15 (by decide) (fun c10 => ?_) (fun c10 => ?_)
    · skip
      have h := git c10 h
      exact hK32 w H locs ls h hI (lv_sub hl [] rfl)
    · skip
      have h := gie c10 h
      refine lv_lload_n hx hb d_M_isUpright_18 rfl (lv_at hl 0 rfl) ?_
      refine lv_lload_n hx hb d_M_isUpright_19 rfl (lv_at hl 1 rfl) ?_
      refine lv_ladd hx hb d_M_isUpright_20 ?_
      refine lv_ldc2 (v := 5000) hx hb hown (hT _ wd_884 args) d_M_isUpright_21 ?_
      refine W.lcmp hx hb d_M_isUpright_24 ?_
      refine lv_if_gt (tgt := 32) hx hb d_M_isUpright_25 (by decide) (fun c11 => ?_) (fun c11 => ?_)
      · have c11 := (lg_cmp_gt _ _).mp c11
        have h := git c11 h
        exact hK32 w H locs ls h hI (lv_sub hl [] rfl)
      · have c11 := mt (lg_cmp_gt _ _).mpr c11
        have h := gie c11 h
        refine lv_iconst (v := 1) hx hb d_M_isUpright_28 (by decide) ?_
        refine lv_goto (tgt := 33) hx hb d_M_isUpright_29 (by decide) ?_
        exact hK33 _ w H locs ls h hI (lv_sub hl [] rfl)

abbrev b_M_isBody : ByteArray := prog_9_method_5_code
def y_M_isBody : MethodName := ⟨"BodySolidsModel", "isBody", "(I)Z"⟩
theorem d_M_isBody_0 : decode b_M_isBody 0 = .ok (.iload_n 1, 1) := by decide +kernel
theorem d_M_isBody_1 : decode b_M_isBody 1 = .ok (.ifCond .lt 15, 3) := by decide +kernel
theorem d_M_isBody_4 : decode b_M_isBody 4 = .ok (.iload_n 1, 1) := by decide +kernel
theorem d_M_isBody_5 : decode b_M_isBody 5 = .ok (.aload_n 0, 1) := by decide +kernel
theorem d_M_isBody_6 : decode b_M_isBody 6 = .ok (.getfield 92, 3) := by decide +kernel
theorem d_M_isBody_9 : decode b_M_isBody 9 = .ok (.if_icmp .ge 7, 3) := by decide +kernel
theorem d_M_isBody_12 : decode b_M_isBody 12 = .ok (.iconst 1, 1) := by decide +kernel
theorem d_M_isBody_13 : decode b_M_isBody 13 = .ok (.goto 4, 3) := by decide +kernel
theorem d_M_isBody_16 : decode b_M_isBody 16 = .ok (.iconst 0, 1) := by decide +kernel
theorem d_M_isBody_17 : decode b_M_isBody 17 = .ok (.ireturn, 1) := by decide +kernel
abbrev rm_M_isBody : Room := { frames := 0, cells := 0, slots := 0, locals := 0 }
theorem ce_M_isBody : gCe y_M_isBody (.code y_M_isBody b_M_isBody 2 (some .boolean)) 2 1 false := gCe.code wd_897 wd_57 wd_896 (by decide) (by decide +kernel)
def f_M_isBody (g0 : gG) (a0 : Nat) (p1 : Int32) (w : gW) : gX Int32 := gjoin (fun K17 => gjoin (fun K16 => if p1 < 0 then (K16 w) else ((gfI w a0 7 2).bind fun v4 => if v4 ≤ p1 then (K16 w) else (K17 1 w))) (fun (w : gW) => K17 0 w)) (fun (y1 : Int32) (w : gW) => gguard (y1 = 0 ∨ y1 = 1) (some (.inr y1, w)))
set_option maxHeartbeats 4000000 in
set_option maxRecDepth 100000 in
theorem m_M_isBody (l : Launch) (hst : l.stackTraces = false) (D : gD) (g0 : gG) (a0 : Nat) (p1 : Int32) (w : gW) (r : (String ⊕ Int32) × gW) (h : f_M_isBody g0 a0 p1 w = some r) : gMet l y_M_isBody (.code y_M_isBody b_M_isBody 2 (some .boolean)) rm_M_isBody D g0 [.ref a0, .int p1] w (goI r) := by
  refine gw_ofZ (by decide +kernel) (Nat.le_of_ble_eq_true rfl) ?_
  intro p e s m below meth c ls args A Q hx hb hml hown hlocks hin hnt hT hK hZ hA hret hexc hthr hI hl
  obtain ⟨H, hH⟩ : ∃ H, H = s.heap := ⟨_, rfl⟩
  rw [← hH] at hI ⊢
  obtain ⟨locs, hlocs⟩ : ∃ z : List Loc, z = [] := ⟨_, rfl⟩
  rw [← hlocs] at hI ⊢
  have hl : lv_has ls 2 [(0, .ref a0), (1, .int p1)] := hl
  unfold f_M_isBody at h
  refine lv_iload_n hx hb d_M_isBody_0 rfl (lv_at hl 1 rfl) ?_
  obtain ⟨K17, eK17, h⟩ := gj h
  have hK17 : ∀ (y1 : Int32) (w : gW) (H : Heap) (locs : List Loc) (ls : Array Slot), K17 y1 w = some r → gI D s A w H locs → lv_has ls 2 [] → W p l e rm_M_isBody s m args below meth c H locs 0 0 Q (F0 m 17 ls [.int y1]) := by
    intro y1 w H locs ls h hI hl
    have h := gk2 eK17 h
    obtain ⟨g2, h⟩ := gif h
    exact W.widen (show 0 ≤ 0 by omega) (show 0 ≤ 0 by omega) (hret g2 0 _ (Option.some.inj h).symm _ _ _ _ d_M_isBody_17 hI)
  obtain ⟨K16, eK16, h⟩ := gj h
  have hK16 : ∀ (w : gW) (H : Heap) (locs : List Loc) (ls : Array Slot), K16 w = some r → gI D s A w H locs → lv_has ls 2 [] → W p l e rm_M_isBody s m args below meth c H locs 0 0 Q (F0 m 16 ls []) := by
    intro w H locs ls h hI hl
    have h := gk1 eK16 h
    refine lv_iconst (v := 0) hx hb d_M_isBody_16 (by decide) ?_
    exact hK17 _ w H locs ls h hI (lv_sub hl [] rfl)
  refine lv_if_lt (tgt := 16) hx hb d_M_isBody_1 (by decide) (fun c3 => ?_) (fun c3 => ?_)
  · skip
    have h := git c3 h
    exact hK16 w H locs ls h hI (lv_sub hl [] rfl)
  · skip
    have h := gie c3 h
    refine lv_iload_n hx hb d_M_isBody_4 rfl (lv_at hl 1 rfl) ?_
    refine lv_aload_n hx hb d_M_isBody_5 rfl (lv_at hl 0 rfl) ?_
    obtain ⟨v4, e5, h⟩ := gb h
    refine gw_getI hx hb hT hown hK hI (ci := 7) rfl i_7 2 (by decide) wd_788 (fun _ h9 => h9) e5 d_M_isBody_6 ?_
    refine lv_icmp_ge (tgt := 16) hx hb d_M_isBody_9 (by decide) (fun c6 => ?_) (fun c6 => ?_)
    · skip
      have h := git c6 h
      exact hK16 w H locs ls h hI (lv_sub hl [] rfl)
    · skip
      have h := gie c6 h
      refine lv_iconst (v := 1) hx hb d_M_isBody_12 (by decide) ?_
      refine lv_goto (tgt := 17) hx hb d_M_isBody_13 (by decide) ?_
      exact hK17 _ w H locs ls h hI (lv_sub hl [] rfl)

abbrev b_M_fresh : ByteArray := prog_9_method_8_code
def y_M_fresh : MethodName := ⟨"BodySolidsModel", "fresh", "(II)I"⟩
theorem d_M_fresh_0 : decode b_M_fresh 0 = .ok (.aload_n 0, 1) := by decide +kernel
theorem d_M_fresh_1 : decode b_M_fresh 1 = .ok (.getfield 7, 3) := by decide +kernel
theorem d_M_fresh_4 : decode b_M_fresh 4 = .ok (.iload_n 1, 1) := by decide +kernel
theorem d_M_fresh_5 : decode b_M_fresh 5 = .ok (.iaload, 1) := by decide +kernel
theorem d_M_fresh_6 : decode b_M_fresh 6 = .ok (.bipush 12, 2) := by decide +kernel
theorem d_M_fresh_8 : decode b_M_fresh 8 = .ok (.if_icmp .ne 5, 3) := by decide +kernel
theorem d_M_fresh_11 : decode b_M_fresh 11 = .ok (.iconst (-1), 1) := by decide +kernel
theorem d_M_fresh_12 : decode b_M_fresh 12 = .ok (.ireturn, 1) := by decide +kernel
theorem d_M_fresh_13 : decode b_M_fresh 13 = .ok (.bipush 12, 2) := by decide +kernel
theorem d_M_fresh_15 : decode b_M_fresh 15 = .ok (.iload_n 1, 1) := by decide +kernel
theorem d_M_fresh_16 : decode b_M_fresh 16 = .ok (.imul, 1) := by decide +kernel
theorem d_M_fresh_17 : decode b_M_fresh 17 = .ok (.aload_n 0, 1) := by decide +kernel
theorem d_M_fresh_18 : decode b_M_fresh 18 = .ok (.getfield 7, 3) := by decide +kernel
theorem d_M_fresh_21 : decode b_M_fresh 21 = .ok (.iload_n 1, 1) := by decide +kernel
theorem d_M_fresh_22 : decode b_M_fresh 22 = .ok (.iaload, 1) := by decide +kernel
theorem d_M_fresh_23 : decode b_M_fresh 23 = .ok (.iadd, 1) := by decide +kernel
theorem d_M_fresh_24 : decode b_M_fresh 24 = .ok (.istore_n 3, 1) := by decide +kernel
theorem d_M_fresh_25 : decode b_M_fresh 25 = .ok (.aload_n 0, 1) := by decide +kernel
theorem d_M_fresh_26 : decode b_M_fresh 26 = .ok (.getfield 13, 3) := by decide +kernel
theorem d_M_fresh_29 : decode b_M_fresh 29 = .ok (.iload_n 3, 1) := by decide +kernel
theorem d_M_fresh_30 : decode b_M_fresh 30 = .ok (.iload_n 2, 1) := by decide +kernel
theorem d_M_fresh_31 : decode b_M_fresh 31 = .ok (.iastore, 1) := by decide +kernel
theorem d_M_fresh_32 : decode b_M_fresh 32 = .ok (.aload_n 0, 1) := by decide +kernel
theorem d_M_fresh_33 : decode b_M_fresh 33 = .ok (.getfield 7, 3) := by decide +kernel
theorem d_M_fresh_36 : decode b_M_fresh 36 = .ok (.iload_n 1, 1) := by decide +kernel
theorem d_M_fresh_37 : decode b_M_fresh 37 = .ok (.dup2, 1) := by decide +kernel
theorem d_M_fresh_38 : decode b_M_fresh 38 = .ok (.iaload, 1) := by decide +kernel
theorem d_M_fresh_39 : decode b_M_fresh 39 = .ok (.iconst 1, 1) := by decide +kernel
theorem d_M_fresh_40 : decode b_M_fresh 40 = .ok (.iadd, 1) := by decide +kernel
theorem d_M_fresh_41 : decode b_M_fresh 41 = .ok (.iastore, 1) := by decide +kernel
theorem d_M_fresh_42 : decode b_M_fresh 42 = .ok (.iload_n 3, 1) := by decide +kernel
theorem d_M_fresh_43 : decode b_M_fresh 43 = .ok (.ireturn, 1) := by decide +kernel
abbrev rm_M_fresh : Room := { frames := 0, cells := 0, slots := 0, locals := 0 }
theorem ce_M_fresh : gCe y_M_fresh (.code y_M_fresh b_M_fresh 4 (some .int)) 4 2 false := gCe.code wd_901 wd_57 wd_900 (by decide) (by decide +kernel)
def f_M_fresh (g0 : gG) (a0 : Nat) (p1 : Int32) (p2 : Int32) (w : gW) : gX Int32 := (gfA w a0 7 3).bind fun v1 => (gaI w v1 p1).bind fun v3 => if v3 = 12 then (some (.inr (-1), w)) else ((gfA w a0 7 3).bind fun v6 => (gaI w v6 p1).bind fun v8 => (gfA w a0 7 4).bind fun v10 => (gsI w v10 ((12 * p1) + v8) p2).bind fun w => (gfA w a0 7 3).bind fun v13 => (gaI w v13 p1).bind fun v15 => (gsI w v13 p1 (v15 + 1)).bind fun w => some (.inr ((12 * p1) + v8), w))
set_option maxHeartbeats 4000000 in
set_option maxRecDepth 100000 in
theorem m_M_fresh (l : Launch) (hst : l.stackTraces = false) (D : gD) (g0 : gG) (a0 : Nat) (p1 : Int32) (p2 : Int32) (w : gW) (r : (String ⊕ Int32) × gW) (h : f_M_fresh g0 a0 p1 p2 w = some r) : gMet l y_M_fresh (.code y_M_fresh b_M_fresh 4 (some .int)) rm_M_fresh D g0 [.ref a0, .int p1, .int p2] w (goI r) := by
  refine gw_ofI (by decide +kernel) (Nat.le_of_ble_eq_true rfl) ?_
  intro p e s m below meth c ls args A Q hx hb hml hown hlocks hin hnt hT hK hZ hA hret hexc hthr hI hl
  obtain ⟨H, hH⟩ : ∃ H, H = s.heap := ⟨_, rfl⟩
  rw [← hH] at hI ⊢
  obtain ⟨locs, hlocs⟩ : ∃ z : List Loc, z = [] := ⟨_, rfl⟩
  rw [← hlocs] at hI ⊢
  have hl : lv_has ls 4 [(0, .ref a0), (1, .int p1), (2, .int p2)] := hl
  unfold f_M_fresh at h
  refine lv_aload_n hx hb d_M_fresh_0 rfl (lv_at hl 0 rfl) ?_
  obtain ⟨v1, e2, h⟩ := gb h
  refine gw_getA hx hb hT hown hK hI (ci := 7) rfl i_7 3 (by decide) wd_789 (fun _ h9 => h9) e2 d_M_fresh_1 ?_
  refine lv_iload_n hx hb d_M_fresh_4 rfl (lv_at hl 1 rfl) ?_
  obtain ⟨v3, e4, h⟩ := gb h
  refine gw_aldI hx hb hK hI e4 d_M_fresh_5 ?_
  refine lv_bipush (v := 12) hx hb d_M_fresh_6 (by decide) ?_
  refine lv_icmp_ne (tgt := 13) hx hb d_M_fresh_8 (by decide) (fun c5 => ?_) (fun c5 => ?_)
  · skip
    have h := gie c5 h
    refine lv_bipush (v := 12) hx hb d_M_fresh_13 (by decide) ?_
    refine lv_iload_n hx hb d_M_fresh_15 rfl (lv_at hl 1 rfl) ?_
    refine lv_imul hx hb d_M_fresh_16 ?_
    refine lv_aload_n hx hb d_M_fresh_17 rfl (lv_at hl 0 rfl) ?_
    obtain ⟨v6, e7, h⟩ := gb h
    refine gw_getA hx hb hT hown hK hI (ci := 7) rfl i_7 3 (by decide) wd_789 (fun _ h9 => h9) e7 d_M_fresh_18 ?_
    refine lv_iload_n hx hb d_M_fresh_21 rfl (lv_at hl 1 rfl) ?_
    obtain ⟨v8, e9, h⟩ := gb h
    refine gw_aldI hx hb hK hI e9 d_M_fresh_22 ?_
    refine lv_iadd hx hb d_M_fresh_23 ?_
    refine lv_istore_n (lv' := [(3, .int ((12 * p1) + v8)), (0, .ref a0), (1, .int p1), (2, .int p2)]) hx hb d_M_fresh_24 rfl hl (by decide) rfl (fun ls hl => ?_)
    refine lv_aload_n hx hb d_M_fresh_25 rfl (lv_at hl 1 rfl) ?_
    obtain ⟨v10, e11, h⟩ := gb h
    refine gw_getA hx hb hT hown hK hI (ci := 7) rfl i_7 4 (by decide) wd_790 (fun _ h9 => h9) e11 d_M_fresh_26 ?_
    refine lv_iload_n hx hb d_M_fresh_29 rfl (lv_at hl 0 rfl) ?_
    refine lv_iload_n hx hb d_M_fresh_30 rfl (lv_at hl 3 rfl) ?_
    obtain ⟨w, e12, h⟩ := gb h
    refine gw_astI hx hb hK hI e12 d_M_fresh_31 (fun H locs hI => ?_)
    refine lv_aload_n hx hb d_M_fresh_32 rfl (lv_at hl 1 rfl) ?_
    obtain ⟨v13, e14, h⟩ := gb h
    refine gw_getA hx hb hT hown hK hI (ci := 7) rfl i_7 3 (by decide) wd_789 (fun _ h9 => h9) e14 d_M_fresh_33 ?_
    refine lv_iload_n hx hb d_M_fresh_36 rfl (lv_at hl 2 rfl) ?_
    refine lv_dup2_11 hx hb d_M_fresh_37 rfl rfl ?_
    obtain ⟨v15, e16, h⟩ := gb h
    refine gw_aldI hx hb hK hI e16 d_M_fresh_38 ?_
    refine lv_iconst (v := 1) hx hb d_M_fresh_39 (by decide) ?_
    refine lv_iadd hx hb d_M_fresh_40 ?_
    obtain ⟨w, e17, h⟩ := gb h
    refine gw_astI hx hb hK hI e17 d_M_fresh_41 (fun H locs hI => ?_)
    refine lv_iload_n hx hb d_M_fresh_42 rfl (lv_at hl 0 rfl) ?_
    exact W.widen (show 0 ≤ 0 by omega) (show 0 ≤ 0 by omega) (hret _ _ (Option.some.inj h).symm _ _ _ _ d_M_fresh_43 hI)
  · skip
    have h := git c5 h
    refine lv_iconst (v := -1) hx hb d_M_fresh_11 (by decide) ?_
    exact W.widen (show 0 ≤ 0 by omega) (show 0 ≤ 0 by omega) (hret _ _ (Option.some.inj h).symm _ _ _ _ d_M_fresh_12 hI)

abbrev b_M_tell : ByteArray := prog_9_method_9_code
def y_M_tell : MethodName := ⟨"BodySolidsModel", "tell", "(IIJ)V"⟩
theorem d_M_tell_0 : decode b_M_tell 0 = .ok (.aload_n 0, 1) := by decide +kernel
theorem d_M_tell_1 : decode b_M_tell 1 = .ok (.getfield 16, 3) := by decide +kernel
theorem d_M_tell_4 : decode b_M_tell 4 = .ok (.bipush 6, 2) := by decide +kernel
theorem d_M_tell_6 : decode b_M_tell 6 = .ok (.iload_n 1, 1) := by decide +kernel
theorem d_M_tell_7 : decode b_M_tell 7 = .ok (.imul, 1) := by decide +kernel
theorem d_M_tell_8 : decode b_M_tell 8 = .ok (.iload_n 2, 1) := by decide +kernel
theorem d_M_tell_9 : decode b_M_tell 9 = .ok (.iadd, 1) := by decide +kernel
theorem d_M_tell_10 : decode b_M_tell 10 = .ok (.lload_n 3, 1) := by decide +kernel
theorem d_M_tell_11 : decode b_M_tell 11 = .ok (.lastore, 1) := by decide +kernel
theorem d_M_tell_12 : decode b_M_tell 12 = .ok (.return_, 1) := by decide +kernel
abbrev rm_M_tell : Room := { frames := 0, cells := 0, slots := 0, locals := 0 }
theorem ce_M_tell : gCe y_M_tell (.code y_M_tell b_M_tell 5 none) 5 3 false := gCe.code wd_905 wd_57 wd_904 (by decide) (by decide +kernel)
def f_M_tell (g0 : gG) (a0 : Nat) (p1 : Int32) (p2 : Int32) (p3 : Int64) (w : gW) : gX Unit := (gfA w a0 7 5).bind fun v1 => (gsJ w v1 ((6 * p1) + p2) p3).bind fun w => some (.inr (), w)
set_option maxHeartbeats 4000000 in
set_option maxRecDepth 100000 in
theorem m_M_tell (l : Launch) (hst : l.stackTraces = false) (D : gD) (g0 : gG) (a0 : Nat) (p1 : Int32) (p2 : Int32) (p3 : Int64) (w : gW) (r : (String ⊕ Unit) × gW) (h : f_M_tell g0 a0 p1 p2 p3 w = some r) : gMet l y_M_tell (.code y_M_tell b_M_tell 5 none) rm_M_tell D g0 [.ref a0, .int p1, .int p2, .long p3] w (goV r) := by
  refine gw_ofV (by decide +kernel) (Nat.le_of_ble_eq_true rfl) ?_
  intro p e s m below meth c ls args A Q hx hb hml hown hlocks hin hnt hT hK hZ hA hret hexc hthr hI hl
  obtain ⟨H, hH⟩ : ∃ H, H = s.heap := ⟨_, rfl⟩
  rw [← hH] at hI ⊢
  obtain ⟨locs, hlocs⟩ : ∃ z : List Loc, z = [] := ⟨_, rfl⟩
  rw [← hlocs] at hI ⊢
  have hl : lv_has ls 5 [(0, .ref a0), (1, .int p1), (2, .int p2), (3, .long p3)] := hl
  unfold f_M_tell at h
  refine lv_aload_n hx hb d_M_tell_0 rfl (lv_at hl 0 rfl) ?_
  obtain ⟨v1, e2, h⟩ := gb h
  refine gw_getA hx hb hT hown hK hI (ci := 7) rfl i_7 5 (by decide) wd_791 (fun _ h9 => h9) e2 d_M_tell_1 ?_
  refine lv_bipush (v := 6) hx hb d_M_tell_4 (by decide) ?_
  refine lv_iload_n hx hb d_M_tell_6 rfl (lv_at hl 1 rfl) ?_
  refine lv_imul hx hb d_M_tell_7 ?_
  refine lv_iload_n hx hb d_M_tell_8 rfl (lv_at hl 2 rfl) ?_
  refine lv_iadd hx hb d_M_tell_9 ?_
  refine lv_lload_n hx hb d_M_tell_10 rfl (lv_at hl 3 rfl) ?_
  obtain ⟨w, e3, h⟩ := gb h
  refine gw_astJ hx hb hK hI e3 d_M_tell_11 (fun H locs hI => ?_)
  exact W.widen (show 0 ≤ 0 by omega) (show 0 ≤ 0 by omega) (hret _ _ (Option.some.inj h).symm _ _ _ _ d_M_tell_12 hI)

abbrev b_M_box : ByteArray := prog_9_method_13_code
def y_M_box : MethodName := ⟨"BodySolidsModel", "box", "(IJJJJJJ)Z"⟩
theorem d_M_box_0 : decode b_M_box 0 = .ok (.lload_n 2, 1) := by decide +kernel
theorem d_M_box_1 : decode b_M_box 1 = .ok (.lload 4, 2) := by decide +kernel
theorem d_M_box_3 : decode b_M_box 3 = .ok (.invokestatic 102, 3) := by decide +kernel
theorem d_M_box_6 : decode b_M_box 6 = .ok (.ifCond .eq 48, 3) := by decide +kernel
theorem d_M_box_9 : decode b_M_box 9 = .ok (.lload 8, 2) := by decide +kernel
theorem d_M_box_11 : decode b_M_box 11 = .ok (.invokestatic 98, 3) := by decide +kernel
theorem d_M_box_14 : decode b_M_box 14 = .ok (.ifCond .eq 40, 3) := by decide +kernel
theorem d_M_box_17 : decode b_M_box 17 = .ok (.lload 10, 2) := by decide +kernel
theorem d_M_box_19 : decode b_M_box 19 = .ok (.invokestatic 98, 3) := by decide +kernel
theorem d_M_box_22 : decode b_M_box 22 = .ok (.ifCond .eq 32, 3) := by decide +kernel
theorem d_M_box_25 : decode b_M_box 25 = .ok (.lload_n 2, 1) := by decide +kernel
theorem d_M_box_26 : decode b_M_box 26 = .ok (.lload 8, 2) := by decide +kernel
theorem d_M_box_28 : decode b_M_box 28 = .ok (.ladd, 1) := by decide +kernel
theorem d_M_box_29 : decode b_M_box 29 = .ok (.lload 4, 2) := by decide +kernel
theorem d_M_box_31 : decode b_M_box 31 = .ok (.lload 10, 2) := by decide +kernel
theorem d_M_box_33 : decode b_M_box 33 = .ok (.ladd, 1) := by decide +kernel
theorem d_M_box_34 : decode b_M_box 34 = .ok (.invokestatic 102, 3) := by decide +kernel
theorem d_M_box_37 : decode b_M_box 37 = .ok (.ifCond .eq 17, 3) := by decide +kernel
theorem d_M_box_40 : decode b_M_box 40 = .ok (.lload 6, 2) := by decide +kernel
theorem d_M_box_42 : decode b_M_box 42 = .ok (.lload 12, 2) := by decide +kernel
theorem d_M_box_44 : decode b_M_box 44 = .ok (.invokestatic 106, 3) := by decide +kernel
theorem d_M_box_47 : decode b_M_box 47 = .ok (.ifCond .eq 7, 3) := by decide +kernel
theorem d_M_box_50 : decode b_M_box 50 = .ok (.iconst 1, 1) := by decide +kernel
theorem d_M_box_51 : decode b_M_box 51 = .ok (.goto 4, 3) := by decide +kernel
theorem d_M_box_54 : decode b_M_box 54 = .ok (.iconst 0, 1) := by decide +kernel
theorem d_M_box_55 : decode b_M_box 55 = .ok (.istore 14, 2) := by decide +kernel
theorem d_M_box_57 : decode b_M_box 57 = .ok (.aload_n 0, 1) := by decide +kernel
theorem d_M_box_58 : decode b_M_box 58 = .ok (.aload_n 0, 1) := by decide +kernel
theorem d_M_box_59 : decode b_M_box 59 = .ok (.iload_n 1, 1) := by decide +kernel
theorem d_M_box_60 : decode b_M_box 60 = .ok (.invokevirtual 109, 3) := by decide +kernel
theorem d_M_box_63 : decode b_M_box 63 = .ok (.ifCond .ne 7, 3) := by decide +kernel
theorem d_M_box_66 : decode b_M_box 66 = .ok (.iconst 1, 1) := by decide +kernel
theorem d_M_box_67 : decode b_M_box 67 = .ok (.goto 13, 3) := by decide +kernel
theorem d_M_box_70 : decode b_M_box 70 = .ok (.iload 14, 2) := by decide +kernel
theorem d_M_box_72 : decode b_M_box 72 = .ok (.ifCond .eq 7, 3) := by decide +kernel
theorem d_M_box_75 : decode b_M_box 75 = .ok (.iconst 0, 1) := by decide +kernel
theorem d_M_box_76 : decode b_M_box 76 = .ok (.goto 4, 3) := by decide +kernel
theorem d_M_box_79 : decode b_M_box 79 = .ok (.iconst 2, 1) := by decide +kernel
theorem d_M_box_80 : decode b_M_box 80 = .ok (.putfield 80, 3) := by decide +kernel
theorem d_M_box_83 : decode b_M_box 83 = .ok (.aload_n 0, 1) := by decide +kernel
theorem d_M_box_84 : decode b_M_box 84 = .ok (.getfield 80, 3) := by decide +kernel
theorem d_M_box_87 : decode b_M_box 87 = .ok (.ifCond .eq 5, 3) := by decide +kernel
theorem d_M_box_90 : decode b_M_box 90 = .ok (.iconst 0, 1) := by decide +kernel
theorem d_M_box_91 : decode b_M_box 91 = .ok (.ireturn, 1) := by decide +kernel
theorem d_M_box_92 : decode b_M_box 92 = .ok (.aload_n 0, 1) := by decide +kernel
theorem d_M_box_93 : decode b_M_box 93 = .ok (.iload_n 1, 1) := by decide +kernel
theorem d_M_box_94 : decode b_M_box 94 = .ok (.iconst 0, 1) := by decide +kernel
theorem d_M_box_95 : decode b_M_box 95 = .ok (.invokevirtual 113, 3) := by decide +kernel
theorem d_M_box_98 : decode b_M_box 98 = .ok (.istore 15, 2) := by decide +kernel
theorem d_M_box_100 : decode b_M_box 100 = .ok (.iload 15, 2) := by decide +kernel
theorem d_M_box_102 : decode b_M_box 102 = .ok (.iconst (-1), 1) := by decide +kernel
theorem d_M_box_103 : decode b_M_box 103 = .ok (.if_icmp .ne 5, 3) := by decide +kernel
theorem d_M_box_106 : decode b_M_box 106 = .ok (.iconst 0, 1) := by decide +kernel
theorem d_M_box_107 : decode b_M_box 107 = .ok (.ireturn, 1) := by decide +kernel
theorem d_M_box_108 : decode b_M_box 108 = .ok (.aload_n 0, 1) := by decide +kernel
theorem d_M_box_109 : decode b_M_box 109 = .ok (.iload 15, 2) := by decide +kernel
theorem d_M_box_111 : decode b_M_box 111 = .ok (.iconst 0, 1) := by decide +kernel
theorem d_M_box_112 : decode b_M_box 112 = .ok (.lload_n 2, 1) := by decide +kernel
theorem d_M_box_113 : decode b_M_box 113 = .ok (.invokevirtual 117, 3) := by decide +kernel
theorem d_M_box_116 : decode b_M_box 116 = .ok (.aload_n 0, 1) := by decide +kernel
theorem d_M_box_117 : decode b_M_box 117 = .ok (.iload 15, 2) := by decide +kernel
theorem d_M_box_119 : decode b_M_box 119 = .ok (.iconst 1, 1) := by decide +kernel
theorem d_M_box_120 : decode b_M_box 120 = .ok (.lload 4, 2) := by decide +kernel
theorem d_M_box_122 : decode b_M_box 122 = .ok (.invokevirtual 117, 3) := by decide +kernel
theorem d_M_box_125 : decode b_M_box 125 = .ok (.aload_n 0, 1) := by decide +kernel
theorem d_M_box_126 : decode b_M_box 126 = .ok (.iload 15, 2) := by decide +kernel
theorem d_M_box_128 : decode b_M_box 128 = .ok (.iconst 2, 1) := by decide +kernel
theorem d_M_box_129 : decode b_M_box 129 = .ok (.lload 6, 2) := by decide +kernel
theorem d_M_box_131 : decode b_M_box 131 = .ok (.invokevirtual 117, 3) := by decide +kernel
theorem d_M_box_134 : decode b_M_box 134 = .ok (.aload_n 0, 1) := by decide +kernel
theorem d_M_box_135 : decode b_M_box 135 = .ok (.iload 15, 2) := by decide +kernel
theorem d_M_box_137 : decode b_M_box 137 = .ok (.iconst 3, 1) := by decide +kernel
theorem d_M_box_138 : decode b_M_box 138 = .ok (.lload 8, 2) := by decide +kernel
theorem d_M_box_140 : decode b_M_box 140 = .ok (.invokevirtual 117, 3) := by decide +kernel
theorem d_M_box_143 : decode b_M_box 143 = .ok (.aload_n 0, 1) := by decide +kernel
theorem d_M_box_144 : decode b_M_box 144 = .ok (.iload 15, 2) := by decide +kernel
theorem d_M_box_146 : decode b_M_box 146 = .ok (.iconst 4, 1) := by decide +kernel
theorem d_M_box_147 : decode b_M_box 147 = .ok (.lload 10, 2) := by decide +kernel
theorem d_M_box_149 : decode b_M_box 149 = .ok (.invokevirtual 117, 3) := by decide +kernel
theorem d_M_box_152 : decode b_M_box 152 = .ok (.aload_n 0, 1) := by decide +kernel
theorem d_M_box_153 : decode b_M_box 153 = .ok (.iload 15, 2) := by decide +kernel
theorem d_M_box_155 : decode b_M_box 155 = .ok (.iconst 5, 1) := by decide +kernel
theorem d_M_box_156 : decode b_M_box 156 = .ok (.lload 12, 2) := by decide +kernel
theorem d_M_box_158 : decode b_M_box 158 = .ok (.invokevirtual 117, 3) := by decide +kernel
theorem d_M_box_161 : decode b_M_box 161 = .ok (.iconst 1, 1) := by decide +kernel
theorem d_M_box_162 : decode b_M_box 162 = .ok (.ireturn, 1) := by decide +kernel
abbrev rm_M_box : Room := { frames := 3, cells := 0, slots := 0, locals := 69 }
theorem ce_M_box : gCe y_M_box (.code y_M_box b_M_box 16 (some .boolean)) 16 7 false := gCe.code wd_879 wd_57 wd_877 (by decide) (by decide +kernel)
def f_M_box (g0 : gG) (a0 : Nat) (p1 : Int32) (p2 : Int64) (p3 : Int64) (p4 : Int64) (p5 : Int64) (p6 : Int64) (p7 : Int64) (w : gW) : gX Int32 := gbind (f_M_isPlace g0 p2 p3 w) fun v3 w => gjoin (fun K55 => gjoin (fun K54 => if v3 = 0 then (K54 w) else (gbind (f_M_isLong g0 p5 w) fun v59 w => if v59 = 0 then (K54 w) else (gbind (f_M_isLong g0 p6 w) fun v63 w => if v63 = 0 then (K54 w) else (gbind (f_M_isPlace g0 (p2 + p5) (p3 + p6) w) fun v67 w => if v67 = 0 then (K54 w) else (gbind (f_M_isUpright g0 p4 p7 w) fun v71 w => if v71 = 0 then (K54 w) else (K55 1 w)))))) (fun (w : gW) => K55 0 w)) (fun (y4 : Int32) (w : gW) => (gck w a0 7).bind fun _ => gbind (f_M_isBody g0 a0 p1 w) fun v9 w => gjoin (fun K80 => if v9 = 0 then (K80 1 w) else (if y4 = 0 then (K80 2 w) else (K80 0 w))) (fun (y10 : Int32) (w : gW) => (gp w a0 7 0 (.int y10)).bind fun w => (gfI w a0 7 0).bind fun v12 => if v12 = 0 then ((gck w a0 7).bind fun _ => gbind (f_M_fresh g0 a0 p1 0 w) fun v19 w => if v19 = (-1) then (gguard ((0 : Int32) = 0 ∨ (0 : Int32) = 1) (some (.inr 0, w))) else ((gck w a0 7).bind fun _ => gbind (f_M_tell g0 a0 v19 0 p2 w) fun v25 w => (gck w a0 7).bind fun _ => gbind (f_M_tell g0 a0 v19 1 p3 w) fun v30 w => (gck w a0 7).bind fun _ => gbind (f_M_tell g0 a0 v19 2 p4 w) fun v35 w => (gck w a0 7).bind fun _ => gbind (f_M_tell g0 a0 v19 3 p5 w) fun v40 w => (gck w a0 7).bind fun _ => gbind (f_M_tell g0 a0 v19 4 p6 w) fun v45 w => (gck w a0 7).bind fun _ => gbind (f_M_tell g0 a0 v19 5 p7 w) fun v50 w => gguard ((1 : Int32) = 0 ∨ (1 : Int32) = 1) (some (.inr 1, w)))) else (gguard ((0 : Int32) = 0 ∨ (0 : Int32) = 1) (some (.inr 0, w)))))
set_option maxHeartbeats 4000000 in
set_option maxRecDepth 100000 in
theorem m_M_box (l : Launch) (hst : l.stackTraces = false) (D : gD) (g0 : gG) (a0 : Nat) (p1 : Int32) (p2 : Int64) (p3 : Int64) (p4 : Int64) (p5 : Int64) (p6 : Int64) (p7 : Int64) (w : gW) (r : (String ⊕ Int32) × gW) (h : f_M_box g0 a0 p1 p2 p3 p4 p5 p6 p7 w = some r) : gMet l y_M_box (.code y_M_box b_M_box 16 (some .boolean)) rm_M_box D g0 [.ref a0, .int p1, .long p2, .long p3, .long p4, .long p5, .long p6, .long p7] w (goI r) := by
  refine gw_ofZ (by decide +kernel) (Nat.le_of_ble_eq_true rfl) ?_
  intro p e s m below meth c ls args A Q hx hb hml hown hlocks hin hnt hT hK hZ hA hret hexc hthr hI hl
  obtain ⟨H, hH⟩ : ∃ H, H = s.heap := ⟨_, rfl⟩
  rw [← hH] at hI ⊢
  obtain ⟨locs, hlocs⟩ : ∃ z : List Loc, z = [] := ⟨_, rfl⟩
  rw [← hlocs] at hI ⊢
  have hl : lv_has ls 16 [(0, .ref a0), (1, .int p1), (2, .long p2), (4, .long p3), (6, .long p4), (8, .long p5), (10, .long p6), (12, .long p7)] := hl
  unfold f_M_box at h
  refine lv_lload_n hx hb d_M_box_0 rfl (lv_at hl 2 rfl) ?_
  refine lv_lload hx hb d_M_box_1 (lv_at hl 3 rfl) ?_
  obtain ⟨u1, e2⟩ := gsome h
  refine gw_callI e2 h (gw_runS (As := [.long p2, .long p3]) (rest := []) hx hb hml hown hT hK hZ hA hI (m_M_isPlace l hst D g0 p2 p3 w u1 e2) ce_M_isPlace wd_880 ⟨by decide, by decide⟩ rfl rfl hl.1 rfl (lv_room (Nat.le_of_ble_eq_true rfl)) d_M_box_3 ⟨(show 0 + 0 ≤ 0 by omega), (show 0 + 0 ≤ 0 by omega)⟩) hI hA hexc (show 0 + 0 ≤ 0 by omega) (show 0 + 0 ≤ 0 by omega) (fun v3 w H locs h hI => ?_)
  obtain ⟨K55, eK55, h⟩ := gj h
  have hK55 : ∀ (y4 : Int32) (w : gW) (H : Heap) (locs : List Loc) (ls : Array Slot), K55 y4 w = some r → gI D s A w H locs → lv_has ls 16 [(0, .ref a0), (1, .int p1), (2, .long p2), (4, .long p3), (6, .long p4), (8, .long p5), (10, .long p6), (12, .long p7)] → W p l e rm_M_box s m args below meth c H locs 0 0 Q (F0 m 55 ls [.int y4]) := by
    intro y4 w H locs ls h hI hl
    have h := gk2 eK55 h
    refine lv_istore (lv' := [(14, .int y4), (0, .ref a0), (1, .int p1), (2, .long p2), (4, .long p3), (6, .long p4), (8, .long p5), (10, .long p6), (12, .long p7)]) hx hb d_M_box_55 hl (by decide) rfl (fun ls hl => ?_)
    refine lv_aload_n hx hb d_M_box_57 rfl (lv_at hl 1 rfl) ?_
    refine lv_aload_n hx hb d_M_box_58 rfl (lv_at hl 1 rfl) ?_
    refine lv_iload_n hx hb d_M_box_59 rfl (lv_at hl 2 rfl) ?_
    obtain ⟨q7, e8, h⟩ := gb h
    obtain ⟨u5, e6⟩ := gsome h
    refine gw_callI e6 h (gw_runV (As := [.int p1]) (rest := [.ref a0]) hx hb hml hown hT hK hZ hA hI (ci := 7) rfl e8 (m_M_isBody l hst D g0 a0 p1 w u5 e6) ce_M_isBody wd_894 wd_17 ⟨by decide, by decide⟩ rfl rfl hl.1 rfl (lv_room (Nat.le_of_ble_eq_true rfl)) d_M_box_60 ⟨(show 0 + 0 ≤ 0 by omega), (show 0 + 0 ≤ 0 by omega)⟩) hI hA hexc (show 0 + 0 ≤ 0 by omega) (show 0 + 0 ≤ 0 by omega) (fun v9 w H locs h hI => ?_)
    obtain ⟨K80, eK80, h⟩ := gj h
    have hK80 : ∀ (y10 : Int32) (w : gW) (H : Heap) (locs : List Loc) (ls : Array Slot), K80 y10 w = some r → gI D s A w H locs → lv_has ls 16 [(0, .ref a0), (1, .int p1), (2, .long p2), (4, .long p3), (6, .long p4), (8, .long p5), (10, .long p6), (12, .long p7)] → W p l e rm_M_box s m args below meth c H locs 0 0 Q (F0 m 80 ls [.int y10, .ref a0]) := by
      intro y10 w H locs ls h hI hl
      have h := gk2 eK80 h
      obtain ⟨w, e11, h⟩ := gb h
      refine gw_put hx hb hT hown hK hI (ci := 7) rfl i_7 t_7 t_7_ok n_7 0 (by decide) wd_786 (fun _ h9 => h9) rfl (ty := .int) (by decide +kernel) rfl rfl e11 d_M_box_80 (fun H locs hI => ?_)
      refine lv_aload_n hx hb d_M_box_83 rfl (lv_at hl 0 rfl) ?_
      obtain ⟨v12, e13, h⟩ := gb h
      refine gw_getI hx hb hT hown hK hI (ci := 7) rfl i_7 0 (by decide) wd_786 (fun _ h9 => h9) e13 d_M_box_84 ?_
      refine lv_if_eq (tgt := 92) hx hb d_M_box_87 (by decide) (fun c14 => ?_) (fun c14 => ?_)
      · skip
        have h := git c14 h
        refine lv_aload_n hx hb d_M_box_92 rfl (lv_at hl 0 rfl) ?_
        refine lv_iload_n hx hb d_M_box_93 rfl (lv_at hl 1 rfl) ?_
        refine lv_iconst (v := 0) hx hb d_M_box_94 (by decide) ?_
        obtain ⟨q17, e18, h⟩ := gb h
        obtain ⟨u15, e16⟩ := gsome h
        refine gw_callI e16 h (gw_runV (As := [.int p1, .int 0]) (rest := []) hx hb hml hown hT hK hZ hA hI (ci := 7) rfl e18 (m_M_fresh l hst D g0 a0 p1 0 w u15 e16) ce_M_fresh wd_898 wd_18 ⟨by decide, by decide⟩ rfl rfl hl.1 rfl (lv_room (Nat.le_of_ble_eq_true rfl)) d_M_box_95 ⟨(show 0 + 0 ≤ 0 by omega), (show 0 + 0 ≤ 0 by omega)⟩) hI hA hexc (show 0 + 0 ≤ 0 by omega) (show 0 + 0 ≤ 0 by omega) (fun v19 w H locs h hI => ?_)
        refine lv_istore (lv' := [(15, .int v19), (0, .ref a0), (1, .int p1), (2, .long p2), (4, .long p3), (6, .long p4), (8, .long p5), (10, .long p6), (12, .long p7)]) hx hb d_M_box_98 hl (by decide) rfl (fun ls hl => ?_)
        refine lv_iload hx hb d_M_box_100 (lv_at hl 0 rfl) ?_
        refine lv_iconst (v := -1) hx hb d_M_box_102 (by decide) ?_
        refine lv_icmp_ne (tgt := 108) hx hb d_M_box_103 (by decide) (fun c20 => ?_) (fun c20 => ?_)
        · skip
          have h := gie c20 h
          refine lv_aload_n hx hb d_M_box_108 rfl (lv_at hl 1 rfl) ?_
          refine lv_iload hx hb d_M_box_109 (lv_at hl 0 rfl) ?_
          refine lv_iconst (v := 0) hx hb d_M_box_111 (by decide) ?_
          refine lv_lload_n hx hb d_M_box_112 rfl (lv_at hl 3 rfl) ?_
          obtain ⟨q23, e24, h⟩ := gb h
          obtain ⟨u21, e22⟩ := gsome h
          refine gw_callV e22 h (gw_runV (As := [.int v19, .int 0, .long p2]) (rest := []) hx hb hml hown hT hK hZ hA hI (ci := 7) rfl e24 (m_M_tell l hst D g0 a0 v19 0 p2 w u21 e22) ce_M_tell wd_902 wd_19 ⟨by decide, by decide⟩ rfl rfl hl.1 rfl (lv_room (Nat.le_of_ble_eq_true rfl)) d_M_box_113 ⟨(show 0 + 0 ≤ 0 by omega), (show 0 + 0 ≤ 0 by omega)⟩) hI hA hexc (show 0 + 0 ≤ 0 by omega) (show 0 + 0 ≤ 0 by omega) (fun v25 w H locs h hI => ?_)
          refine lv_aload_n hx hb d_M_box_116 rfl (lv_at hl 1 rfl) ?_
          refine lv_iload hx hb d_M_box_117 (lv_at hl 0 rfl) ?_
          refine lv_iconst (v := 1) hx hb d_M_box_119 (by decide) ?_
          refine lv_lload hx hb d_M_box_120 (lv_at hl 4 rfl) ?_
          obtain ⟨q28, e29, h⟩ := gb h
          obtain ⟨u26, e27⟩ := gsome h
          refine gw_callV e27 h (gw_runV (As := [.int v19, .int 1, .long p3]) (rest := []) hx hb hml hown hT hK hZ hA hI (ci := 7) rfl e29 (m_M_tell l hst D g0 a0 v19 1 p3 w u26 e27) ce_M_tell wd_902 wd_19 ⟨by decide, by decide⟩ rfl rfl hl.1 rfl (lv_room (Nat.le_of_ble_eq_true rfl)) d_M_box_122 ⟨(show 0 + 0 ≤ 0 by omega), (show 0 + 0 ≤ 0 by omega)⟩) hI hA hexc (show 0 + 0 ≤ 0 by omega) (show 0 + 0 ≤ 0 by omega) (fun v30 w H locs h hI => ?_)
          refine lv_aload_n hx hb d_M_box_125 rfl (lv_at hl 1 rfl) ?_
          refine lv_iload hx hb d_M_box_126 (lv_at hl 0 rfl) ?_
          refine lv_iconst (v := 2) hx hb d_M_box_128 (by decide) ?_
          refine lv_lload hx hb d_M_box_129 (lv_at hl 5 rfl) ?_
          obtain ⟨q33, e34, h⟩ := gb h
          obtain ⟨u31, e32⟩ := gsome h
          refine gw_callV e32 h (gw_runV (As := [.int v19, .int 2, .long p4]) (rest := []) hx hb hml hown hT hK hZ hA hI (ci := 7) rfl e34 (m_M_tell l hst D g0 a0 v19 2 p4 w u31 e32) ce_M_tell wd_902 wd_19 ⟨by decide, by decide⟩ rfl rfl hl.1 rfl (lv_room (Nat.le_of_ble_eq_true rfl)) d_M_box_131 ⟨(show 0 + 0 ≤ 0 by omega), (show 0 + 0 ≤ 0 by omega)⟩) hI hA hexc (show 0 + 0 ≤ 0 by omega) (show 0 + 0 ≤ 0 by omega) (fun v35 w H locs h hI => ?_)
          refine lv_aload_n hx hb d_M_box_134 rfl (lv_at hl 1 rfl) ?_
          refine lv_iload hx hb d_M_box_135 (lv_at hl 0 rfl) ?_
          refine lv_iconst (v := 3) hx hb d_M_box_137 (by decide) ?_
          refine lv_lload hx hb d_M_box_138 (lv_at hl 6 rfl) ?_
          obtain ⟨q38, e39, h⟩ := gb h
          obtain ⟨u36, e37⟩ := gsome h
          refine gw_callV e37 h (gw_runV (As := [.int v19, .int 3, .long p5]) (rest := []) hx hb hml hown hT hK hZ hA hI (ci := 7) rfl e39 (m_M_tell l hst D g0 a0 v19 3 p5 w u36 e37) ce_M_tell wd_902 wd_19 ⟨by decide, by decide⟩ rfl rfl hl.1 rfl (lv_room (Nat.le_of_ble_eq_true rfl)) d_M_box_140 ⟨(show 0 + 0 ≤ 0 by omega), (show 0 + 0 ≤ 0 by omega)⟩) hI hA hexc (show 0 + 0 ≤ 0 by omega) (show 0 + 0 ≤ 0 by omega) (fun v40 w H locs h hI => ?_)
          refine lv_aload_n hx hb d_M_box_143 rfl (lv_at hl 1 rfl) ?_
          refine lv_iload hx hb d_M_box_144 (lv_at hl 0 rfl) ?_
          refine lv_iconst (v := 4) hx hb d_M_box_146 (by decide) ?_
          refine lv_lload hx hb d_M_box_147 (lv_at hl 7 rfl) ?_
          obtain ⟨q43, e44, h⟩ := gb h
          obtain ⟨u41, e42⟩ := gsome h
          refine gw_callV e42 h (gw_runV (As := [.int v19, .int 4, .long p6]) (rest := []) hx hb hml hown hT hK hZ hA hI (ci := 7) rfl e44 (m_M_tell l hst D g0 a0 v19 4 p6 w u41 e42) ce_M_tell wd_902 wd_19 ⟨by decide, by decide⟩ rfl rfl hl.1 rfl (lv_room (Nat.le_of_ble_eq_true rfl)) d_M_box_149 ⟨(show 0 + 0 ≤ 0 by omega), (show 0 + 0 ≤ 0 by omega)⟩) hI hA hexc (show 0 + 0 ≤ 0 by omega) (show 0 + 0 ≤ 0 by omega) (fun v45 w H locs h hI => ?_)
          refine lv_aload_n hx hb d_M_box_152 rfl (lv_at hl 1 rfl) ?_
          refine lv_iload hx hb d_M_box_153 (lv_at hl 0 rfl) ?_
          refine lv_iconst (v := 5) hx hb d_M_box_155 (by decide) ?_
          refine lv_lload hx hb d_M_box_156 (lv_at hl 8 rfl) ?_
          obtain ⟨q48, e49, h⟩ := gb h
          obtain ⟨u46, e47⟩ := gsome h
          refine gw_callV e47 h (gw_runV (As := [.int v19, .int 5, .long p7]) (rest := []) hx hb hml hown hT hK hZ hA hI (ci := 7) rfl e49 (m_M_tell l hst D g0 a0 v19 5 p7 w u46 e47) ce_M_tell wd_902 wd_19 ⟨by decide, by decide⟩ rfl rfl hl.1 rfl (lv_room (Nat.le_of_ble_eq_true rfl)) d_M_box_158 ⟨(show 0 + 0 ≤ 0 by omega), (show 0 + 0 ≤ 0 by omega)⟩) hI hA hexc (show 0 + 0 ≤ 0 by omega) (show 0 + 0 ≤ 0 by omega) (fun v50 w H locs h hI => ?_)
          refine lv_iconst (v := 1) hx hb d_M_box_161 (by decide) ?_
          obtain ⟨g51, h⟩ := gif h
          exact W.widen (show 0 ≤ 0 by omega) (show 0 ≤ 0 by omega) (hret g51 0 _ (Option.some.inj h).symm _ _ _ _ d_M_box_162 hI)
        · skip
          have h := git c20 h
          refine lv_iconst (v := 0) hx hb d_M_box_106 (by decide) ?_
          obtain ⟨g52, h⟩ := gif h
          exact W.widen (show 0 ≤ 0 by omega) (show 0 ≤ 0 by omega) (hret g52 0 _ (Option.some.inj h).symm _ _ _ _ d_M_box_107 hI)
      · skip
        have h := gie c14 h
        refine lv_iconst (v := 0) hx hb d_M_box_90 (by decide) ?_
        obtain ⟨g53, h⟩ := gif h
        exact W.widen (show 0 ≤ 0 by omega) (show 0 ≤ 0 by omega) (hret g53 0 _ (Option.some.inj h).symm _ _ _ _ d_M_box_91 hI)
    refine lv_if_ne (tgt := 70) hx hb d_M_box_63 (by decide) (fun c54 => ?_) (fun c54 => ?_)
    · skip
      have h := gie c54 h
      refine lv_iload hx hb d_M_box_70 (lv_at hl 0 rfl) ?_
      refine lv_if_eq (tgt := 79) hx hb d_M_box_72 (by decide) (fun c55 => ?_) (fun c55 => ?_)
      · skip
        have h := git c55 h
        refine lv_iconst (v := 2) hx hb d_M_box_79 (by decide) ?_
        exact hK80 _ w H locs ls h hI (lv_sub hl [1, 2, 3, 4, 5, 6, 7, 8] rfl)
      · skip
        have h := gie c55 h
        refine lv_iconst (v := 0) hx hb d_M_box_75 (by decide) ?_
        refine lv_goto (tgt := 80) hx hb d_M_box_76 (by decide) ?_
        exact hK80 _ w H locs ls h hI (lv_sub hl [1, 2, 3, 4, 5, 6, 7, 8] rfl)
    · skip
      have h := git c54 h
      refine lv_iconst (v := 1) hx hb d_M_box_66 (by decide) ?_
      refine lv_goto (tgt := 80) hx hb d_M_box_67 (by decide) ?_
      exact hK80 _ w H locs ls h hI (lv_sub hl [1, 2, 3, 4, 5, 6, 7, 8] rfl)
  obtain ⟨K54, eK54, h⟩ := gj h
  have hK54 : ∀ (w : gW) (H : Heap) (locs : List Loc) (ls : Array Slot), K54 w = some r → gI D s A w H locs → lv_has ls 16 [(0, .ref a0), (1, .int p1), (2, .long p2), (4, .long p3), (6, .long p4), (8, .long p5), (10, .long p6), (12, .long p7)] → W p l e rm_M_box s m args below meth c H locs 0 0 Q (F0 m 54 ls []) := by
    intro w H locs ls h hI hl
    have h := gk1 eK54 h
    refine lv_iconst (v := 0) hx hb d_M_box_54 (by decide) ?_
    exact hK55 _ w H locs ls h hI (lv_sub hl [0, 1, 2, 3, 4, 5, 6, 7] rfl)
  refine lv_if_eq (tgt := 54) hx hb d_M_box_6 (by decide) (fun c56 => ?_) (fun c56 => ?_)
  · skip
    have h := git c56 h
    exact hK54 w H locs ls h hI (lv_sub hl [0, 1, 2, 3, 4, 5, 6, 7] rfl)
  · skip
    have h := gie c56 h
    refine lv_lload hx hb d_M_box_9 (lv_at hl 5 rfl) ?_
    obtain ⟨u57, e58⟩ := gsome h
    refine gw_callI e58 h (gw_runS (As := [.long p5]) (rest := []) hx hb hml hown hT hK hZ hA hI (m_M_isLong l hst D g0 p5 w u57 e58) ce_M_isLong wd_888 ⟨by decide, by decide⟩ rfl rfl hl.1 rfl (lv_room (Nat.le_of_ble_eq_true rfl)) d_M_box_11 ⟨(show 0 + 0 ≤ 0 by omega), (show 0 + 0 ≤ 0 by omega)⟩) hI hA hexc (show 0 + 0 ≤ 0 by omega) (show 0 + 0 ≤ 0 by omega) (fun v59 w H locs h hI => ?_)
    refine lv_if_eq (tgt := 54) hx hb d_M_box_14 (by decide) (fun c60 => ?_) (fun c60 => ?_)
    · skip
      have h := git c60 h
      exact hK54 w H locs ls h hI (lv_sub hl [0, 1, 2, 3, 4, 5, 6, 7] rfl)
    · skip
      have h := gie c60 h
      refine lv_lload hx hb d_M_box_17 (lv_at hl 6 rfl) ?_
      obtain ⟨u61, e62⟩ := gsome h
      refine gw_callI e62 h (gw_runS (As := [.long p6]) (rest := []) hx hb hml hown hT hK hZ hA hI (m_M_isLong l hst D g0 p6 w u61 e62) ce_M_isLong wd_888 ⟨by decide, by decide⟩ rfl rfl hl.1 rfl (lv_room (Nat.le_of_ble_eq_true rfl)) d_M_box_19 ⟨(show 0 + 0 ≤ 0 by omega), (show 0 + 0 ≤ 0 by omega)⟩) hI hA hexc (show 0 + 0 ≤ 0 by omega) (show 0 + 0 ≤ 0 by omega) (fun v63 w H locs h hI => ?_)
      refine lv_if_eq (tgt := 54) hx hb d_M_box_22 (by decide) (fun c64 => ?_) (fun c64 => ?_)
      · skip
        have h := git c64 h
        exact hK54 w H locs ls h hI (lv_sub hl [0, 1, 2, 3, 4, 5, 6, 7] rfl)
      · skip
        have h := gie c64 h
        refine lv_lload_n hx hb d_M_box_25 rfl (lv_at hl 2 rfl) ?_
        refine lv_lload hx hb d_M_box_26 (lv_at hl 5 rfl) ?_
        refine lv_ladd hx hb d_M_box_28 ?_
        refine lv_lload hx hb d_M_box_29 (lv_at hl 3 rfl) ?_
        refine lv_lload hx hb d_M_box_31 (lv_at hl 6 rfl) ?_
        refine lv_ladd hx hb d_M_box_33 ?_
        obtain ⟨u65, e66⟩ := gsome h
        refine gw_callI e66 h (gw_runS (As := [.long (p2 + p5), .long (p3 + p6)]) (rest := []) hx hb hml hown hT hK hZ hA hI (m_M_isPlace l hst D g0 (p2 + p5) (p3 + p6) w u65 e66) ce_M_isPlace wd_880 ⟨by decide, by decide⟩ rfl rfl hl.1 rfl (lv_room (Nat.le_of_ble_eq_true rfl)) d_M_box_34 ⟨(show 0 + 0 ≤ 0 by omega), (show 0 + 0 ≤ 0 by omega)⟩) hI hA hexc (show 0 + 0 ≤ 0 by omega) (show 0 + 0 ≤ 0 by omega) (fun v67 w H locs h hI => ?_)
        refine lv_if_eq (tgt := 54) hx hb d_M_box_37 (by decide) (fun c68 => ?_) (fun c68 => ?_)
        · skip
          have h := git c68 h
          exact hK54 w H locs ls h hI (lv_sub hl [0, 1, 2, 3, 4, 5, 6, 7] rfl)
        · skip
          have h := gie c68 h
          refine lv_lload hx hb d_M_box_40 (lv_at hl 4 rfl) ?_
          refine lv_lload hx hb d_M_box_42 (lv_at hl 7 rfl) ?_
          obtain ⟨u69, e70⟩ := gsome h
          refine gw_callI e70 h (gw_runS (As := [.long p4, .long p7]) (rest := []) hx hb hml hown hT hK hZ hA hI (m_M_isUpright l hst D g0 p4 p7 w u69 e70) ce_M_isUpright wd_891 ⟨by decide, by decide⟩ rfl rfl hl.1 rfl (lv_room (Nat.le_of_ble_eq_true rfl)) d_M_box_44 ⟨(show 0 + 0 ≤ 0 by omega), (show 0 + 0 ≤ 0 by omega)⟩) hI hA hexc (show 0 + 0 ≤ 0 by omega) (show 0 + 0 ≤ 0 by omega) (fun v71 w H locs h hI => ?_)
          refine lv_if_eq (tgt := 54) hx hb d_M_box_47 (by decide) (fun c72 => ?_) (fun c72 => ?_)
          · skip
            have h := git c72 h
            exact hK54 w H locs ls h hI (lv_sub hl [0, 1, 2, 3, 4, 5, 6, 7] rfl)
          · skip
            have h := gie c72 h
            refine lv_iconst (v := 1) hx hb d_M_box_50 (by decide) ?_
            refine lv_goto (tgt := 55) hx hb d_M_box_51 (by decide) ?_
            exact hK55 _ w H locs ls h hI (lv_sub hl [0, 1, 2, 3, 4, 5, 6, 7] rfl)
