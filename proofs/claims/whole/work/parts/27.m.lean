abbrev b_M_along : ByteArray := prog_9_method_36_code
def y_M_along : MethodName := ⟨"BodySolidsModel", "along", "(JJ)I"⟩
theorem d_M_along_0 : decode b_M_along 0 = .ok (.lload_n 1, 1) := by decide +kernel
theorem d_M_along_1 : decode b_M_along 1 = .ok (.aload_n 0, 1) := by decide +kernel
theorem d_M_along_2 : decode b_M_along 2 = .ok (.getfield 59, 3) := by decide +kernel
theorem d_M_along_5 : decode b_M_along 5 = .ok (.iconst 0, 1) := by decide +kernel
theorem d_M_along_6 : decode b_M_along 6 = .ok (.laload, 1) := by decide +kernel
theorem d_M_along_7 : decode b_M_along 7 = .ok (.lmul, 1) := by decide +kernel
theorem d_M_along_8 : decode b_M_along 8 = .ok (.lload_n 3, 1) := by decide +kernel
theorem d_M_along_9 : decode b_M_along 9 = .ok (.aload_n 0, 1) := by decide +kernel
theorem d_M_along_10 : decode b_M_along 10 = .ok (.getfield 62, 3) := by decide +kernel
theorem d_M_along_13 : decode b_M_along 13 = .ok (.iconst 0, 1) := by decide +kernel
theorem d_M_along_14 : decode b_M_along 14 = .ok (.laload, 1) := by decide +kernel
theorem d_M_along_15 : decode b_M_along 15 = .ok (.lmul, 1) := by decide +kernel
theorem d_M_along_16 : decode b_M_along 16 = .ok (.ladd, 1) := by decide +kernel
theorem d_M_along_17 : decode b_M_along 17 = .ok (.lstore 5, 2) := by decide +kernel
theorem d_M_along_19 : decode b_M_along 19 = .ok (.lload 5, 2) := by decide +kernel
theorem d_M_along_21 : decode b_M_along 21 = .ok (.lstore 7, 2) := by decide +kernel
theorem d_M_along_23 : decode b_M_along 23 = .ok (.iconst 1, 1) := by decide +kernel
theorem d_M_along_24 : decode b_M_along 24 = .ok (.istore 9, 2) := by decide +kernel
theorem d_M_along_26 : decode b_M_along 26 = .ok (.iload 9, 2) := by decide +kernel
theorem d_M_along_28 : decode b_M_along 28 = .ok (.aload_n 0, 1) := by decide +kernel
theorem d_M_along_29 : decode b_M_along 29 = .ok (.getfield 56, 3) := by decide +kernel
theorem d_M_along_32 : decode b_M_along 32 = .ok (.iconst 0, 1) := by decide +kernel
theorem d_M_along_33 : decode b_M_along 33 = .ok (.iaload, 1) := by decide +kernel
theorem d_M_along_34 : decode b_M_along 34 = .ok (.if_icmp .ge 64, 3) := by decide +kernel
theorem d_M_along_37 : decode b_M_along 37 = .ok (.lload_n 1, 1) := by decide +kernel
theorem d_M_along_38 : decode b_M_along 38 = .ok (.aload_n 0, 1) := by decide +kernel
theorem d_M_along_39 : decode b_M_along 39 = .ok (.getfield 59, 3) := by decide +kernel
theorem d_M_along_42 : decode b_M_along 42 = .ok (.iload 9, 2) := by decide +kernel
theorem d_M_along_44 : decode b_M_along 44 = .ok (.laload, 1) := by decide +kernel
theorem d_M_along_45 : decode b_M_along 45 = .ok (.lmul, 1) := by decide +kernel
theorem d_M_along_46 : decode b_M_along 46 = .ok (.lload_n 3, 1) := by decide +kernel
theorem d_M_along_47 : decode b_M_along 47 = .ok (.aload_n 0, 1) := by decide +kernel
theorem d_M_along_48 : decode b_M_along 48 = .ok (.getfield 62, 3) := by decide +kernel
theorem d_M_along_51 : decode b_M_along 51 = .ok (.iload 9, 2) := by decide +kernel
theorem d_M_along_53 : decode b_M_along 53 = .ok (.laload, 1) := by decide +kernel
theorem d_M_along_54 : decode b_M_along 54 = .ok (.lmul, 1) := by decide +kernel
theorem d_M_along_55 : decode b_M_along 55 = .ok (.ladd, 1) := by decide +kernel
theorem d_M_along_56 : decode b_M_along 56 = .ok (.lstore 10, 2) := by decide +kernel
theorem d_M_along_58 : decode b_M_along 58 = .ok (.lload 10, 2) := by decide +kernel
theorem d_M_along_60 : decode b_M_along 60 = .ok (.lload 5, 2) := by decide +kernel
theorem d_M_along_62 : decode b_M_along 62 = .ok (.lcmp, 1) := by decide +kernel
theorem d_M_along_63 : decode b_M_along 63 = .ok (.ifCond .ge 8, 3) := by decide +kernel
theorem d_M_along_66 : decode b_M_along 66 = .ok (.lload 10, 2) := by decide +kernel
theorem d_M_along_68 : decode b_M_along 68 = .ok (.goto 5, 3) := by decide +kernel
theorem d_M_along_71 : decode b_M_along 71 = .ok (.lload 5, 2) := by decide +kernel
theorem d_M_along_73 : decode b_M_along 73 = .ok (.lstore 5, 2) := by decide +kernel
theorem d_M_along_75 : decode b_M_along 75 = .ok (.lload 10, 2) := by decide +kernel
theorem d_M_along_77 : decode b_M_along 77 = .ok (.lload 7, 2) := by decide +kernel
theorem d_M_along_79 : decode b_M_along 79 = .ok (.lcmp, 1) := by decide +kernel
theorem d_M_along_80 : decode b_M_along 80 = .ok (.ifCond .le 8, 3) := by decide +kernel
theorem d_M_along_83 : decode b_M_along 83 = .ok (.lload 10, 2) := by decide +kernel
theorem d_M_along_85 : decode b_M_along 85 = .ok (.goto 5, 3) := by decide +kernel
theorem d_M_along_88 : decode b_M_along 88 = .ok (.lload 7, 2) := by decide +kernel
theorem d_M_along_90 : decode b_M_along 90 = .ok (.lstore 7, 2) := by decide +kernel
theorem d_M_along_92 : decode b_M_along 92 = .ok (.iinc 9 1, 3) := by decide +kernel
theorem d_M_along_95 : decode b_M_along 95 = .ok (.goto (-69), 3) := by decide +kernel
theorem d_M_along_98 : decode b_M_along 98 = .ok (.lload_n 1, 1) := by decide +kernel
theorem d_M_along_99 : decode b_M_along 99 = .ok (.aload_n 0, 1) := by decide +kernel
theorem d_M_along_100 : decode b_M_along 100 = .ok (.getfield 59, 3) := by decide +kernel
theorem d_M_along_103 : decode b_M_along 103 = .ok (.bipush 8, 2) := by decide +kernel
theorem d_M_along_105 : decode b_M_along 105 = .ok (.laload, 1) := by decide +kernel
theorem d_M_along_106 : decode b_M_along 106 = .ok (.lmul, 1) := by decide +kernel
theorem d_M_along_107 : decode b_M_along 107 = .ok (.lload_n 3, 1) := by decide +kernel
theorem d_M_along_108 : decode b_M_along 108 = .ok (.aload_n 0, 1) := by decide +kernel
theorem d_M_along_109 : decode b_M_along 109 = .ok (.getfield 62, 3) := by decide +kernel
theorem d_M_along_112 : decode b_M_along 112 = .ok (.bipush 8, 2) := by decide +kernel
theorem d_M_along_114 : decode b_M_along 114 = .ok (.laload, 1) := by decide +kernel
theorem d_M_along_115 : decode b_M_along 115 = .ok (.lmul, 1) := by decide +kernel
theorem d_M_along_116 : decode b_M_along 116 = .ok (.ladd, 1) := by decide +kernel
theorem d_M_along_117 : decode b_M_along 117 = .ok (.lstore 9, 2) := by decide +kernel
theorem d_M_along_119 : decode b_M_along 119 = .ok (.lload 9, 2) := by decide +kernel
theorem d_M_along_121 : decode b_M_along 121 = .ok (.lstore 11, 2) := by decide +kernel
theorem d_M_along_123 : decode b_M_along 123 = .ok (.bipush 9, 2) := by decide +kernel
theorem d_M_along_125 : decode b_M_along 125 = .ok (.istore 13, 2) := by decide +kernel
theorem d_M_along_127 : decode b_M_along 127 = .ok (.iload 13, 2) := by decide +kernel
theorem d_M_along_129 : decode b_M_along 129 = .ok (.bipush 8, 2) := by decide +kernel
theorem d_M_along_131 : decode b_M_along 131 = .ok (.aload_n 0, 1) := by decide +kernel
theorem d_M_along_132 : decode b_M_along 132 = .ok (.getfield 56, 3) := by decide +kernel
theorem d_M_along_135 : decode b_M_along 135 = .ok (.iconst 1, 1) := by decide +kernel
theorem d_M_along_136 : decode b_M_along 136 = .ok (.iaload, 1) := by decide +kernel
theorem d_M_along_137 : decode b_M_along 137 = .ok (.iadd, 1) := by decide +kernel
theorem d_M_along_138 : decode b_M_along 138 = .ok (.if_icmp .ge 64, 3) := by decide +kernel
theorem d_M_along_141 : decode b_M_along 141 = .ok (.lload_n 1, 1) := by decide +kernel
theorem d_M_along_142 : decode b_M_along 142 = .ok (.aload_n 0, 1) := by decide +kernel
theorem d_M_along_143 : decode b_M_along 143 = .ok (.getfield 59, 3) := by decide +kernel
theorem d_M_along_146 : decode b_M_along 146 = .ok (.iload 13, 2) := by decide +kernel
theorem d_M_along_148 : decode b_M_along 148 = .ok (.laload, 1) := by decide +kernel
theorem d_M_along_149 : decode b_M_along 149 = .ok (.lmul, 1) := by decide +kernel
theorem d_M_along_150 : decode b_M_along 150 = .ok (.lload_n 3, 1) := by decide +kernel
theorem d_M_along_151 : decode b_M_along 151 = .ok (.aload_n 0, 1) := by decide +kernel
theorem d_M_along_152 : decode b_M_along 152 = .ok (.getfield 62, 3) := by decide +kernel
theorem d_M_along_155 : decode b_M_along 155 = .ok (.iload 13, 2) := by decide +kernel
theorem d_M_along_157 : decode b_M_along 157 = .ok (.laload, 1) := by decide +kernel
theorem d_M_along_158 : decode b_M_along 158 = .ok (.lmul, 1) := by decide +kernel
theorem d_M_along_159 : decode b_M_along 159 = .ok (.ladd, 1) := by decide +kernel
theorem d_M_along_160 : decode b_M_along 160 = .ok (.lstore 14, 2) := by decide +kernel
theorem d_M_along_162 : decode b_M_along 162 = .ok (.lload 14, 2) := by decide +kernel
theorem d_M_along_164 : decode b_M_along 164 = .ok (.lload 9, 2) := by decide +kernel
theorem d_M_along_166 : decode b_M_along 166 = .ok (.lcmp, 1) := by decide +kernel
theorem d_M_along_167 : decode b_M_along 167 = .ok (.ifCond .ge 8, 3) := by decide +kernel
theorem d_M_along_170 : decode b_M_along 170 = .ok (.lload 14, 2) := by decide +kernel
theorem d_M_along_172 : decode b_M_along 172 = .ok (.goto 5, 3) := by decide +kernel
theorem d_M_along_175 : decode b_M_along 175 = .ok (.lload 9, 2) := by decide +kernel
theorem d_M_along_177 : decode b_M_along 177 = .ok (.lstore 9, 2) := by decide +kernel
theorem d_M_along_179 : decode b_M_along 179 = .ok (.lload 14, 2) := by decide +kernel
theorem d_M_along_181 : decode b_M_along 181 = .ok (.lload 11, 2) := by decide +kernel
theorem d_M_along_183 : decode b_M_along 183 = .ok (.lcmp, 1) := by decide +kernel
theorem d_M_along_184 : decode b_M_along 184 = .ok (.ifCond .le 8, 3) := by decide +kernel
theorem d_M_along_187 : decode b_M_along 187 = .ok (.lload 14, 2) := by decide +kernel
theorem d_M_along_189 : decode b_M_along 189 = .ok (.goto 5, 3) := by decide +kernel
theorem d_M_along_192 : decode b_M_along 192 = .ok (.lload 11, 2) := by decide +kernel
theorem d_M_along_194 : decode b_M_along 194 = .ok (.lstore 11, 2) := by decide +kernel
theorem d_M_along_196 : decode b_M_along 196 = .ok (.iinc 13 1, 3) := by decide +kernel
theorem d_M_along_199 : decode b_M_along 199 = .ok (.goto (-72), 3) := by decide +kernel
theorem d_M_along_202 : decode b_M_along 202 = .ok (.lload 5, 2) := by decide +kernel
theorem d_M_along_204 : decode b_M_along 204 = .ok (.lload 11, 2) := by decide +kernel
theorem d_M_along_206 : decode b_M_along 206 = .ok (.lsub, 1) := by decide +kernel
theorem d_M_along_207 : decode b_M_along 207 = .ok (.invokestatic 186, 3) := by decide +kernel
theorem d_M_along_210 : decode b_M_along 210 = .ok (.istore 13, 2) := by decide +kernel
theorem d_M_along_212 : decode b_M_along 212 = .ok (.lload 9, 2) := by decide +kernel
theorem d_M_along_214 : decode b_M_along 214 = .ok (.lload 7, 2) := by decide +kernel
theorem d_M_along_216 : decode b_M_along 216 = .ok (.lsub, 1) := by decide +kernel
theorem d_M_along_217 : decode b_M_along 217 = .ok (.invokestatic 186, 3) := by decide +kernel
theorem d_M_along_220 : decode b_M_along 220 = .ok (.istore 14, 2) := by decide +kernel
theorem d_M_along_222 : decode b_M_along 222 = .ok (.iload 13, 2) := by decide +kernel
theorem d_M_along_224 : decode b_M_along 224 = .ok (.iload 14, 2) := by decide +kernel
theorem d_M_along_226 : decode b_M_along 226 = .ok (.if_icmp .ge 8, 3) := by decide +kernel
theorem d_M_along_229 : decode b_M_along 229 = .ok (.iload 13, 2) := by decide +kernel
theorem d_M_along_231 : decode b_M_along 231 = .ok (.goto 5, 3) := by decide +kernel
theorem d_M_along_234 : decode b_M_along 234 = .ok (.iload 14, 2) := by decide +kernel
theorem d_M_along_236 : decode b_M_along 236 = .ok (.ireturn, 1) := by decide +kernel
abbrev rm_M_along : Room := { frames := 1, cells := 0, slots := 0, locals := 21 }
theorem ce_M_along : gCe y_M_along (.code y_M_along b_M_along 16 (some .int)) 16 2 false := gCe.code wd_1066 wd_57 wd_1065 (by decide) (by decide +kernel)
def f_M_along_L127 (g0 : gG) (c0 : Nat) (c1 : Int64) (c3 : Int64) (c5 : Int64) (c7 : Int64) (K202 : Int64 → Int64 → gW → gX Int32) : Nat → Int64 → Int64 → Int32 → gW → gX Int32
  | 0, _, _, _, _ => none
  | n + 1, z9, z11, z13, w => (gfA w c0 7 21).bind fun v29 => (gaI w v29 1).bind fun v31 => if (8 + v31) ≤ z13 then (K202 z9 z11 w) else ((gfA w c0 7 22).bind fun v34 => (gaJ w v34 z13).bind fun v36 => (gfA w c0 7 23).bind fun v38 => (gaJ w v38 z13).bind fun v40 => gjoin (fun K177 => if z9 ≤ ((c1 * v36) + (c3 * v40)) then (K177 z9 w) else (K177 ((c1 * v36) + (c3 * v40)) w)) (fun (y42 : Int64) (w : gW) => gjoin (fun K194 => if ((c1 * v36) + (c3 * v40)) ≤ z11 then (K194 z11 w) else (K194 ((c1 * v36) + (c3 * v40)) w)) (fun (y43 : Int64) (w : gW) => f_M_along_L127 g0 c0 c1 c3 c5 c7 K202 n y42 y43 (z13 + 1) w)))
def f_M_along_L26 (g0 : gG) (c0 : Nat) (c1 : Int64) (c3 : Int64) (K98 : Int64 → Int64 → gW → gX Int32) : Nat → Int64 → Int64 → Int32 → gW → gX Int32
  | 0, _, _, _, _ => none
  | n + 1, z5, z7, z9, w => (gfA w c0 7 21).bind fun v49 => (gaI w v49 0).bind fun v51 => if v51 ≤ z9 then (K98 z5 z7 w) else ((gfA w c0 7 22).bind fun v54 => (gaJ w v54 z9).bind fun v56 => (gfA w c0 7 23).bind fun v58 => (gaJ w v58 z9).bind fun v60 => gjoin (fun K73 => if z5 ≤ ((c1 * v56) + (c3 * v60)) then (K73 z5 w) else (K73 ((c1 * v56) + (c3 * v60)) w)) (fun (y62 : Int64) (w : gW) => gjoin (fun K90 => if ((c1 * v56) + (c3 * v60)) ≤ z7 then (K90 z7 w) else (K90 ((c1 * v56) + (c3 * v60)) w)) (fun (y63 : Int64) (w : gW) => f_M_along_L26 g0 c0 c1 c3 K98 n y62 y63 (z9 + 1) w)))
def f_M_along (g0 : gG) (a0 : Nat) (p1 : Int64) (p2 : Int64) (w : gW) : gX Int32 := (gfA w a0 7 22).bind fun v1 => (gaJ w v1 0).bind fun v3 => (gfA w a0 7 23).bind fun v5 => (gaJ w v5 0).bind fun v7 => gjoin (fun K98 => f_M_along_L26 g0 a0 p1 p2 K98 64 ((p1 * v3) + (p2 * v7)) ((p1 * v3) + (p2 * v7)) 1 w) (fun (x9 : Int64) (x10 : Int64) (w : gW) => (gfA w a0 7 22).bind fun v11 => (gaJ w v11 8).bind fun v13 => (gfA w a0 7 23).bind fun v15 => (gaJ w v15 8).bind fun v17 => gjoin (fun K202 => f_M_along_L127 g0 a0 p1 p2 x9 x10 K202 64 ((p1 * v13) + (p2 * v17)) ((p1 * v13) + (p2 * v17)) 9 w) (fun (x19 : Int64) (x20 : Int64) (w : gW) => gbind (f_M_common g0 (x9 - x20) w) fun v23 w => gbind (f_M_common g0 (x19 - x10) w) fun v26 w => gjoin (fun K236 => if v26 ≤ v23 then (K236 v26 w) else (K236 v23 w)) (fun (y27 : Int32) (w : gW) => some (.inr y27, w))))
set_option maxHeartbeats 4000000 in
set_option maxRecDepth 100000 in
theorem m_M_along (l : Launch) (hst : l.stackTraces = false) (D : gD) (g0 : gG) (a0 : Nat) (p1 : Int64) (p2 : Int64) (w : gW) (r : (String ⊕ Int32) × gW) (h : f_M_along g0 a0 p1 p2 w = some r) : gMet l y_M_along (.code y_M_along b_M_along 16 (some .int)) rm_M_along D g0 [.ref a0, .long p1, .long p2] w (goI r) := by
  refine gw_ofI (by decide +kernel) (Nat.le_of_ble_eq_true rfl) ?_
  intro p e s m below meth c ls args A Q hx hb hml hown hlocks hin hnt hT hK hZ hA hret hexc hthr hI hl
  obtain ⟨H, hH⟩ : ∃ H, H = s.heap := ⟨_, rfl⟩
  rw [← hH] at hI ⊢
  obtain ⟨locs, hlocs⟩ : ∃ z : List Loc, z = [] := ⟨_, rfl⟩
  rw [← hlocs] at hI ⊢
  have hl : lv_has ls 16 [(0, .ref a0), (1, .long p1), (3, .long p2)] := hl
  unfold f_M_along at h
  refine lv_lload_n hx hb d_M_along_0 rfl (lv_at hl 1 rfl) ?_
  refine lv_aload_n hx hb d_M_along_1 rfl (lv_at hl 0 rfl) ?_
  obtain ⟨v1, e2, h⟩ := gb h
  refine gw_getA hx hb hT hown hK hI (ci := 7) rfl i_7 22 (by decide) wd_808 (fun _ h9 => h9) e2 d_M_along_2 ?_
  refine lv_iconst (v := 0) hx hb d_M_along_5 (by decide) ?_
  obtain ⟨v3, e4, h⟩ := gb h
  refine gw_aldJ hx hb hK hI e4 d_M_along_6 ?_
  refine lv_lmul hx hb d_M_along_7 ?_
  refine lv_lload_n hx hb d_M_along_8 rfl (lv_at hl 2 rfl) ?_
  refine lv_aload_n hx hb d_M_along_9 rfl (lv_at hl 0 rfl) ?_
  obtain ⟨v5, e6, h⟩ := gb h
  refine gw_getA hx hb hT hown hK hI (ci := 7) rfl i_7 23 (by decide) wd_809 (fun _ h9 => h9) e6 d_M_along_10 ?_
  refine lv_iconst (v := 0) hx hb d_M_along_13 (by decide) ?_
  obtain ⟨v7, e8, h⟩ := gb h
  refine gw_aldJ hx hb hK hI e8 d_M_along_14 ?_
  refine lv_lmul hx hb d_M_along_15 ?_
  refine lv_ladd hx hb d_M_along_16 ?_
  refine lv_lstore (lv' := [(5, .long ((p1 * v3) + (p2 * v7))), (0, .ref a0), (1, .long p1), (3, .long p2)]) hx hb d_M_along_17 hl (by decide) rfl (fun ls hl => ?_)
  refine lv_lload hx hb d_M_along_19 (lv_at hl 0 rfl) ?_
  refine lv_lstore (lv' := [(7, .long ((p1 * v3) + (p2 * v7))), (5, .long ((p1 * v3) + (p2 * v7))), (0, .ref a0), (1, .long p1), (3, .long p2)]) hx hb d_M_along_21 hl (by decide) rfl (fun ls hl => ?_)
  refine lv_iconst (v := 1) hx hb d_M_along_23 (by decide) ?_
  refine lv_istore (lv' := [(9, .int 1), (7, .long ((p1 * v3) + (p2 * v7))), (5, .long ((p1 * v3) + (p2 * v7))), (0, .ref a0), (1, .long p1), (3, .long p2)]) hx hb d_M_along_24 hl (by decide) rfl (fun ls hl => ?_)
  obtain ⟨K98, eK98, h⟩ := gj h
  have hK98 : ∀ (x9 : Int64) (x10 : Int64) (w : gW) (H : Heap) (locs : List Loc) (ls : Array Slot), K98 x9 x10 w = some r → gI D s A w H locs → lv_has ls 16 [(0, .ref a0), (1, .long p1), (3, .long p2), (5, .long x9), (7, .long x10)] → W p l e rm_M_along s m args below meth c H locs 0 0 Q (F0 m 98 ls []) := by
    intro x9 x10 w H locs ls h hI hl
    have h := gk3 eK98 h
    refine lv_lload_n hx hb d_M_along_98 rfl (lv_at hl 1 rfl) ?_
    refine lv_aload_n hx hb d_M_along_99 rfl (lv_at hl 0 rfl) ?_
    obtain ⟨v11, e12, h⟩ := gb h
    refine gw_getA hx hb hT hown hK hI (ci := 7) rfl i_7 22 (by decide) wd_808 (fun _ h9 => h9) e12 d_M_along_100 ?_
    refine lv_bipush (v := 8) hx hb d_M_along_103 (by decide) ?_
    obtain ⟨v13, e14, h⟩ := gb h
    refine gw_aldJ hx hb hK hI e14 d_M_along_105 ?_
    refine lv_lmul hx hb d_M_along_106 ?_
    refine lv_lload_n hx hb d_M_along_107 rfl (lv_at hl 2 rfl) ?_
    refine lv_aload_n hx hb d_M_along_108 rfl (lv_at hl 0 rfl) ?_
    obtain ⟨v15, e16, h⟩ := gb h
    refine gw_getA hx hb hT hown hK hI (ci := 7) rfl i_7 23 (by decide) wd_809 (fun _ h9 => h9) e16 d_M_along_109 ?_
    refine lv_bipush (v := 8) hx hb d_M_along_112 (by decide) ?_
    obtain ⟨v17, e18, h⟩ := gb h
    refine gw_aldJ hx hb hK hI e18 d_M_along_114 ?_
    refine lv_lmul hx hb d_M_along_115 ?_
    refine lv_ladd hx hb d_M_along_116 ?_
    refine lv_lstore (lv' := [(9, .long ((p1 * v13) + (p2 * v17))), (0, .ref a0), (1, .long p1), (3, .long p2), (5, .long x9), (7, .long x10)]) hx hb d_M_along_117 hl (by decide) rfl (fun ls hl => ?_)
    refine lv_lload hx hb d_M_along_119 (lv_at hl 0 rfl) ?_
    refine lv_lstore (lv' := [(11, .long ((p1 * v13) + (p2 * v17))), (9, .long ((p1 * v13) + (p2 * v17))), (0, .ref a0), (1, .long p1), (3, .long p2), (5, .long x9), (7, .long x10)]) hx hb d_M_along_121 hl (by decide) rfl (fun ls hl => ?_)
    refine lv_bipush (v := 9) hx hb d_M_along_123 (by decide) ?_
    refine lv_istore (lv' := [(13, .int 9), (11, .long ((p1 * v13) + (p2 * v17))), (9, .long ((p1 * v13) + (p2 * v17))), (0, .ref a0), (1, .long p1), (3, .long p2), (5, .long x9), (7, .long x10)]) hx hb d_M_along_125 hl (by decide) rfl (fun ls hl => ?_)
    obtain ⟨K202, eK202, h⟩ := gj h
    have hK202 : ∀ (x19 : Int64) (x20 : Int64) (w : gW) (H : Heap) (locs : List Loc) (ls : Array Slot), K202 x19 x20 w = some r → gI D s A w H locs → lv_has ls 16 [(5, .long x9), (7, .long x10), (9, .long x19), (11, .long x20)] → W p l e rm_M_along s m args below meth c H locs 0 0 Q (F0 m 202 ls []) := by
      intro x19 x20 w H locs ls h hI hl
      have h := gk3 eK202 h
      refine lv_lload hx hb d_M_along_202 (lv_at hl 0 rfl) ?_
      refine lv_lload hx hb d_M_along_204 (lv_at hl 3 rfl) ?_
      refine lv_lsub hx hb d_M_along_206 ?_
      obtain ⟨u21, e22⟩ := gsome h
      refine gw_callI e22 h (gw_runS (As := [.long (x9 - x20)]) (rest := []) hx hb hml hown hT hK hZ hA hI (m_M_common l hst D g0 (x9 - x20) w u21 e22) ce_M_common wd_1028 ⟨by decide, by decide⟩ rfl rfl hl.1 rfl (lv_room (Nat.le_of_ble_eq_true rfl)) d_M_along_207 ⟨(show 0 + 0 ≤ 0 by omega), (show 0 + 0 ≤ 0 by omega)⟩) hI hA hexc (show 0 + 0 ≤ 0 by omega) (show 0 + 0 ≤ 0 by omega) (fun v23 w H locs h hI => ?_)
      refine lv_istore (lv' := [(13, .int v23), (5, .long x9), (7, .long x10), (9, .long x19), (11, .long x20)]) hx hb d_M_along_210 hl (by decide) rfl (fun ls hl => ?_)
      refine lv_lload hx hb d_M_along_212 (lv_at hl 3 rfl) ?_
      refine lv_lload hx hb d_M_along_214 (lv_at hl 2 rfl) ?_
      refine lv_lsub hx hb d_M_along_216 ?_
      obtain ⟨u24, e25⟩ := gsome h
      refine gw_callI e25 h (gw_runS (As := [.long (x19 - x10)]) (rest := []) hx hb hml hown hT hK hZ hA hI (m_M_common l hst D g0 (x19 - x10) w u24 e25) ce_M_common wd_1028 ⟨by decide, by decide⟩ rfl rfl hl.1 rfl (lv_room (Nat.le_of_ble_eq_true rfl)) d_M_along_217 ⟨(show 0 + 0 ≤ 0 by omega), (show 0 + 0 ≤ 0 by omega)⟩) hI hA hexc (show 0 + 0 ≤ 0 by omega) (show 0 + 0 ≤ 0 by omega) (fun v26 w H locs h hI => ?_)
      refine lv_istore (lv' := [(14, .int v26), (13, .int v23), (5, .long x9), (7, .long x10), (9, .long x19), (11, .long x20)]) hx hb d_M_along_220 hl (by decide) rfl (fun ls hl => ?_)
      refine lv_iload hx hb d_M_along_222 (lv_at hl 1 rfl) ?_
      refine lv_iload hx hb d_M_along_224 (lv_at hl 0 rfl) ?_
      obtain ⟨K236, eK236, h⟩ := gj h
      have hK236 : ∀ (y27 : Int32) (w : gW) (H : Heap) (locs : List Loc) (ls : Array Slot), K236 y27 w = some r → gI D s A w H locs → lv_has ls 16 [] → W p l e rm_M_along s m args below meth c H locs 0 0 Q (F0 m 236 ls [.int y27]) := by
        intro y27 w H locs ls h hI hl
        have h := gk2 eK236 h
        exact W.widen (show 0 ≤ 0 by omega) (show 0 ≤ 0 by omega) (hret _ _ (Option.some.inj h).symm _ _ _ _ d_M_along_236 hI)
      refine lv_icmp_ge (tgt := 234) hx hb d_M_along_226 (by decide) (fun c28 => ?_) (fun c28 => ?_)
      · skip
        have h := git c28 h
        refine lv_iload hx hb d_M_along_234 (lv_at hl 0 rfl) ?_
        exact hK236 _ w H locs ls h hI (lv_sub hl [] rfl)
      · skip
        have h := gie c28 h
        refine lv_iload hx hb d_M_along_229 (lv_at hl 1 rfl) ?_
        refine lv_goto (tgt := 236) hx hb d_M_along_231 (by decide) ?_
        exact hK236 _ w H locs ls h hI (lv_sub hl [] rfl)
    have hL127 : ∀ (n : Nat), ∀ (z29 : Int64) (z30 : Int64) (z31 : Int32) (w : gW) (H : Heap) (locs : List Loc) (ls : Array Slot), f_M_along_L127 g0 a0 p1 p2 x9 x10 K202 n z29 z30 z31 w = some r → gI D s A w H locs → lv_has ls 16 [(0, .ref a0), (1, .long p1), (3, .long p2), (5, .long x9), (7, .long x10), (9, .long z29), (11, .long z30), (13, .int z31)] → W p l e rm_M_along s m args below meth c H locs 0 0 Q (F0 m 127 ls []) := by
      intro n
      induction n with
      | zero => intro z29 z30 z31 w H locs ls h hI hl; exact absurd h (by simp [f_M_along_L127])
      | succ n ih =>
        intro z29 z30 z31 w H locs ls h hI hl
        rw [f_M_along_L127] at h
        refine lv_iload hx hb d_M_along_127 (lv_at hl 7 rfl) ?_
        refine lv_bipush (v := 8) hx hb d_M_along_129 (by decide) ?_
        refine lv_aload_n hx hb d_M_along_131 rfl (lv_at hl 0 rfl) ?_
        obtain ⟨v32, e33, h⟩ := gb h
        refine gw_getA hx hb hT hown hK hI (ci := 7) rfl i_7 21 (by decide) wd_807 (fun _ h9 => h9) e33 d_M_along_132 ?_
        refine lv_iconst (v := 1) hx hb d_M_along_135 (by decide) ?_
        obtain ⟨v34, e35, h⟩ := gb h
        refine gw_aldI hx hb hK hI e35 d_M_along_136 ?_
        refine lv_iadd hx hb d_M_along_137 ?_
        refine lv_icmp_ge (tgt := 202) hx hb d_M_along_138 (by decide) (fun c36 => ?_) (fun c36 => ?_)
        · skip
          have h := git c36 h
          exact hK202 _ _ w H locs ls h hI (lv_sub hl [3, 4, 5, 6] rfl)
        · skip
          have h := gie c36 h
          refine lv_lload_n hx hb d_M_along_141 rfl (lv_at hl 1 rfl) ?_
          refine lv_aload_n hx hb d_M_along_142 rfl (lv_at hl 0 rfl) ?_
          obtain ⟨v37, e38, h⟩ := gb h
          refine gw_getA hx hb hT hown hK hI (ci := 7) rfl i_7 22 (by decide) wd_808 (fun _ h9 => h9) e38 d_M_along_143 ?_
          refine lv_iload hx hb d_M_along_146 (lv_at hl 7 rfl) ?_
          obtain ⟨v39, e40, h⟩ := gb h
          refine gw_aldJ hx hb hK hI e40 d_M_along_148 ?_
          refine lv_lmul hx hb d_M_along_149 ?_
          refine lv_lload_n hx hb d_M_along_150 rfl (lv_at hl 2 rfl) ?_
          refine lv_aload_n hx hb d_M_along_151 rfl (lv_at hl 0 rfl) ?_
          obtain ⟨v41, e42, h⟩ := gb h
          refine gw_getA hx hb hT hown hK hI (ci := 7) rfl i_7 23 (by decide) wd_809 (fun _ h9 => h9) e42 d_M_along_152 ?_
          refine lv_iload hx hb d_M_along_155 (lv_at hl 7 rfl) ?_
          obtain ⟨v43, e44, h⟩ := gb h
          refine gw_aldJ hx hb hK hI e44 d_M_along_157 ?_
          refine lv_lmul hx hb d_M_along_158 ?_
          refine lv_ladd hx hb d_M_along_159 ?_
          refine lv_lstore (lv' := [(14, .long ((p1 * v39) + (p2 * v43))), (0, .ref a0), (1, .long p1), (3, .long p2), (5, .long x9), (7, .long x10), (9, .long z29), (11, .long z30), (13, .int z31)]) hx hb d_M_along_160 hl (by decide) rfl (fun ls hl => ?_)
          refine lv_lload hx hb d_M_along_162 (lv_at hl 0 rfl) ?_
          refine lv_lload hx hb d_M_along_164 (lv_at hl 6 rfl) ?_
          refine W.lcmp hx hb d_M_along_166 ?_
          obtain ⟨K177, eK177, h⟩ := gj h
          have hK177 : ∀ (y45 : Int64) (w : gW) (H : Heap) (locs : List Loc) (ls : Array Slot), K177 y45 w = some r → gI D s A w H locs → lv_has ls 16 [(0, .ref a0), (1, .long p1), (3, .long p2), (5, .long x9), (7, .long x10), (11, .long z30), (13, .int z31), (14, .long ((p1 * v39) + (p2 * v43)))] → W p l e rm_M_along s m args below meth c H locs 0 0 Q (F0 m 177 ls [.long y45]) := by
            intro y45 w H locs ls h hI hl
            have h := gk2 eK177 h
            refine lv_lstore (lv' := [(9, .long y45), (0, .ref a0), (1, .long p1), (3, .long p2), (5, .long x9), (7, .long x10), (11, .long z30), (13, .int z31), (14, .long ((p1 * v39) + (p2 * v43)))]) hx hb d_M_along_177 hl (by decide) rfl (fun ls hl => ?_)
            refine lv_lload hx hb d_M_along_179 (lv_at hl 8 rfl) ?_
            refine lv_lload hx hb d_M_along_181 (lv_at hl 6 rfl) ?_
            refine W.lcmp hx hb d_M_along_183 ?_
            obtain ⟨K194, eK194, h⟩ := gj h
            have hK194 : ∀ (y46 : Int64) (w : gW) (H : Heap) (locs : List Loc) (ls : Array Slot), K194 y46 w = some r → gI D s A w H locs → lv_has ls 16 [(0, .ref a0), (1, .long p1), (3, .long p2), (5, .long x9), (7, .long x10), (9, .long y45), (13, .int z31)] → W p l e rm_M_along s m args below meth c H locs 0 0 Q (F0 m 194 ls [.long y46]) := by
              intro y46 w H locs ls h hI hl
              have h := gk2 eK194 h
              refine lv_lstore (lv' := [(11, .long y46), (0, .ref a0), (1, .long p1), (3, .long p2), (5, .long x9), (7, .long x10), (9, .long y45), (13, .int z31)]) hx hb d_M_along_194 hl (by decide) rfl (fun ls hl => ?_)
              refine lv_iinc (v := z31 + 1) (lv' := [(13, .int (z31 + 1)), (11, .long y46), (0, .ref a0), (1, .long p1), (3, .long p2), (5, .long x9), (7, .long x10), (9, .long y45)]) hx hb d_M_along_196 hl (k := 7) rfl rfl (by decide) rfl (fun ls hl => ?_)
              refine lv_goto (tgt := 127) hx hb d_M_along_199 (by decide) ?_
              exact ih _ _ _ w H locs ls h hI (lv_sub hl [2, 3, 4, 5, 6, 7, 1, 0] rfl)
            refine lv_if_le (tgt := 192) hx hb d_M_along_184 (by decide) (fun c47 => ?_) (fun c47 => ?_)
            · have c47 := (lg_cmp_le _ _).mp c47
              have h := git c47 h
              refine lv_lload hx hb d_M_along_192 (lv_at hl 6 rfl) ?_
              exact hK194 _ w H locs ls h hI (lv_sub hl [1, 2, 3, 4, 5, 0, 7] rfl)
            · have c47 := mt (lg_cmp_le _ _).mpr c47
              have h := gie c47 h
              refine lv_lload hx hb d_M_along_187 (lv_at hl 8 rfl) ?_
              refine lv_goto (tgt := 194) hx hb d_M_along_189 (by decide) ?_
              exact hK194 _ w H locs ls h hI (lv_sub hl [1, 2, 3, 4, 5, 0, 7] rfl)
          refine lv_if_ge (tgt := 175) hx hb d_M_along_167 (by decide) (fun c48 => ?_) (fun c48 => ?_)
          · have c48 := (lg_cmp_ge _ _).mp c48
            have h := git c48 h
            refine lv_lload hx hb d_M_along_175 (lv_at hl 6 rfl) ?_
            exact hK177 _ w H locs ls h hI (lv_sub hl [1, 2, 3, 4, 5, 7, 8, 0] rfl)
          · have c48 := mt (lg_cmp_ge _ _).mpr c48
            have h := gie c48 h
            refine lv_lload hx hb d_M_along_170 (lv_at hl 0 rfl) ?_
            refine lv_goto (tgt := 177) hx hb d_M_along_172 (by decide) ?_
            exact hK177 _ w H locs ls h hI (lv_sub hl [1, 2, 3, 4, 5, 7, 8, 0] rfl)
    exact hL127 64 _ _ _ w H locs ls h hI (lv_sub hl [3, 4, 5, 6, 7, 2, 1, 0] rfl)
  have hL26 : ∀ (n : Nat), ∀ (z49 : Int64) (z50 : Int64) (z51 : Int32) (w : gW) (H : Heap) (locs : List Loc) (ls : Array Slot), f_M_along_L26 g0 a0 p1 p2 K98 n z49 z50 z51 w = some r → gI D s A w H locs → lv_has ls 16 [(0, .ref a0), (1, .long p1), (3, .long p2), (5, .long z49), (7, .long z50), (9, .int z51)] → W p l e rm_M_along s m args below meth c H locs 0 0 Q (F0 m 26 ls []) := by
    intro n
    induction n with
    | zero => intro z49 z50 z51 w H locs ls h hI hl; exact absurd h (by simp [f_M_along_L26])
    | succ n ih =>
      intro z49 z50 z51 w H locs ls h hI hl
      rw [f_M_along_L26] at h
      refine lv_iload hx hb d_M_along_26 (lv_at hl 5 rfl) ?_
      refine lv_aload_n hx hb d_M_along_28 rfl (lv_at hl 0 rfl) ?_
      obtain ⟨v52, e53, h⟩ := gb h
      refine gw_getA hx hb hT hown hK hI (ci := 7) rfl i_7 21 (by decide) wd_807 (fun _ h9 => h9) e53 d_M_along_29 ?_
      refine lv_iconst (v := 0) hx hb d_M_along_32 (by decide) ?_
      obtain ⟨v54, e55, h⟩ := gb h
      refine gw_aldI hx hb hK hI e55 d_M_along_33 ?_
      refine lv_icmp_ge (tgt := 98) hx hb d_M_along_34 (by decide) (fun c56 => ?_) (fun c56 => ?_)
      · skip
        have h := git c56 h
        exact hK98 _ _ w H locs ls h hI (lv_sub hl [0, 1, 2, 3, 4] rfl)
      · skip
        have h := gie c56 h
        refine lv_lload_n hx hb d_M_along_37 rfl (lv_at hl 1 rfl) ?_
        refine lv_aload_n hx hb d_M_along_38 rfl (lv_at hl 0 rfl) ?_
        obtain ⟨v57, e58, h⟩ := gb h
        refine gw_getA hx hb hT hown hK hI (ci := 7) rfl i_7 22 (by decide) wd_808 (fun _ h9 => h9) e58 d_M_along_39 ?_
        refine lv_iload hx hb d_M_along_42 (lv_at hl 5 rfl) ?_
        obtain ⟨v59, e60, h⟩ := gb h
        refine gw_aldJ hx hb hK hI e60 d_M_along_44 ?_
        refine lv_lmul hx hb d_M_along_45 ?_
        refine lv_lload_n hx hb d_M_along_46 rfl (lv_at hl 2 rfl) ?_
        refine lv_aload_n hx hb d_M_along_47 rfl (lv_at hl 0 rfl) ?_
        obtain ⟨v61, e62, h⟩ := gb h
        refine gw_getA hx hb hT hown hK hI (ci := 7) rfl i_7 23 (by decide) wd_809 (fun _ h9 => h9) e62 d_M_along_48 ?_
        refine lv_iload hx hb d_M_along_51 (lv_at hl 5 rfl) ?_
        obtain ⟨v63, e64, h⟩ := gb h
        refine gw_aldJ hx hb hK hI e64 d_M_along_53 ?_
        refine lv_lmul hx hb d_M_along_54 ?_
        refine lv_ladd hx hb d_M_along_55 ?_
        refine lv_lstore (lv' := [(10, .long ((p1 * v59) + (p2 * v63))), (0, .ref a0), (1, .long p1), (3, .long p2), (5, .long z49), (7, .long z50), (9, .int z51)]) hx hb d_M_along_56 hl (by decide) rfl (fun ls hl => ?_)
        refine lv_lload hx hb d_M_along_58 (lv_at hl 0 rfl) ?_
        refine lv_lload hx hb d_M_along_60 (lv_at hl 4 rfl) ?_
        refine W.lcmp hx hb d_M_along_62 ?_
        obtain ⟨K73, eK73, h⟩ := gj h
        have hK73 : ∀ (y65 : Int64) (w : gW) (H : Heap) (locs : List Loc) (ls : Array Slot), K73 y65 w = some r → gI D s A w H locs → lv_has ls 16 [(0, .ref a0), (1, .long p1), (3, .long p2), (7, .long z50), (9, .int z51), (10, .long ((p1 * v59) + (p2 * v63)))] → W p l e rm_M_along s m args below meth c H locs 0 0 Q (F0 m 73 ls [.long y65]) := by
          intro y65 w H locs ls h hI hl
          have h := gk2 eK73 h
          refine lv_lstore (lv' := [(5, .long y65), (0, .ref a0), (1, .long p1), (3, .long p2), (7, .long z50), (9, .int z51), (10, .long ((p1 * v59) + (p2 * v63)))]) hx hb d_M_along_73 hl (by decide) rfl (fun ls hl => ?_)
          refine lv_lload hx hb d_M_along_75 (lv_at hl 6 rfl) ?_
          refine lv_lload hx hb d_M_along_77 (lv_at hl 4 rfl) ?_
          refine W.lcmp hx hb d_M_along_79 ?_
          obtain ⟨K90, eK90, h⟩ := gj h
          have hK90 : ∀ (y66 : Int64) (w : gW) (H : Heap) (locs : List Loc) (ls : Array Slot), K90 y66 w = some r → gI D s A w H locs → lv_has ls 16 [(0, .ref a0), (1, .long p1), (3, .long p2), (5, .long y65), (9, .int z51)] → W p l e rm_M_along s m args below meth c H locs 0 0 Q (F0 m 90 ls [.long y66]) := by
            intro y66 w H locs ls h hI hl
            have h := gk2 eK90 h
            refine lv_lstore (lv' := [(7, .long y66), (0, .ref a0), (1, .long p1), (3, .long p2), (5, .long y65), (9, .int z51)]) hx hb d_M_along_90 hl (by decide) rfl (fun ls hl => ?_)
            refine lv_iinc (v := z51 + 1) (lv' := [(9, .int (z51 + 1)), (7, .long y66), (0, .ref a0), (1, .long p1), (3, .long p2), (5, .long y65)]) hx hb d_M_along_92 hl (k := 5) rfl rfl (by decide) rfl (fun ls hl => ?_)
            refine lv_goto (tgt := 26) hx hb d_M_along_95 (by decide) ?_
            exact ih _ _ _ w H locs ls h hI (lv_sub hl [2, 3, 4, 5, 1, 0] rfl)
          refine lv_if_le (tgt := 88) hx hb d_M_along_80 (by decide) (fun c67 => ?_) (fun c67 => ?_)
          · have c67 := (lg_cmp_le _ _).mp c67
            have h := git c67 h
            refine lv_lload hx hb d_M_along_88 (lv_at hl 4 rfl) ?_
            exact hK90 _ w H locs ls h hI (lv_sub hl [1, 2, 3, 0, 5] rfl)
          · have c67 := mt (lg_cmp_le _ _).mpr c67
            have h := gie c67 h
            refine lv_lload hx hb d_M_along_83 (lv_at hl 6 rfl) ?_
            refine lv_goto (tgt := 90) hx hb d_M_along_85 (by decide) ?_
            exact hK90 _ w H locs ls h hI (lv_sub hl [1, 2, 3, 0, 5] rfl)
        refine lv_if_ge (tgt := 71) hx hb d_M_along_63 (by decide) (fun c68 => ?_) (fun c68 => ?_)
        · have c68 := (lg_cmp_ge _ _).mp c68
          have h := git c68 h
          refine lv_lload hx hb d_M_along_71 (lv_at hl 4 rfl) ?_
          exact hK73 _ w H locs ls h hI (lv_sub hl [1, 2, 3, 5, 6, 0] rfl)
        · have c68 := mt (lg_cmp_ge _ _).mpr c68
          have h := gie c68 h
          refine lv_lload hx hb d_M_along_66 (lv_at hl 0 rfl) ?_
          refine lv_goto (tgt := 73) hx hb d_M_along_68 (by decide) ?_
          exact hK73 _ w H locs ls h hI (lv_sub hl [1, 2, 3, 5, 6, 0] rfl)
  exact hL26 64 _ _ _ w H locs ls h hI (lv_sub hl [3, 4, 5, 2, 1, 0] rfl)

abbrev b_M_polygons : ByteArray := prog_9_method_37_code
def y_M_polygons : MethodName := ⟨"BodySolidsModel", "polygons", "()I"⟩
theorem d_M_polygons_0 : decode b_M_polygons 0 = .ok (.iconst 2, 1) := by decide +kernel
theorem d_M_polygons_1 : decode b_M_polygons 1 = .ok (.istore_n 1, 1) := by decide +kernel
theorem d_M_polygons_2 : decode b_M_polygons 2 = .ok (.iconst 0, 1) := by decide +kernel
theorem d_M_polygons_3 : decode b_M_polygons 3 = .ok (.istore_n 2, 1) := by decide +kernel
theorem d_M_polygons_4 : decode b_M_polygons 4 = .ok (.iload_n 2, 1) := by decide +kernel
theorem d_M_polygons_5 : decode b_M_polygons 5 = .ok (.iconst 2, 1) := by decide +kernel
theorem d_M_polygons_6 : decode b_M_polygons 6 = .ok (.if_icmp .ge 106, 3) := by decide +kernel
theorem d_M_polygons_9 : decode b_M_polygons 9 = .ok (.iconst 0, 1) := by decide +kernel
theorem d_M_polygons_10 : decode b_M_polygons 10 = .ok (.istore_n 3, 1) := by decide +kernel
theorem d_M_polygons_11 : decode b_M_polygons 11 = .ok (.iload_n 3, 1) := by decide +kernel
theorem d_M_polygons_12 : decode b_M_polygons 12 = .ok (.aload_n 0, 1) := by decide +kernel
theorem d_M_polygons_13 : decode b_M_polygons 13 = .ok (.getfield 56, 3) := by decide +kernel
theorem d_M_polygons_16 : decode b_M_polygons 16 = .ok (.iload_n 2, 1) := by decide +kernel
theorem d_M_polygons_17 : decode b_M_polygons 17 = .ok (.iaload, 1) := by decide +kernel
theorem d_M_polygons_18 : decode b_M_polygons 18 = .ok (.if_icmp .ge 88, 3) := by decide +kernel
theorem d_M_polygons_21 : decode b_M_polygons 21 = .ok (.iload_n 3, 1) := by decide +kernel
theorem d_M_polygons_22 : decode b_M_polygons 22 = .ok (.iconst 1, 1) := by decide +kernel
theorem d_M_polygons_23 : decode b_M_polygons 23 = .ok (.iadd, 1) := by decide +kernel
theorem d_M_polygons_24 : decode b_M_polygons 24 = .ok (.aload_n 0, 1) := by decide +kernel
theorem d_M_polygons_25 : decode b_M_polygons 25 = .ok (.getfield 56, 3) := by decide +kernel
theorem d_M_polygons_28 : decode b_M_polygons 28 = .ok (.iload_n 2, 1) := by decide +kernel
theorem d_M_polygons_29 : decode b_M_polygons 29 = .ok (.iaload, 1) := by decide +kernel
theorem d_M_polygons_30 : decode b_M_polygons 30 = .ok (.irem, 1) := by decide +kernel
theorem d_M_polygons_31 : decode b_M_polygons 31 = .ok (.istore 4, 2) := by decide +kernel
theorem d_M_polygons_33 : decode b_M_polygons 33 = .ok (.aload_n 0, 1) := by decide +kernel
theorem d_M_polygons_34 : decode b_M_polygons 34 = .ok (.aload_n 0, 1) := by decide +kernel
theorem d_M_polygons_35 : decode b_M_polygons 35 = .ok (.getfield 62, 3) := by decide +kernel
theorem d_M_polygons_38 : decode b_M_polygons 38 = .ok (.bipush 8, 2) := by decide +kernel
theorem d_M_polygons_40 : decode b_M_polygons 40 = .ok (.iload_n 2, 1) := by decide +kernel
theorem d_M_polygons_41 : decode b_M_polygons 41 = .ok (.imul, 1) := by decide +kernel
theorem d_M_polygons_42 : decode b_M_polygons 42 = .ok (.iload 4, 2) := by decide +kernel
theorem d_M_polygons_44 : decode b_M_polygons 44 = .ok (.iadd, 1) := by decide +kernel
theorem d_M_polygons_45 : decode b_M_polygons 45 = .ok (.laload, 1) := by decide +kernel
theorem d_M_polygons_46 : decode b_M_polygons 46 = .ok (.aload_n 0, 1) := by decide +kernel
theorem d_M_polygons_47 : decode b_M_polygons 47 = .ok (.getfield 62, 3) := by decide +kernel
theorem d_M_polygons_50 : decode b_M_polygons 50 = .ok (.bipush 8, 2) := by decide +kernel
theorem d_M_polygons_52 : decode b_M_polygons 52 = .ok (.iload_n 2, 1) := by decide +kernel
theorem d_M_polygons_53 : decode b_M_polygons 53 = .ok (.imul, 1) := by decide +kernel
theorem d_M_polygons_54 : decode b_M_polygons 54 = .ok (.iload_n 3, 1) := by decide +kernel
theorem d_M_polygons_55 : decode b_M_polygons 55 = .ok (.iadd, 1) := by decide +kernel
theorem d_M_polygons_56 : decode b_M_polygons 56 = .ok (.laload, 1) := by decide +kernel
theorem d_M_polygons_57 : decode b_M_polygons 57 = .ok (.lsub, 1) := by decide +kernel
theorem d_M_polygons_58 : decode b_M_polygons 58 = .ok (.aload_n 0, 1) := by decide +kernel
theorem d_M_polygons_59 : decode b_M_polygons 59 = .ok (.getfield 59, 3) := by decide +kernel
theorem d_M_polygons_62 : decode b_M_polygons 62 = .ok (.bipush 8, 2) := by decide +kernel
theorem d_M_polygons_64 : decode b_M_polygons 64 = .ok (.iload_n 2, 1) := by decide +kernel
theorem d_M_polygons_65 : decode b_M_polygons 65 = .ok (.imul, 1) := by decide +kernel
theorem d_M_polygons_66 : decode b_M_polygons 66 = .ok (.iload_n 3, 1) := by decide +kernel
theorem d_M_polygons_67 : decode b_M_polygons 67 = .ok (.iadd, 1) := by decide +kernel
theorem d_M_polygons_68 : decode b_M_polygons 68 = .ok (.laload, 1) := by decide +kernel
theorem d_M_polygons_69 : decode b_M_polygons 69 = .ok (.aload_n 0, 1) := by decide +kernel
theorem d_M_polygons_70 : decode b_M_polygons 70 = .ok (.getfield 59, 3) := by decide +kernel
theorem d_M_polygons_73 : decode b_M_polygons 73 = .ok (.bipush 8, 2) := by decide +kernel
theorem d_M_polygons_75 : decode b_M_polygons 75 = .ok (.iload_n 2, 1) := by decide +kernel
theorem d_M_polygons_76 : decode b_M_polygons 76 = .ok (.imul, 1) := by decide +kernel
theorem d_M_polygons_77 : decode b_M_polygons 77 = .ok (.iload 4, 2) := by decide +kernel
theorem d_M_polygons_79 : decode b_M_polygons 79 = .ok (.iadd, 1) := by decide +kernel
theorem d_M_polygons_80 : decode b_M_polygons 80 = .ok (.laload, 1) := by decide +kernel
theorem d_M_polygons_81 : decode b_M_polygons 81 = .ok (.lsub, 1) := by decide +kernel
theorem d_M_polygons_82 : decode b_M_polygons 82 = .ok (.invokevirtual 190, 3) := by decide +kernel
theorem d_M_polygons_85 : decode b_M_polygons 85 = .ok (.istore 5, 2) := by decide +kernel
theorem d_M_polygons_87 : decode b_M_polygons 87 = .ok (.iload 5, 2) := by decide +kernel
theorem d_M_polygons_89 : decode b_M_polygons 89 = .ok (.iload_n 1, 1) := by decide +kernel
theorem d_M_polygons_90 : decode b_M_polygons 90 = .ok (.if_icmp .ge 8, 3) := by decide +kernel
theorem d_M_polygons_93 : decode b_M_polygons 93 = .ok (.iload 5, 2) := by decide +kernel
theorem d_M_polygons_95 : decode b_M_polygons 95 = .ok (.goto 4, 3) := by decide +kernel
theorem d_M_polygons_98 : decode b_M_polygons 98 = .ok (.iload_n 1, 1) := by decide +kernel
theorem d_M_polygons_99 : decode b_M_polygons 99 = .ok (.istore_n 1, 1) := by decide +kernel
theorem d_M_polygons_100 : decode b_M_polygons 100 = .ok (.iinc 3 1, 3) := by decide +kernel
theorem d_M_polygons_103 : decode b_M_polygons 103 = .ok (.goto (-92), 3) := by decide +kernel
theorem d_M_polygons_106 : decode b_M_polygons 106 = .ok (.iinc 2 1, 3) := by decide +kernel
theorem d_M_polygons_109 : decode b_M_polygons 109 = .ok (.goto (-105), 3) := by decide +kernel
theorem d_M_polygons_112 : decode b_M_polygons 112 = .ok (.iload_n 1, 1) := by decide +kernel
theorem d_M_polygons_113 : decode b_M_polygons 113 = .ok (.ireturn, 1) := by decide +kernel
abbrev rm_M_polygons : Room := { frames := 2, cells := 0, slots := 0, locals := 56 }
theorem ce_M_polygons : gCe y_M_polygons (.code y_M_polygons b_M_polygons 6 (some .int)) 6 0 false := gCe.code wd_1062 wd_57 wd_1061 (by decide) (by decide +kernel)
def f_M_polygons_L11 (g0 : gG) (c0 : Nat) (c2 : Int32) (K106 : Int32 → gW → gX Int32) : Nat → Int32 → Int32 → gW → gX Int32
  | 0, _, _, _ => none
  | n + 1, z1, z3, w => (gfA w c0 7 21).bind fun v4 => (gaI w v4 c2).bind fun v6 => if v6 ≤ z3 then (K106 z1 w) else ((gfA w c0 7 21).bind fun v9 => (gaI w v9 c2).bind fun v11 => gguard (¬ v11 = 0) ((gfA w c0 7 23).bind fun v14 => (gaJ w v14 ((8 * c2) + ((z3 + 1) - (z3 + 1) / v11 * v11))).bind fun v16 => (gfA w c0 7 23).bind fun v18 => (gaJ w v18 ((8 * c2) + z3)).bind fun v20 => (gfA w c0 7 22).bind fun v22 => (gaJ w v22 ((8 * c2) + z3)).bind fun v24 => (gfA w c0 7 22).bind fun v26 => (gaJ w v26 ((8 * c2) + ((z3 + 1) - (z3 + 1) / v11 * v11))).bind fun v28 => (gck w c0 7).bind fun _ => gbind (f_M_along g0 c0 (v16 - v20) (v24 - v28) w) fun v34 w => gjoin (fun K99 => if z1 ≤ v34 then (K99 z1 w) else (K99 v34 w)) (fun (y35 : Int32) (w : gW) => f_M_polygons_L11 g0 c0 c2 K106 n y35 (z3 + 1) w)))
def f_M_polygons_L4 (g0 : gG) (c0 : Nat) (K112 : Int32 → gW → gX Int32) : Nat → Int32 → Int32 → gW → gX Int32
  | 0, _, _, _ => none
  | n + 1, z1, z2, w => if 2 ≤ z2 then (K112 z1 w) else (gjoin (fun K106 => f_M_polygons_L11 g0 c0 z2 K106 64 z1 0 w) (fun (x3 : Int32) (w : gW) => f_M_polygons_L4 g0 c0 K112 n x3 (z2 + 1) w))
def f_M_polygons (g0 : gG) (a0 : Nat) (w : gW) : gX Int32 := gjoin (fun K112 => f_M_polygons_L4 g0 a0 K112 64 2 0 w) (fun (x1 : Int32) (w : gW) => some (.inr x1, w))
set_option maxHeartbeats 4000000 in
set_option maxRecDepth 100000 in
theorem m_M_polygons (l : Launch) (hst : l.stackTraces = false) (D : gD) (g0 : gG) (a0 : Nat) (w : gW) (r : (String ⊕ Int32) × gW) (h : f_M_polygons g0 a0 w = some r) : gMet l y_M_polygons (.code y_M_polygons b_M_polygons 6 (some .int)) rm_M_polygons D g0 [.ref a0] w (goI r) := by
  refine gw_ofI (by decide +kernel) (Nat.le_of_ble_eq_true rfl) ?_
  intro p e s m below meth c ls args A Q hx hb hml hown hlocks hin hnt hT hK hZ hA hret hexc hthr hI hl
  obtain ⟨H, hH⟩ : ∃ H, H = s.heap := ⟨_, rfl⟩
  rw [← hH] at hI ⊢
  obtain ⟨locs, hlocs⟩ : ∃ z : List Loc, z = [] := ⟨_, rfl⟩
  rw [← hlocs] at hI ⊢
  have hl : lv_has ls 6 [(0, .ref a0)] := hl
  unfold f_M_polygons at h
  refine lv_iconst (v := 2) hx hb d_M_polygons_0 (by decide) ?_
  refine lv_istore_n (lv' := [(1, .int 2), (0, .ref a0)]) hx hb d_M_polygons_1 rfl hl (by decide) rfl (fun ls hl => ?_)
  refine lv_iconst (v := 0) hx hb d_M_polygons_2 (by decide) ?_
  refine lv_istore_n (lv' := [(2, .int 0), (1, .int 2), (0, .ref a0)]) hx hb d_M_polygons_3 rfl hl (by decide) rfl (fun ls hl => ?_)
  obtain ⟨K112, eK112, h⟩ := gj h
  have hK112 : ∀ (x1 : Int32) (w : gW) (H : Heap) (locs : List Loc) (ls : Array Slot), K112 x1 w = some r → gI D s A w H locs → lv_has ls 6 [(1, .int x1)] → W p l e rm_M_polygons s m args below meth c H locs 0 0 Q (F0 m 112 ls []) := by
    intro x1 w H locs ls h hI hl
    have h := gk2 eK112 h
    refine lv_iload_n hx hb d_M_polygons_112 rfl (lv_at hl 0 rfl) ?_
    exact W.widen (show 0 ≤ 0 by omega) (show 0 ≤ 0 by omega) (hret _ _ (Option.some.inj h).symm _ _ _ _ d_M_polygons_113 hI)
  have hL4 : ∀ (n : Nat), ∀ (z2 : Int32) (z3 : Int32) (w : gW) (H : Heap) (locs : List Loc) (ls : Array Slot), f_M_polygons_L4 g0 a0 K112 n z2 z3 w = some r → gI D s A w H locs → lv_has ls 6 [(0, .ref a0), (1, .int z2), (2, .int z3)] → W p l e rm_M_polygons s m args below meth c H locs 0 0 Q (F0 m 4 ls []) := by
    intro n
    induction n with
    | zero => intro z2 z3 w H locs ls h hI hl; exact absurd h (by simp [f_M_polygons_L4])
    | succ n ih =>
      intro z2 z3 w H locs ls h hI hl
      rw [f_M_polygons_L4] at h
      refine lv_iload_n hx hb d_M_polygons_4 rfl (lv_at hl 2 rfl) ?_
      refine lv_iconst (v := 2) hx hb d_M_polygons_5 (by decide) ?_
      refine lv_icmp_ge (tgt := 112) hx hb d_M_polygons_6 (by decide) (fun c4 => ?_) (fun c4 => ?_)
      · skip
        have h := git c4 h
        exact hK112 _ w H locs ls h hI (lv_sub hl [1] rfl)
      · skip
        have h := gie c4 h
        refine lv_iconst (v := 0) hx hb d_M_polygons_9 (by decide) ?_
        refine lv_istore_n (lv' := [(3, .int 0), (0, .ref a0), (1, .int z2), (2, .int z3)]) hx hb d_M_polygons_10 rfl hl (by decide) rfl (fun ls hl => ?_)
        obtain ⟨K106, eK106, h⟩ := gj h
        have hK106 : ∀ (x5 : Int32) (w : gW) (H : Heap) (locs : List Loc) (ls : Array Slot), K106 x5 w = some r → gI D s A w H locs → lv_has ls 6 [(0, .ref a0), (1, .int x5), (2, .int z3)] → W p l e rm_M_polygons s m args below meth c H locs 0 0 Q (F0 m 106 ls []) := by
          intro x5 w H locs ls h hI hl
          have h := gk2 eK106 h
          refine lv_iinc (v := z3 + 1) (lv' := [(2, .int (z3 + 1)), (0, .ref a0), (1, .int x5)]) hx hb d_M_polygons_106 hl (k := 2) rfl rfl (by decide) rfl (fun ls hl => ?_)
          refine lv_goto (tgt := 4) hx hb d_M_polygons_109 (by decide) ?_
          exact ih _ _ w H locs ls h hI (lv_sub hl [1, 2, 0] rfl)
        have hL11 : ∀ (n : Nat), ∀ (z6 : Int32) (z7 : Int32) (w : gW) (H : Heap) (locs : List Loc) (ls : Array Slot), f_M_polygons_L11 g0 a0 z3 K106 n z6 z7 w = some r → gI D s A w H locs → lv_has ls 6 [(0, .ref a0), (2, .int z3), (1, .int z6), (3, .int z7)] → W p l e rm_M_polygons s m args below meth c H locs 0 0 Q (F0 m 11 ls []) := by
          intro n
          induction n with
          | zero => intro z6 z7 w H locs ls h hI hl; exact absurd h (by simp [f_M_polygons_L11])
          | succ n ih =>
            intro z6 z7 w H locs ls h hI hl
            rw [f_M_polygons_L11] at h
            refine lv_iload_n hx hb d_M_polygons_11 rfl (lv_at hl 3 rfl) ?_
            refine lv_aload_n hx hb d_M_polygons_12 rfl (lv_at hl 0 rfl) ?_
            obtain ⟨v8, e9, h⟩ := gb h
            refine gw_getA hx hb hT hown hK hI (ci := 7) rfl i_7 21 (by decide) wd_807 (fun _ h9 => h9) e9 d_M_polygons_13 ?_
            refine lv_iload_n hx hb d_M_polygons_16 rfl (lv_at hl 1 rfl) ?_
            obtain ⟨v10, e11, h⟩ := gb h
            refine gw_aldI hx hb hK hI e11 d_M_polygons_17 ?_
            refine lv_icmp_ge (tgt := 106) hx hb d_M_polygons_18 (by decide) (fun c12 => ?_) (fun c12 => ?_)
            · skip
              have h := git c12 h
              exact hK106 _ w H locs ls h hI (lv_sub hl [0, 2, 1] rfl)
            · skip
              have h := gie c12 h
              refine lv_iload_n hx hb d_M_polygons_21 rfl (lv_at hl 3 rfl) ?_
              refine lv_iconst (v := 1) hx hb d_M_polygons_22 (by decide) ?_
              refine lv_iadd hx hb d_M_polygons_23 ?_
              refine lv_aload_n hx hb d_M_polygons_24 rfl (lv_at hl 0 rfl) ?_
              obtain ⟨v13, e14, h⟩ := gb h
              refine gw_getA hx hb hT hown hK hI (ci := 7) rfl i_7 21 (by decide) wd_807 (fun _ h9 => h9) e14 d_M_polygons_25 ?_
              refine lv_iload_n hx hb d_M_polygons_28 rfl (lv_at hl 1 rfl) ?_
              obtain ⟨v15, e16, h⟩ := gb h
              refine gw_aldI hx hb hK hI e16 d_M_polygons_29 ?_
              obtain ⟨g17, h⟩ := gif h
              refine lv_irem hx hb d_M_polygons_30 g17 ?_
              refine lv_istore (lv' := [(4, .int ((z7 + 1) - (z7 + 1) / v15 * v15)), (0, .ref a0), (2, .int z3), (1, .int z6), (3, .int z7)]) hx hb d_M_polygons_31 hl (by decide) rfl (fun ls hl => ?_)
              refine lv_aload_n hx hb d_M_polygons_33 rfl (lv_at hl 1 rfl) ?_
              refine lv_aload_n hx hb d_M_polygons_34 rfl (lv_at hl 1 rfl) ?_
              obtain ⟨v18, e19, h⟩ := gb h
              refine gw_getA hx hb hT hown hK hI (ci := 7) rfl i_7 23 (by decide) wd_809 (fun _ h9 => h9) e19 d_M_polygons_35 ?_
              refine lv_bipush (v := 8) hx hb d_M_polygons_38 (by decide) ?_
              refine lv_iload_n hx hb d_M_polygons_40 rfl (lv_at hl 2 rfl) ?_
              refine lv_imul hx hb d_M_polygons_41 ?_
              refine lv_iload hx hb d_M_polygons_42 (lv_at hl 0 rfl) ?_
              refine lv_iadd hx hb d_M_polygons_44 ?_
              obtain ⟨v20, e21, h⟩ := gb h
              refine gw_aldJ hx hb hK hI e21 d_M_polygons_45 ?_
              refine lv_aload_n hx hb d_M_polygons_46 rfl (lv_at hl 1 rfl) ?_
              obtain ⟨v22, e23, h⟩ := gb h
              refine gw_getA hx hb hT hown hK hI (ci := 7) rfl i_7 23 (by decide) wd_809 (fun _ h9 => h9) e23 d_M_polygons_47 ?_
              refine lv_bipush (v := 8) hx hb d_M_polygons_50 (by decide) ?_
              refine lv_iload_n hx hb d_M_polygons_52 rfl (lv_at hl 2 rfl) ?_
              refine lv_imul hx hb d_M_polygons_53 ?_
              refine lv_iload_n hx hb d_M_polygons_54 rfl (lv_at hl 4 rfl) ?_
              refine lv_iadd hx hb d_M_polygons_55 ?_
              obtain ⟨v24, e25, h⟩ := gb h
              refine gw_aldJ hx hb hK hI e25 d_M_polygons_56 ?_
              refine lv_lsub hx hb d_M_polygons_57 ?_
              refine lv_aload_n hx hb d_M_polygons_58 rfl (lv_at hl 1 rfl) ?_
              obtain ⟨v26, e27, h⟩ := gb h
              refine gw_getA hx hb hT hown hK hI (ci := 7) rfl i_7 22 (by decide) wd_808 (fun _ h9 => h9) e27 d_M_polygons_59 ?_
              refine lv_bipush (v := 8) hx hb d_M_polygons_62 (by decide) ?_
              refine lv_iload_n hx hb d_M_polygons_64 rfl (lv_at hl 2 rfl) ?_
              refine lv_imul hx hb d_M_polygons_65 ?_
              refine lv_iload_n hx hb d_M_polygons_66 rfl (lv_at hl 4 rfl) ?_
              refine lv_iadd hx hb d_M_polygons_67 ?_
              obtain ⟨v28, e29, h⟩ := gb h
              refine gw_aldJ hx hb hK hI e29 d_M_polygons_68 ?_
              refine lv_aload_n hx hb d_M_polygons_69 rfl (lv_at hl 1 rfl) ?_
              obtain ⟨v30, e31, h⟩ := gb h
              refine gw_getA hx hb hT hown hK hI (ci := 7) rfl i_7 22 (by decide) wd_808 (fun _ h9 => h9) e31 d_M_polygons_70 ?_
              refine lv_bipush (v := 8) hx hb d_M_polygons_73 (by decide) ?_
              refine lv_iload_n hx hb d_M_polygons_75 rfl (lv_at hl 2 rfl) ?_
              refine lv_imul hx hb d_M_polygons_76 ?_
              refine lv_iload hx hb d_M_polygons_77 (lv_at hl 0 rfl) ?_
              refine lv_iadd hx hb d_M_polygons_79 ?_
              obtain ⟨v32, e33, h⟩ := gb h
              refine gw_aldJ hx hb hK hI e33 d_M_polygons_80 ?_
              refine lv_lsub hx hb d_M_polygons_81 ?_
              obtain ⟨q36, e37, h⟩ := gb h
              obtain ⟨u34, e35⟩ := gsome h
              refine gw_callI e35 h (gw_runV (As := [.long (v20 - v24), .long (v28 - v32)]) (rest := []) hx hb hml hown hT hK hZ hA hI (ci := 7) rfl e37 (m_M_along l hst D g0 a0 (v20 - v24) (v28 - v32) w u34 e35) ce_M_along wd_1063 wd_43 ⟨by decide, by decide⟩ rfl rfl hl.1 rfl (lv_room (Nat.le_of_ble_eq_true rfl)) d_M_polygons_82 ⟨(show 0 + 0 ≤ 0 by omega), (show 0 + 0 ≤ 0 by omega)⟩) hI hA hexc (show 0 + 0 ≤ 0 by omega) (show 0 + 0 ≤ 0 by omega) (fun v38 w H locs h hI => ?_)
              refine lv_istore (lv' := [(5, .int v38), (4, .int ((z7 + 1) - (z7 + 1) / v15 * v15)), (0, .ref a0), (2, .int z3), (1, .int z6), (3, .int z7)]) hx hb d_M_polygons_85 hl (by decide) rfl (fun ls hl => ?_)
              refine lv_iload hx hb d_M_polygons_87 (lv_at hl 0 rfl) ?_
              refine lv_iload_n hx hb d_M_polygons_89 rfl (lv_at hl 4 rfl) ?_
              obtain ⟨K99, eK99, h⟩ := gj h
              have hK99 : ∀ (y39 : Int32) (w : gW) (H : Heap) (locs : List Loc) (ls : Array Slot), K99 y39 w = some r → gI D s A w H locs → lv_has ls 6 [(0, .ref a0), (2, .int z3), (3, .int z7)] → W p l e rm_M_polygons s m args below meth c H locs 0 0 Q (F0 m 99 ls [.int y39]) := by
                intro y39 w H locs ls h hI hl
                have h := gk2 eK99 h
                refine lv_istore_n (lv' := [(1, .int y39), (0, .ref a0), (2, .int z3), (3, .int z7)]) hx hb d_M_polygons_99 rfl hl (by decide) rfl (fun ls hl => ?_)
                refine lv_iinc (v := z7 + 1) (lv' := [(3, .int (z7 + 1)), (1, .int y39), (0, .ref a0), (2, .int z3)]) hx hb d_M_polygons_100 hl (k := 3) rfl rfl (by decide) rfl (fun ls hl => ?_)
                refine lv_goto (tgt := 11) hx hb d_M_polygons_103 (by decide) ?_
                exact ih _ _ w H locs ls h hI (lv_sub hl [2, 3, 1, 0] rfl)
              refine lv_icmp_ge (tgt := 98) hx hb d_M_polygons_90 (by decide) (fun c40 => ?_) (fun c40 => ?_)
              · skip
                have h := git c40 h
                refine lv_iload_n hx hb d_M_polygons_98 rfl (lv_at hl 4 rfl) ?_
                exact hK99 _ w H locs ls h hI (lv_sub hl [2, 3, 5] rfl)
              · skip
                have h := gie c40 h
                refine lv_iload hx hb d_M_polygons_93 (lv_at hl 0 rfl) ?_
                refine lv_goto (tgt := 99) hx hb d_M_polygons_95 (by decide) ?_
                exact hK99 _ w H locs ls h hI (lv_sub hl [2, 3, 5] rfl)
        exact hL11 64 _ _ w H locs ls h hI (lv_sub hl [1, 3, 2, 0] rfl)
  exact hL4 64 _ _ w H locs ls h hI (lv_sub hl [2, 1, 0] rfl)

abbrev b_M_cross : ByteArray := prog_9_method_16_code
def y_M_cross : MethodName := ⟨"BodySolidsModel", "cross", "(JJJJJJ)J"⟩
theorem d_M_cross_0 : decode b_M_cross 0 = .ok (.lload 4, 2) := by decide +kernel
theorem d_M_cross_2 : decode b_M_cross 2 = .ok (.lload_n 0, 1) := by decide +kernel
theorem d_M_cross_3 : decode b_M_cross 3 = .ok (.lsub, 1) := by decide +kernel
theorem d_M_cross_4 : decode b_M_cross 4 = .ok (.lload 10, 2) := by decide +kernel
theorem d_M_cross_6 : decode b_M_cross 6 = .ok (.lload_n 2, 1) := by decide +kernel
theorem d_M_cross_7 : decode b_M_cross 7 = .ok (.lsub, 1) := by decide +kernel
theorem d_M_cross_8 : decode b_M_cross 8 = .ok (.lmul, 1) := by decide +kernel
theorem d_M_cross_9 : decode b_M_cross 9 = .ok (.lload 6, 2) := by decide +kernel
theorem d_M_cross_11 : decode b_M_cross 11 = .ok (.lload_n 2, 1) := by decide +kernel
theorem d_M_cross_12 : decode b_M_cross 12 = .ok (.lsub, 1) := by decide +kernel
theorem d_M_cross_13 : decode b_M_cross 13 = .ok (.lload 8, 2) := by decide +kernel
theorem d_M_cross_15 : decode b_M_cross 15 = .ok (.lload_n 0, 1) := by decide +kernel
theorem d_M_cross_16 : decode b_M_cross 16 = .ok (.lsub, 1) := by decide +kernel
theorem d_M_cross_17 : decode b_M_cross 17 = .ok (.lmul, 1) := by decide +kernel
theorem d_M_cross_18 : decode b_M_cross 18 = .ok (.lsub, 1) := by decide +kernel
theorem d_M_cross_19 : decode b_M_cross 19 = .ok (.lreturn, 1) := by decide +kernel
abbrev rm_M_cross : Room := { frames := 0, cells := 0, slots := 0, locals := 0 }
theorem ce_M_cross : gCe y_M_cross (.code y_M_cross b_M_cross 12 (some .long)) 12 6 true := gCe.code wd_924 wd_57 wd_923 (by decide) (by decide +kernel)
def f_M_cross (g0 : gG) (p0 : Int64) (p1 : Int64) (p2 : Int64) (p3 : Int64) (p4 : Int64) (p5 : Int64) (w : gW) : gX Int64 := some (.inr (((p2 - p0) * (p5 - p1)) - ((p3 - p1) * (p4 - p0))), w)
set_option maxHeartbeats 4000000 in
set_option maxRecDepth 100000 in
theorem m_M_cross (l : Launch) (hst : l.stackTraces = false) (D : gD) (g0 : gG) (p0 : Int64) (p1 : Int64) (p2 : Int64) (p3 : Int64) (p4 : Int64) (p5 : Int64) (w : gW) (r : (String ⊕ Int64) × gW) (h : f_M_cross g0 p0 p1 p2 p3 p4 p5 w = some r) : gMet l y_M_cross (.code y_M_cross b_M_cross 12 (some .long)) rm_M_cross D g0 [.long p0, .long p1, .long p2, .long p3, .long p4, .long p5] w (goJ r) := by
  refine gw_ofJ (by decide +kernel) (Nat.le_of_ble_eq_true rfl) ?_
  intro p e s m below meth c ls args A Q hx hb hml hown hlocks hin hnt hT hK hZ hA hret hexc hthr hI hl
  obtain ⟨H, hH⟩ : ∃ H, H = s.heap := ⟨_, rfl⟩
  rw [← hH] at hI ⊢
  obtain ⟨locs, hlocs⟩ : ∃ z : List Loc, z = [] := ⟨_, rfl⟩
  rw [← hlocs] at hI ⊢
  have hl : lv_has ls 12 [(0, .long p0), (2, .long p1), (4, .long p2), (6, .long p3), (8, .long p4), (10, .long p5)] := hl
  unfold f_M_cross at h
  refine lv_lload hx hb d_M_cross_0 (lv_at hl 2 rfl) ?_
  refine lv_lload_n hx hb d_M_cross_2 rfl (lv_at hl 0 rfl) ?_
  refine lv_lsub hx hb d_M_cross_3 ?_
  refine lv_lload hx hb d_M_cross_4 (lv_at hl 5 rfl) ?_
  refine lv_lload_n hx hb d_M_cross_6 rfl (lv_at hl 1 rfl) ?_
  refine lv_lsub hx hb d_M_cross_7 ?_
  refine lv_lmul hx hb d_M_cross_8 ?_
  refine lv_lload hx hb d_M_cross_9 (lv_at hl 3 rfl) ?_
  refine lv_lload_n hx hb d_M_cross_11 rfl (lv_at hl 1 rfl) ?_
  refine lv_lsub hx hb d_M_cross_12 ?_
  refine lv_lload hx hb d_M_cross_13 (lv_at hl 4 rfl) ?_
  refine lv_lload_n hx hb d_M_cross_15 rfl (lv_at hl 0 rfl) ?_
  refine lv_lsub hx hb d_M_cross_16 ?_
  refine lv_lmul hx hb d_M_cross_17 ?_
  refine lv_lsub hx hb d_M_cross_18 ?_
  exact W.widen (show 0 ≤ 0 by omega) (show 0 ≤ 0 by omega) (hret _ _ (Option.some.inj h).symm _ _ _ _ d_M_cross_19 hI)

abbrev b_M_isIn : ByteArray := prog_9_method_38_code
def y_M_isIn : MethodName := ⟨"BodySolidsModel", "isIn", "(IJJ)Z"⟩
theorem d_M_isIn_0 : decode b_M_isIn 0 = .ok (.iconst 0, 1) := by decide +kernel
theorem d_M_isIn_1 : decode b_M_isIn 1 = .ok (.istore 6, 2) := by decide +kernel
theorem d_M_isIn_3 : decode b_M_isIn 3 = .ok (.iconst 0, 1) := by decide +kernel
theorem d_M_isIn_4 : decode b_M_isIn 4 = .ok (.istore 7, 2) := by decide +kernel
theorem d_M_isIn_6 : decode b_M_isIn 6 = .ok (.iconst 0, 1) := by decide +kernel
theorem d_M_isIn_7 : decode b_M_isIn 7 = .ok (.istore 8, 2) := by decide +kernel
theorem d_M_isIn_9 : decode b_M_isIn 9 = .ok (.iload 8, 2) := by decide +kernel
theorem d_M_isIn_11 : decode b_M_isIn 11 = .ok (.aload_n 0, 1) := by decide +kernel
theorem d_M_isIn_12 : decode b_M_isIn 12 = .ok (.getfield 56, 3) := by decide +kernel
theorem d_M_isIn_15 : decode b_M_isIn 15 = .ok (.iload_n 1, 1) := by decide +kernel
theorem d_M_isIn_16 : decode b_M_isIn 16 = .ok (.iaload, 1) := by decide +kernel
theorem d_M_isIn_17 : decode b_M_isIn 17 = .ok (.if_icmp .ge 116, 3) := by decide +kernel
theorem d_M_isIn_20 : decode b_M_isIn 20 = .ok (.iload 8, 2) := by decide +kernel
theorem d_M_isIn_22 : decode b_M_isIn 22 = .ok (.iconst 1, 1) := by decide +kernel
theorem d_M_isIn_23 : decode b_M_isIn 23 = .ok (.iadd, 1) := by decide +kernel
theorem d_M_isIn_24 : decode b_M_isIn 24 = .ok (.aload_n 0, 1) := by decide +kernel
theorem d_M_isIn_25 : decode b_M_isIn 25 = .ok (.getfield 56, 3) := by decide +kernel
theorem d_M_isIn_28 : decode b_M_isIn 28 = .ok (.iload_n 1, 1) := by decide +kernel
theorem d_M_isIn_29 : decode b_M_isIn 29 = .ok (.iaload, 1) := by decide +kernel
theorem d_M_isIn_30 : decode b_M_isIn 30 = .ok (.irem, 1) := by decide +kernel
theorem d_M_isIn_31 : decode b_M_isIn 31 = .ok (.istore 9, 2) := by decide +kernel
theorem d_M_isIn_33 : decode b_M_isIn 33 = .ok (.aload_n 0, 1) := by decide +kernel
theorem d_M_isIn_34 : decode b_M_isIn 34 = .ok (.getfield 59, 3) := by decide +kernel
theorem d_M_isIn_37 : decode b_M_isIn 37 = .ok (.bipush 8, 2) := by decide +kernel
theorem d_M_isIn_39 : decode b_M_isIn 39 = .ok (.iload_n 1, 1) := by decide +kernel
theorem d_M_isIn_40 : decode b_M_isIn 40 = .ok (.imul, 1) := by decide +kernel
theorem d_M_isIn_41 : decode b_M_isIn 41 = .ok (.iload 8, 2) := by decide +kernel
theorem d_M_isIn_43 : decode b_M_isIn 43 = .ok (.iadd, 1) := by decide +kernel
theorem d_M_isIn_44 : decode b_M_isIn 44 = .ok (.laload, 1) := by decide +kernel
theorem d_M_isIn_45 : decode b_M_isIn 45 = .ok (.aload_n 0, 1) := by decide +kernel
theorem d_M_isIn_46 : decode b_M_isIn 46 = .ok (.getfield 62, 3) := by decide +kernel
theorem d_M_isIn_49 : decode b_M_isIn 49 = .ok (.bipush 8, 2) := by decide +kernel
theorem d_M_isIn_51 : decode b_M_isIn 51 = .ok (.iload_n 1, 1) := by decide +kernel
theorem d_M_isIn_52 : decode b_M_isIn 52 = .ok (.imul, 1) := by decide +kernel
theorem d_M_isIn_53 : decode b_M_isIn 53 = .ok (.iload 8, 2) := by decide +kernel
theorem d_M_isIn_55 : decode b_M_isIn 55 = .ok (.iadd, 1) := by decide +kernel
theorem d_M_isIn_56 : decode b_M_isIn 56 = .ok (.laload, 1) := by decide +kernel
theorem d_M_isIn_57 : decode b_M_isIn 57 = .ok (.aload_n 0, 1) := by decide +kernel
theorem d_M_isIn_58 : decode b_M_isIn 58 = .ok (.getfield 59, 3) := by decide +kernel
theorem d_M_isIn_61 : decode b_M_isIn 61 = .ok (.bipush 8, 2) := by decide +kernel
theorem d_M_isIn_63 : decode b_M_isIn 63 = .ok (.iload_n 1, 1) := by decide +kernel
theorem d_M_isIn_64 : decode b_M_isIn 64 = .ok (.imul, 1) := by decide +kernel
theorem d_M_isIn_65 : decode b_M_isIn 65 = .ok (.iload 9, 2) := by decide +kernel
theorem d_M_isIn_67 : decode b_M_isIn 67 = .ok (.iadd, 1) := by decide +kernel
theorem d_M_isIn_68 : decode b_M_isIn 68 = .ok (.laload, 1) := by decide +kernel
theorem d_M_isIn_69 : decode b_M_isIn 69 = .ok (.aload_n 0, 1) := by decide +kernel
theorem d_M_isIn_70 : decode b_M_isIn 70 = .ok (.getfield 62, 3) := by decide +kernel
theorem d_M_isIn_73 : decode b_M_isIn 73 = .ok (.bipush 8, 2) := by decide +kernel
theorem d_M_isIn_75 : decode b_M_isIn 75 = .ok (.iload_n 1, 1) := by decide +kernel
theorem d_M_isIn_76 : decode b_M_isIn 76 = .ok (.imul, 1) := by decide +kernel
theorem d_M_isIn_77 : decode b_M_isIn 77 = .ok (.iload 9, 2) := by decide +kernel
theorem d_M_isIn_79 : decode b_M_isIn 79 = .ok (.iadd, 1) := by decide +kernel
theorem d_M_isIn_80 : decode b_M_isIn 80 = .ok (.laload, 1) := by decide +kernel
theorem d_M_isIn_81 : decode b_M_isIn 81 = .ok (.lload_n 2, 1) := by decide +kernel
theorem d_M_isIn_82 : decode b_M_isIn 82 = .ok (.lload 4, 2) := by decide +kernel
theorem d_M_isIn_84 : decode b_M_isIn 84 = .ok (.invokestatic 124, 3) := by decide +kernel
theorem d_M_isIn_87 : decode b_M_isIn 87 = .ok (.lstore 10, 2) := by decide +kernel
theorem d_M_isIn_89 : decode b_M_isIn 89 = .ok (.iload 6, 2) := by decide +kernel
theorem d_M_isIn_91 : decode b_M_isIn 91 = .ok (.ifCond .ne 10, 3) := by decide +kernel
theorem d_M_isIn_94 : decode b_M_isIn 94 = .ok (.lload 10, 2) := by decide +kernel
theorem d_M_isIn_96 : decode b_M_isIn 96 = .ok (.lconst 0, 1) := by decide +kernel
theorem d_M_isIn_97 : decode b_M_isIn 97 = .ok (.lcmp, 1) := by decide +kernel
theorem d_M_isIn_98 : decode b_M_isIn 98 = .ok (.ifCond .le 7, 3) := by decide +kernel
theorem d_M_isIn_101 : decode b_M_isIn 101 = .ok (.iconst 1, 1) := by decide +kernel
theorem d_M_isIn_102 : decode b_M_isIn 102 = .ok (.goto 4, 3) := by decide +kernel
theorem d_M_isIn_105 : decode b_M_isIn 105 = .ok (.iconst 0, 1) := by decide +kernel
theorem d_M_isIn_106 : decode b_M_isIn 106 = .ok (.istore 6, 2) := by decide +kernel
theorem d_M_isIn_108 : decode b_M_isIn 108 = .ok (.iload 7, 2) := by decide +kernel
theorem d_M_isIn_110 : decode b_M_isIn 110 = .ok (.ifCond .ne 10, 3) := by decide +kernel
theorem d_M_isIn_113 : decode b_M_isIn 113 = .ok (.lload 10, 2) := by decide +kernel
theorem d_M_isIn_115 : decode b_M_isIn 115 = .ok (.lconst 0, 1) := by decide +kernel
theorem d_M_isIn_116 : decode b_M_isIn 116 = .ok (.lcmp, 1) := by decide +kernel
theorem d_M_isIn_117 : decode b_M_isIn 117 = .ok (.ifCond .ge 7, 3) := by decide +kernel
theorem d_M_isIn_120 : decode b_M_isIn 120 = .ok (.iconst 1, 1) := by decide +kernel
theorem d_M_isIn_121 : decode b_M_isIn 121 = .ok (.goto 4, 3) := by decide +kernel
theorem d_M_isIn_124 : decode b_M_isIn 124 = .ok (.iconst 0, 1) := by decide +kernel
theorem d_M_isIn_125 : decode b_M_isIn 125 = .ok (.istore 7, 2) := by decide +kernel
theorem d_M_isIn_127 : decode b_M_isIn 127 = .ok (.iinc 8 1, 3) := by decide +kernel
theorem d_M_isIn_130 : decode b_M_isIn 130 = .ok (.goto (-121), 3) := by decide +kernel
theorem d_M_isIn_133 : decode b_M_isIn 133 = .ok (.iload 6, 2) := by decide +kernel
theorem d_M_isIn_135 : decode b_M_isIn 135 = .ok (.ifCond .eq 8, 3) := by decide +kernel
theorem d_M_isIn_138 : decode b_M_isIn 138 = .ok (.iload 7, 2) := by decide +kernel
theorem d_M_isIn_140 : decode b_M_isIn 140 = .ok (.ifCond .ne 7, 3) := by decide +kernel
theorem d_M_isIn_143 : decode b_M_isIn 143 = .ok (.iconst 1, 1) := by decide +kernel
theorem d_M_isIn_144 : decode b_M_isIn 144 = .ok (.goto 4, 3) := by decide +kernel
theorem d_M_isIn_147 : decode b_M_isIn 147 = .ok (.iconst 0, 1) := by decide +kernel
theorem d_M_isIn_148 : decode b_M_isIn 148 = .ok (.ireturn, 1) := by decide +kernel
abbrev rm_M_isIn : Room := { frames := 1, cells := 0, slots := 0, locals := 31 }
theorem ce_M_isIn : gCe y_M_isIn (.code y_M_isIn b_M_isIn 12 (some .boolean)) 12 3 false := gCe.code wd_1047 wd_57 wd_1046 (by decide) (by decide +kernel)
def f_M_isIn_L9 (g0 : gG) (c0 : Nat) (c1 : Int32) (c2 : Int64) (c4 : Int64) (K133 : Int32 → Int32 → gW → gX Int32) : Nat → Int32 → Int32 → Int32 → gW → gX Int32
  | 0, _, _, _, _ => none
  | n + 1, z6, z7, z8, w => (gfA w c0 7 21).bind fun v7 => (gaI w v7 c1).bind fun v9 => if v9 ≤ z8 then (K133 z6 z7 w) else ((gfA w c0 7 21).bind fun v12 => (gaI w v12 c1).bind fun v14 => gguard (¬ v14 = 0) ((gfA w c0 7 22).bind fun v17 => (gaJ w v17 ((8 * c1) + z8)).bind fun v19 => (gfA w c0 7 23).bind fun v21 => (gaJ w v21 ((8 * c1) + z8)).bind fun v23 => (gfA w c0 7 22).bind fun v25 => (gaJ w v25 ((8 * c1) + ((z8 + 1) - (z8 + 1) / v14 * v14))).bind fun v27 => (gfA w c0 7 23).bind fun v29 => (gaJ w v29 ((8 * c1) + ((z8 + 1) - (z8 + 1) / v14 * v14))).bind fun v31 => gbind (f_M_cross g0 v19 v23 v27 v31 c2 c4 w) fun v35 w => gjoin (fun K106 => gjoin (fun K101 => if z6 = 0 then (if v35 ≤ 0 then (K106 0 w) else (K101 w)) else (K101 w)) (fun (w : gW) => K106 1 w)) (fun (y36 : Int32) (w : gW) => gjoin (fun K125 => gjoin (fun K120 => if z7 = 0 then (if 0 ≤ v35 then (K125 0 w) else (K120 w)) else (K120 w)) (fun (w : gW) => K125 1 w)) (fun (y37 : Int32) (w : gW) => f_M_isIn_L9 g0 c0 c1 c2 c4 K133 n y36 y37 (z8 + 1) w))))
def f_M_isIn (g0 : gG) (a0 : Nat) (p1 : Int32) (p2 : Int64) (p3 : Int64) (w : gW) : gX Int32 := gjoin (fun K133 => f_M_isIn_L9 g0 a0 p1 p2 p3 K133 64 0 0 0 w) (fun (x1 : Int32) (x2 : Int32) (w : gW) => gjoin (fun K148 => gjoin (fun K143 => if x1 = 0 then (K143 w) else (if x2 = 0 then (K143 w) else (K148 0 w))) (fun (w : gW) => K148 1 w)) (fun (y3 : Int32) (w : gW) => gguard (y3 = 0 ∨ y3 = 1) (some (.inr y3, w))))
set_option maxHeartbeats 4000000 in
set_option maxRecDepth 100000 in
theorem m_M_isIn (l : Launch) (hst : l.stackTraces = false) (D : gD) (g0 : gG) (a0 : Nat) (p1 : Int32) (p2 : Int64) (p3 : Int64) (w : gW) (r : (String ⊕ Int32) × gW) (h : f_M_isIn g0 a0 p1 p2 p3 w = some r) : gMet l y_M_isIn (.code y_M_isIn b_M_isIn 12 (some .boolean)) rm_M_isIn D g0 [.ref a0, .int p1, .long p2, .long p3] w (goI r) := by
  refine gw_ofZ (by decide +kernel) (Nat.le_of_ble_eq_true rfl) ?_
  intro p e s m below meth c ls args A Q hx hb hml hown hlocks hin hnt hT hK hZ hA hret hexc hthr hI hl
  obtain ⟨H, hH⟩ : ∃ H, H = s.heap := ⟨_, rfl⟩
  rw [← hH] at hI ⊢
  obtain ⟨locs, hlocs⟩ : ∃ z : List Loc, z = [] := ⟨_, rfl⟩
  rw [← hlocs] at hI ⊢
  have hl : lv_has ls 12 [(0, .ref a0), (1, .int p1), (2, .long p2), (4, .long p3)] := hl
  unfold f_M_isIn at h
  refine lv_iconst (v := 0) hx hb d_M_isIn_0 (by decide) ?_
  refine lv_istore (lv' := [(6, .int 0), (0, .ref a0), (1, .int p1), (2, .long p2), (4, .long p3)]) hx hb d_M_isIn_1 hl (by decide) rfl (fun ls hl => ?_)
  refine lv_iconst (v := 0) hx hb d_M_isIn_3 (by decide) ?_
  refine lv_istore (lv' := [(7, .int 0), (6, .int 0), (0, .ref a0), (1, .int p1), (2, .long p2), (4, .long p3)]) hx hb d_M_isIn_4 hl (by decide) rfl (fun ls hl => ?_)
  refine lv_iconst (v := 0) hx hb d_M_isIn_6 (by decide) ?_
  refine lv_istore (lv' := [(8, .int 0), (7, .int 0), (6, .int 0), (0, .ref a0), (1, .int p1), (2, .long p2), (4, .long p3)]) hx hb d_M_isIn_7 hl (by decide) rfl (fun ls hl => ?_)
  obtain ⟨K133, eK133, h⟩ := gj h
  have hK133 : ∀ (x1 : Int32) (x2 : Int32) (w : gW) (H : Heap) (locs : List Loc) (ls : Array Slot), K133 x1 x2 w = some r → gI D s A w H locs → lv_has ls 12 [(6, .int x1), (7, .int x2)] → W p l e rm_M_isIn s m args below meth c H locs 0 0 Q (F0 m 133 ls []) := by
    intro x1 x2 w H locs ls h hI hl
    have h := gk3 eK133 h
    refine lv_iload hx hb d_M_isIn_133 (lv_at hl 0 rfl) ?_
    obtain ⟨K148, eK148, h⟩ := gj h
    have hK148 : ∀ (y3 : Int32) (w : gW) (H : Heap) (locs : List Loc) (ls : Array Slot), K148 y3 w = some r → gI D s A w H locs → lv_has ls 12 [] → W p l e rm_M_isIn s m args below meth c H locs 0 0 Q (F0 m 148 ls [.int y3]) := by
      intro y3 w H locs ls h hI hl
      have h := gk2 eK148 h
      obtain ⟨g4, h⟩ := gif h
      exact W.widen (show 0 ≤ 0 by omega) (show 0 ≤ 0 by omega) (hret g4 0 _ (Option.some.inj h).symm _ _ _ _ d_M_isIn_148 hI)
    obtain ⟨K143, eK143, h⟩ := gj h
    have hK143 : ∀ (w : gW) (H : Heap) (locs : List Loc) (ls : Array Slot), K143 w = some r → gI D s A w H locs → lv_has ls 12 [] → W p l e rm_M_isIn s m args below meth c H locs 0 0 Q (F0 m 143 ls []) := by
      intro w H locs ls h hI hl
      have h := gk1 eK143 h
      refine lv_iconst (v := 1) hx hb d_M_isIn_143 (by decide) ?_
      refine lv_goto (tgt := 148) hx hb d_M_isIn_144 (by decide) ?_
      exact hK148 _ w H locs ls h hI (lv_sub hl [] rfl)
    refine lv_if_eq (tgt := 143) hx hb d_M_isIn_135 (by decide) (fun c5 => ?_) (fun c5 => ?_)
    · skip
      have h := git c5 h
      exact hK143 w H locs ls h hI (lv_sub hl [] rfl)
    · skip
      have h := gie c5 h
      refine lv_iload hx hb d_M_isIn_138 (lv_at hl 1 rfl) ?_
      refine lv_if_ne (tgt := 147) hx hb d_M_isIn_140 (by decide) (fun c6 => ?_) (fun c6 => ?_)
      · skip
        have h := gie c6 h
        refine lv_iconst (v := 0) hx hb d_M_isIn_147 (by decide) ?_
        exact hK148 _ w H locs ls h hI (lv_sub hl [] rfl)
      · skip
        have h := git c6 h
        exact hK143 w H locs ls h hI (lv_sub hl [] rfl)
  have hL9 : ∀ (n : Nat), ∀ (z7 : Int32) (z8 : Int32) (z9 : Int32) (w : gW) (H : Heap) (locs : List Loc) (ls : Array Slot), f_M_isIn_L9 g0 a0 p1 p2 p3 K133 n z7 z8 z9 w = some r → gI D s A w H locs → lv_has ls 12 [(0, .ref a0), (1, .int p1), (2, .long p2), (4, .long p3), (6, .int z7), (7, .int z8), (8, .int z9)] → W p l e rm_M_isIn s m args below meth c H locs 0 0 Q (F0 m 9 ls []) := by
    intro n
    induction n with
    | zero => intro z7 z8 z9 w H locs ls h hI hl; exact absurd h (by simp [f_M_isIn_L9])
    | succ n ih =>
      intro z7 z8 z9 w H locs ls h hI hl
      rw [f_M_isIn_L9] at h
      refine lv_iload hx hb d_M_isIn_9 (lv_at hl 6 rfl) ?_
      refine lv_aload_n hx hb d_M_isIn_11 rfl (lv_at hl 0 rfl) ?_
      obtain ⟨v10, e11, h⟩ := gb h
      refine gw_getA hx hb hT hown hK hI (ci := 7) rfl i_7 21 (by decide) wd_807 (fun _ h9 => h9) e11 d_M_isIn_12 ?_
      refine lv_iload_n hx hb d_M_isIn_15 rfl (lv_at hl 1 rfl) ?_
      obtain ⟨v12, e13, h⟩ := gb h
      refine gw_aldI hx hb hK hI e13 d_M_isIn_16 ?_
      refine lv_icmp_ge (tgt := 133) hx hb d_M_isIn_17 (by decide) (fun c14 => ?_) (fun c14 => ?_)
      · skip
        have h := git c14 h
        exact hK133 _ _ w H locs ls h hI (lv_sub hl [4, 5] rfl)
      · skip
        have h := gie c14 h
        refine lv_iload hx hb d_M_isIn_20 (lv_at hl 6 rfl) ?_
        refine lv_iconst (v := 1) hx hb d_M_isIn_22 (by decide) ?_
        refine lv_iadd hx hb d_M_isIn_23 ?_
        refine lv_aload_n hx hb d_M_isIn_24 rfl (lv_at hl 0 rfl) ?_
        obtain ⟨v15, e16, h⟩ := gb h
        refine gw_getA hx hb hT hown hK hI (ci := 7) rfl i_7 21 (by decide) wd_807 (fun _ h9 => h9) e16 d_M_isIn_25 ?_
        refine lv_iload_n hx hb d_M_isIn_28 rfl (lv_at hl 1 rfl) ?_
        obtain ⟨v17, e18, h⟩ := gb h
        refine gw_aldI hx hb hK hI e18 d_M_isIn_29 ?_
        obtain ⟨g19, h⟩ := gif h
        refine lv_irem hx hb d_M_isIn_30 g19 ?_
        refine lv_istore (lv' := [(9, .int ((z9 + 1) - (z9 + 1) / v17 * v17)), (0, .ref a0), (1, .int p1), (2, .long p2), (4, .long p3), (6, .int z7), (7, .int z8), (8, .int z9)]) hx hb d_M_isIn_31 hl (by decide) rfl (fun ls hl => ?_)
        refine lv_aload_n hx hb d_M_isIn_33 rfl (lv_at hl 1 rfl) ?_
        obtain ⟨v20, e21, h⟩ := gb h
        refine gw_getA hx hb hT hown hK hI (ci := 7) rfl i_7 22 (by decide) wd_808 (fun _ h9 => h9) e21 d_M_isIn_34 ?_
        refine lv_bipush (v := 8) hx hb d_M_isIn_37 (by decide) ?_
        refine lv_iload_n hx hb d_M_isIn_39 rfl (lv_at hl 2 rfl) ?_
        refine lv_imul hx hb d_M_isIn_40 ?_
        refine lv_iload hx hb d_M_isIn_41 (lv_at hl 7 rfl) ?_
        refine lv_iadd hx hb d_M_isIn_43 ?_
        obtain ⟨v22, e23, h⟩ := gb h
        refine gw_aldJ hx hb hK hI e23 d_M_isIn_44 ?_
        refine lv_aload_n hx hb d_M_isIn_45 rfl (lv_at hl 1 rfl) ?_
        obtain ⟨v24, e25, h⟩ := gb h
        refine gw_getA hx hb hT hown hK hI (ci := 7) rfl i_7 23 (by decide) wd_809 (fun _ h9 => h9) e25 d_M_isIn_46 ?_
        refine lv_bipush (v := 8) hx hb d_M_isIn_49 (by decide) ?_
        refine lv_iload_n hx hb d_M_isIn_51 rfl (lv_at hl 2 rfl) ?_
        refine lv_imul hx hb d_M_isIn_52 ?_
        refine lv_iload hx hb d_M_isIn_53 (lv_at hl 7 rfl) ?_
        refine lv_iadd hx hb d_M_isIn_55 ?_
        obtain ⟨v26, e27, h⟩ := gb h
        refine gw_aldJ hx hb hK hI e27 d_M_isIn_56 ?_
        refine lv_aload_n hx hb d_M_isIn_57 rfl (lv_at hl 1 rfl) ?_
        obtain ⟨v28, e29, h⟩ := gb h
        refine gw_getA hx hb hT hown hK hI (ci := 7) rfl i_7 22 (by decide) wd_808 (fun _ h9 => h9) e29 d_M_isIn_58 ?_
        refine lv_bipush (v := 8) hx hb d_M_isIn_61 (by decide) ?_
        refine lv_iload_n hx hb d_M_isIn_63 rfl (lv_at hl 2 rfl) ?_
        refine lv_imul hx hb d_M_isIn_64 ?_
        refine lv_iload hx hb d_M_isIn_65 (lv_at hl 0 rfl) ?_
        refine lv_iadd hx hb d_M_isIn_67 ?_
        obtain ⟨v30, e31, h⟩ := gb h
        refine gw_aldJ hx hb hK hI e31 d_M_isIn_68 ?_
        refine lv_aload_n hx hb d_M_isIn_69 rfl (lv_at hl 1 rfl) ?_
        obtain ⟨v32, e33, h⟩ := gb h
        refine gw_getA hx hb hT hown hK hI (ci := 7) rfl i_7 23 (by decide) wd_809 (fun _ h9 => h9) e33 d_M_isIn_70 ?_
        refine lv_bipush (v := 8) hx hb d_M_isIn_73 (by decide) ?_
        refine lv_iload_n hx hb d_M_isIn_75 rfl (lv_at hl 2 rfl) ?_
        refine lv_imul hx hb d_M_isIn_76 ?_
        refine lv_iload hx hb d_M_isIn_77 (lv_at hl 0 rfl) ?_
        refine lv_iadd hx hb d_M_isIn_79 ?_
        obtain ⟨v34, e35, h⟩ := gb h
        refine gw_aldJ hx hb hK hI e35 d_M_isIn_80 ?_
        refine lv_lload_n hx hb d_M_isIn_81 rfl (lv_at hl 3 rfl) ?_
        refine lv_lload hx hb d_M_isIn_82 (lv_at hl 4 rfl) ?_
        obtain ⟨u36, e37⟩ := gsome h
        refine gw_callJ e37 h (gw_runS (As := [.long v22, .long v26, .long v30, .long v34, .long p2, .long p3]) (rest := []) hx hb hml hown hT hK hZ hA hI (m_M_cross l hst D g0 v22 v26 v30 v34 p2 p3 w u36 e37) ce_M_cross wd_922 ⟨by decide, by decide⟩ rfl rfl hl.1 rfl (lv_room (Nat.le_of_ble_eq_true rfl)) d_M_isIn_84 ⟨(show 0 + 0 ≤ 0 by omega), (show 0 + 0 ≤ 0 by omega)⟩) hI hA hexc (show 0 + 0 ≤ 0 by omega) (show 0 + 0 ≤ 0 by omega) (fun v38 w H locs h hI => ?_)
        refine lv_lstore (lv' := [(10, .long v38), (9, .int ((z9 + 1) - (z9 + 1) / v17 * v17)), (0, .ref a0), (1, .int p1), (2, .long p2), (4, .long p3), (6, .int z7), (7, .int z8), (8, .int z9)]) hx hb d_M_isIn_87 hl (by decide) rfl (fun ls hl => ?_)
        refine lv_iload hx hb d_M_isIn_89 (lv_at hl 6 rfl) ?_
        obtain ⟨K106, eK106, h⟩ := gj h
        have hK106 : ∀ (y39 : Int32) (w : gW) (H : Heap) (locs : List Loc) (ls : Array Slot), K106 y39 w = some r → gI D s A w H locs → lv_has ls 12 [(0, .ref a0), (1, .int p1), (2, .long p2), (4, .long p3), (7, .int z8), (8, .int z9), (10, .long v38)] → W p l e rm_M_isIn s m args below meth c H locs 0 0 Q (F0 m 106 ls [.int y39]) := by
          intro y39 w H locs ls h hI hl
          have h := gk2 eK106 h
          refine lv_istore (lv' := [(6, .int y39), (0, .ref a0), (1, .int p1), (2, .long p2), (4, .long p3), (7, .int z8), (8, .int z9), (10, .long v38)]) hx hb d_M_isIn_106 hl (by decide) rfl (fun ls hl => ?_)
          refine lv_iload hx hb d_M_isIn_108 (lv_at hl 5 rfl) ?_
          obtain ⟨K125, eK125, h⟩ := gj h
          have hK125 : ∀ (y40 : Int32) (w : gW) (H : Heap) (locs : List Loc) (ls : Array Slot), K125 y40 w = some r → gI D s A w H locs → lv_has ls 12 [(0, .ref a0), (1, .int p1), (2, .long p2), (4, .long p3), (6, .int y39), (8, .int z9)] → W p l e rm_M_isIn s m args below meth c H locs 0 0 Q (F0 m 125 ls [.int y40]) := by
            intro y40 w H locs ls h hI hl
            have h := gk2 eK125 h
            refine lv_istore (lv' := [(7, .int y40), (0, .ref a0), (1, .int p1), (2, .long p2), (4, .long p3), (6, .int y39), (8, .int z9)]) hx hb d_M_isIn_125 hl (by decide) rfl (fun ls hl => ?_)
            refine lv_iinc (v := z9 + 1) (lv' := [(8, .int (z9 + 1)), (7, .int y40), (0, .ref a0), (1, .int p1), (2, .long p2), (4, .long p3), (6, .int y39)]) hx hb d_M_isIn_127 hl (k := 6) rfl rfl (by decide) rfl (fun ls hl => ?_)
            refine lv_goto (tgt := 9) hx hb d_M_isIn_130 (by decide) ?_
            exact ih _ _ _ w H locs ls h hI (lv_sub hl [2, 3, 4, 5, 6, 1, 0] rfl)
          obtain ⟨K120, eK120, h⟩ := gj h
          have hK120 : ∀ (w : gW) (H : Heap) (locs : List Loc) (ls : Array Slot), K120 w = some r → gI D s A w H locs → lv_has ls 12 [(0, .ref a0), (1, .int p1), (2, .long p2), (4, .long p3), (6, .int y39), (8, .int z9)] → W p l e rm_M_isIn s m args below meth c H locs 0 0 Q (F0 m 120 ls []) := by
            intro w H locs ls h hI hl
            have h := gk1 eK120 h
            refine lv_iconst (v := 1) hx hb d_M_isIn_120 (by decide) ?_
            refine lv_goto (tgt := 125) hx hb d_M_isIn_121 (by decide) ?_
            exact hK125 _ w H locs ls h hI (lv_sub hl [0, 1, 2, 3, 4, 5] rfl)
          refine lv_if_ne (tgt := 120) hx hb d_M_isIn_110 (by decide) (fun c41 => ?_) (fun c41 => ?_)
          · skip
            have h := gie c41 h
            exact hK120 w H locs ls h hI (lv_sub hl [1, 2, 3, 4, 0, 6] rfl)
          · skip
            have h := git c41 h
            refine lv_lload hx hb d_M_isIn_113 (lv_at hl 7 rfl) ?_
            refine lv_lconst (v := 0) hx hb d_M_isIn_115 (by decide) ?_
            refine W.lcmp hx hb d_M_isIn_116 ?_
            refine lv_if_ge (tgt := 124) hx hb d_M_isIn_117 (by decide) (fun c42 => ?_) (fun c42 => ?_)
            · have c42 := (lg_cmp_ge _ _).mp c42
              have h := git c42 h
              refine lv_iconst (v := 0) hx hb d_M_isIn_124 (by decide) ?_
              exact hK125 _ w H locs ls h hI (lv_sub hl [1, 2, 3, 4, 0, 6] rfl)
            · have c42 := mt (lg_cmp_ge _ _).mpr c42
              have h := gie c42 h
              exact hK120 w H locs ls h hI (lv_sub hl [1, 2, 3, 4, 0, 6] rfl)
        obtain ⟨K101, eK101, h⟩ := gj h
        have hK101 : ∀ (w : gW) (H : Heap) (locs : List Loc) (ls : Array Slot), K101 w = some r → gI D s A w H locs → lv_has ls 12 [(0, .ref a0), (1, .int p1), (2, .long p2), (4, .long p3), (7, .int z8), (8, .int z9), (10, .long v38)] → W p l e rm_M_isIn s m args below meth c H locs 0 0 Q (F0 m 101 ls []) := by
          intro w H locs ls h hI hl
          have h := gk1 eK101 h
          refine lv_iconst (v := 1) hx hb d_M_isIn_101 (by decide) ?_
          refine lv_goto (tgt := 106) hx hb d_M_isIn_102 (by decide) ?_
          exact hK106 _ w H locs ls h hI (lv_sub hl [0, 1, 2, 3, 4, 5, 6] rfl)
        refine lv_if_ne (tgt := 101) hx hb d_M_isIn_91 (by decide) (fun c43 => ?_) (fun c43 => ?_)
        · skip
          have h := gie c43 h
          exact hK101 w H locs ls h hI (lv_sub hl [2, 3, 4, 5, 7, 8, 0] rfl)
        · skip
          have h := git c43 h
          refine lv_lload hx hb d_M_isIn_94 (lv_at hl 0 rfl) ?_
          refine lv_lconst (v := 0) hx hb d_M_isIn_96 (by decide) ?_
          refine W.lcmp hx hb d_M_isIn_97 ?_
          refine lv_if_le (tgt := 105) hx hb d_M_isIn_98 (by decide) (fun c44 => ?_) (fun c44 => ?_)
          · have c44 := (lg_cmp_le _ _).mp c44
            have h := git c44 h
            refine lv_iconst (v := 0) hx hb d_M_isIn_105 (by decide) ?_
            exact hK106 _ w H locs ls h hI (lv_sub hl [2, 3, 4, 5, 7, 8, 0] rfl)
          · have c44 := mt (lg_cmp_le _ _).mpr c44
            have h := gie c44 h
            exact hK101 w H locs ls h hI (lv_sub hl [2, 3, 4, 5, 7, 8, 0] rfl)
  exact hL9 64 _ _ _ w H locs ls h hI (lv_sub hl [3, 4, 5, 6, 2, 1, 0] rfl)

abbrev b_M_square : ByteArray := prog_9_method_35_code
def y_M_square : MethodName := ⟨"BodySolidsModel", "square", "(JJ)J"⟩
theorem d_M_square_0 : decode b_M_square 0 = .ok (.lload_n 0, 1) := by decide +kernel
theorem d_M_square_1 : decode b_M_square 1 = .ok (.lload_n 0, 1) := by decide +kernel
theorem d_M_square_2 : decode b_M_square 2 = .ok (.lmul, 1) := by decide +kernel
theorem d_M_square_3 : decode b_M_square 3 = .ok (.lload_n 2, 1) := by decide +kernel
theorem d_M_square_4 : decode b_M_square 4 = .ok (.lload_n 2, 1) := by decide +kernel
theorem d_M_square_5 : decode b_M_square 5 = .ok (.lmul, 1) := by decide +kernel
theorem d_M_square_6 : decode b_M_square 6 = .ok (.ladd, 1) := by decide +kernel
theorem d_M_square_7 : decode b_M_square 7 = .ok (.lreturn, 1) := by decide +kernel
abbrev rm_M_square : Room := { frames := 0, cells := 0, slots := 0, locals := 0 }
theorem ce_M_square : gCe y_M_square (.code y_M_square b_M_square 4 (some .long)) 4 2 true := gCe.code wd_1027 wd_57 wd_1026 (by decide) (by decide +kernel)
def f_M_square (g0 : gG) (p0 : Int64) (p1 : Int64) (w : gW) : gX Int64 := some (.inr ((p0 * p0) + (p1 * p1)), w)
set_option maxHeartbeats 4000000 in
set_option maxRecDepth 100000 in
theorem m_M_square (l : Launch) (hst : l.stackTraces = false) (D : gD) (g0 : gG) (p0 : Int64) (p1 : Int64) (w : gW) (r : (String ⊕ Int64) × gW) (h : f_M_square g0 p0 p1 w = some r) : gMet l y_M_square (.code y_M_square b_M_square 4 (some .long)) rm_M_square D g0 [.long p0, .long p1] w (goJ r) := by
  refine gw_ofJ (by decide +kernel) (Nat.le_of_ble_eq_true rfl) ?_
  intro p e s m below meth c ls args A Q hx hb hml hown hlocks hin hnt hT hK hZ hA hret hexc hthr hI hl
  obtain ⟨H, hH⟩ : ∃ H, H = s.heap := ⟨_, rfl⟩
  rw [← hH] at hI ⊢
  obtain ⟨locs, hlocs⟩ : ∃ z : List Loc, z = [] := ⟨_, rfl⟩
  rw [← hlocs] at hI ⊢
  have hl : lv_has ls 4 [(0, .long p0), (2, .long p1)] := hl
  unfold f_M_square at h
  refine lv_lload_n hx hb d_M_square_0 rfl (lv_at hl 0 rfl) ?_
  refine lv_lload_n hx hb d_M_square_1 rfl (lv_at hl 0 rfl) ?_
  refine lv_lmul hx hb d_M_square_2 ?_
  refine lv_lload_n hx hb d_M_square_3 rfl (lv_at hl 1 rfl) ?_
  refine lv_lload_n hx hb d_M_square_4 rfl (lv_at hl 1 rfl) ?_
  refine lv_lmul hx hb d_M_square_5 ?_
  refine lv_ladd hx hb d_M_square_6 ?_
  exact W.widen (show 0 ≤ 0 by omega) (show 0 ≤ 0 by omega) (hret _ _ (Option.some.inj h).symm _ _ _ _ d_M_square_7 hI)

abbrev b_M_fromPiece : ByteArray := prog_9_method_39_code
def y_M_fromPiece : MethodName := ⟨"BodySolidsModel", "fromPiece", "(JJJJJJJ)I"⟩
theorem d_M_fromPiece_0 : decode b_M_fromPiece 0 = .ok (.lload_n 0, 1) := by decide +kernel
theorem d_M_fromPiece_1 : decode b_M_fromPiece 1 = .ok (.lload 4, 2) := by decide +kernel
theorem d_M_fromPiece_3 : decode b_M_fromPiece 3 = .ok (.lsub, 1) := by decide +kernel
theorem d_M_fromPiece_4 : decode b_M_fromPiece 4 = .ok (.lload 8, 2) := by decide +kernel
theorem d_M_fromPiece_6 : decode b_M_fromPiece 6 = .ok (.lload 4, 2) := by decide +kernel
theorem d_M_fromPiece_8 : decode b_M_fromPiece 8 = .ok (.lsub, 1) := by decide +kernel
theorem d_M_fromPiece_9 : decode b_M_fromPiece 9 = .ok (.lmul, 1) := by decide +kernel
theorem d_M_fromPiece_10 : decode b_M_fromPiece 10 = .ok (.lload_n 2, 1) := by decide +kernel
theorem d_M_fromPiece_11 : decode b_M_fromPiece 11 = .ok (.lload 6, 2) := by decide +kernel
theorem d_M_fromPiece_13 : decode b_M_fromPiece 13 = .ok (.lsub, 1) := by decide +kernel
theorem d_M_fromPiece_14 : decode b_M_fromPiece 14 = .ok (.lload 10, 2) := by decide +kernel
theorem d_M_fromPiece_16 : decode b_M_fromPiece 16 = .ok (.lload 6, 2) := by decide +kernel
theorem d_M_fromPiece_18 : decode b_M_fromPiece 18 = .ok (.lsub, 1) := by decide +kernel
theorem d_M_fromPiece_19 : decode b_M_fromPiece 19 = .ok (.lmul, 1) := by decide +kernel
theorem d_M_fromPiece_20 : decode b_M_fromPiece 20 = .ok (.ladd, 1) := by decide +kernel
theorem d_M_fromPiece_21 : decode b_M_fromPiece 21 = .ok (.lstore 14, 2) := by decide +kernel
theorem d_M_fromPiece_23 : decode b_M_fromPiece 23 = .ok (.lload 8, 2) := by decide +kernel
theorem d_M_fromPiece_25 : decode b_M_fromPiece 25 = .ok (.lload 4, 2) := by decide +kernel
theorem d_M_fromPiece_27 : decode b_M_fromPiece 27 = .ok (.lsub, 1) := by decide +kernel
theorem d_M_fromPiece_28 : decode b_M_fromPiece 28 = .ok (.lload 10, 2) := by decide +kernel
theorem d_M_fromPiece_30 : decode b_M_fromPiece 30 = .ok (.lload 6, 2) := by decide +kernel
theorem d_M_fromPiece_32 : decode b_M_fromPiece 32 = .ok (.lsub, 1) := by decide +kernel
theorem d_M_fromPiece_33 : decode b_M_fromPiece 33 = .ok (.invokestatic 194, 3) := by decide +kernel
theorem d_M_fromPiece_36 : decode b_M_fromPiece 36 = .ok (.lstore 16, 2) := by decide +kernel
theorem d_M_fromPiece_38 : decode b_M_fromPiece 38 = .ok (.lload 14, 2) := by decide +kernel
theorem d_M_fromPiece_40 : decode b_M_fromPiece 40 = .ok (.lconst 0, 1) := by decide +kernel
theorem d_M_fromPiece_41 : decode b_M_fromPiece 41 = .ok (.lcmp, 1) := by decide +kernel
theorem d_M_fromPiece_42 : decode b_M_fromPiece 42 = .ok (.ifCond .gt 21, 3) := by decide +kernel
theorem d_M_fromPiece_45 : decode b_M_fromPiece 45 = .ok (.lload_n 0, 1) := by decide +kernel
theorem d_M_fromPiece_46 : decode b_M_fromPiece 46 = .ok (.lload 4, 2) := by decide +kernel
theorem d_M_fromPiece_48 : decode b_M_fromPiece 48 = .ok (.lsub, 1) := by decide +kernel
theorem d_M_fromPiece_49 : decode b_M_fromPiece 49 = .ok (.lload_n 2, 1) := by decide +kernel
theorem d_M_fromPiece_50 : decode b_M_fromPiece 50 = .ok (.lload 6, 2) := by decide +kernel
theorem d_M_fromPiece_52 : decode b_M_fromPiece 52 = .ok (.lsub, 1) := by decide +kernel
theorem d_M_fromPiece_53 : decode b_M_fromPiece 53 = .ok (.invokestatic 194, 3) := by decide +kernel
theorem d_M_fromPiece_56 : decode b_M_fromPiece 56 = .ok (.lload 12, 2) := by decide +kernel
theorem d_M_fromPiece_58 : decode b_M_fromPiece 58 = .ok (.lsub, 1) := by decide +kernel
theorem d_M_fromPiece_59 : decode b_M_fromPiece 59 = .ok (.invokestatic 186, 3) := by decide +kernel
theorem d_M_fromPiece_62 : decode b_M_fromPiece 62 = .ok (.ireturn, 1) := by decide +kernel
theorem d_M_fromPiece_63 : decode b_M_fromPiece 63 = .ok (.lload 14, 2) := by decide +kernel
theorem d_M_fromPiece_65 : decode b_M_fromPiece 65 = .ok (.lload 16, 2) := by decide +kernel
theorem d_M_fromPiece_67 : decode b_M_fromPiece 67 = .ok (.lcmp, 1) := by decide +kernel
theorem d_M_fromPiece_68 : decode b_M_fromPiece 68 = .ok (.ifCond .lt 21, 3) := by decide +kernel
theorem d_M_fromPiece_71 : decode b_M_fromPiece 71 = .ok (.lload_n 0, 1) := by decide +kernel
theorem d_M_fromPiece_72 : decode b_M_fromPiece 72 = .ok (.lload 8, 2) := by decide +kernel
theorem d_M_fromPiece_74 : decode b_M_fromPiece 74 = .ok (.lsub, 1) := by decide +kernel
theorem d_M_fromPiece_75 : decode b_M_fromPiece 75 = .ok (.lload_n 2, 1) := by decide +kernel
theorem d_M_fromPiece_76 : decode b_M_fromPiece 76 = .ok (.lload 10, 2) := by decide +kernel
theorem d_M_fromPiece_78 : decode b_M_fromPiece 78 = .ok (.lsub, 1) := by decide +kernel
theorem d_M_fromPiece_79 : decode b_M_fromPiece 79 = .ok (.invokestatic 194, 3) := by decide +kernel
theorem d_M_fromPiece_82 : decode b_M_fromPiece 82 = .ok (.lload 12, 2) := by decide +kernel
theorem d_M_fromPiece_84 : decode b_M_fromPiece 84 = .ok (.lsub, 1) := by decide +kernel
theorem d_M_fromPiece_85 : decode b_M_fromPiece 85 = .ok (.invokestatic 186, 3) := by decide +kernel
theorem d_M_fromPiece_88 : decode b_M_fromPiece 88 = .ok (.ireturn, 1) := by decide +kernel
theorem d_M_fromPiece_89 : decode b_M_fromPiece 89 = .ok (.lload 4, 2) := by decide +kernel
theorem d_M_fromPiece_91 : decode b_M_fromPiece 91 = .ok (.lload 6, 2) := by decide +kernel
theorem d_M_fromPiece_93 : decode b_M_fromPiece 93 = .ok (.lload 8, 2) := by decide +kernel
theorem d_M_fromPiece_95 : decode b_M_fromPiece 95 = .ok (.lload 10, 2) := by decide +kernel
theorem d_M_fromPiece_97 : decode b_M_fromPiece 97 = .ok (.lload_n 0, 1) := by decide +kernel
theorem d_M_fromPiece_98 : decode b_M_fromPiece 98 = .ok (.lload_n 2, 1) := by decide +kernel
theorem d_M_fromPiece_99 : decode b_M_fromPiece 99 = .ok (.invokestatic 124, 3) := by decide +kernel
theorem d_M_fromPiece_102 : decode b_M_fromPiece 102 = .ok (.lstore 18, 2) := by decide +kernel
theorem d_M_fromPiece_104 : decode b_M_fromPiece 104 = .ok (.lload 18, 2) := by decide +kernel
theorem d_M_fromPiece_106 : decode b_M_fromPiece 106 = .ok (.lload 18, 2) := by decide +kernel
theorem d_M_fromPiece_108 : decode b_M_fromPiece 108 = .ok (.lmul, 1) := by decide +kernel
theorem d_M_fromPiece_109 : decode b_M_fromPiece 109 = .ok (.lload 12, 2) := by decide +kernel
theorem d_M_fromPiece_111 : decode b_M_fromPiece 111 = .ok (.lload 16, 2) := by decide +kernel
theorem d_M_fromPiece_113 : decode b_M_fromPiece 113 = .ok (.lmul, 1) := by decide +kernel
theorem d_M_fromPiece_114 : decode b_M_fromPiece 114 = .ok (.lsub, 1) := by decide +kernel
theorem d_M_fromPiece_115 : decode b_M_fromPiece 115 = .ok (.invokestatic 186, 3) := by decide +kernel
theorem d_M_fromPiece_118 : decode b_M_fromPiece 118 = .ok (.ireturn, 1) := by decide +kernel
abbrev rm_M_fromPiece : Room := { frames := 1, cells := 0, slots := 0, locals := 31 }
theorem ce_M_fromPiece : gCe y_M_fromPiece (.code y_M_fromPiece b_M_fromPiece 20 (some .int)) 20 7 true := gCe.code wd_1050 wd_57 wd_1049 (by decide) (by decide +kernel)
def f_M_fromPiece (g0 : gG) (p0 : Int64) (p1 : Int64) (p2 : Int64) (p3 : Int64) (p4 : Int64) (p5 : Int64) (p6 : Int64) (w : gW) : gX Int32 := gbind (f_M_square g0 (p4 - p2) (p5 - p3) w) fun v3 w => if 0 < (((p0 - p2) * (p4 - p2)) + ((p1 - p3) * (p5 - p3))) then (if (((p0 - p2) * (p4 - p2)) + ((p1 - p3) * (p5 - p3))) < v3 then (gbind (f_M_cross g0 p2 p3 p4 p5 p0 p1 w) fun v8 w => gbind (f_M_common g0 ((v8 * v8) - (p6 * v3)) w) fun v11 w => some (.inr v11, w)) else (gbind (f_M_square g0 (p0 - p4) (p1 - p5) w) fun v14 w => gbind (f_M_common g0 (v14 - p6) w) fun v17 w => some (.inr v17, w))) else (gbind (f_M_square g0 (p0 - p2) (p1 - p3) w) fun v20 w => gbind (f_M_common g0 (v20 - p6) w) fun v23 w => some (.inr v23, w))
set_option maxHeartbeats 4000000 in
set_option maxRecDepth 100000 in
theorem m_M_fromPiece (l : Launch) (hst : l.stackTraces = false) (D : gD) (g0 : gG) (p0 : Int64) (p1 : Int64) (p2 : Int64) (p3 : Int64) (p4 : Int64) (p5 : Int64) (p6 : Int64) (w : gW) (r : (String ⊕ Int32) × gW) (h : f_M_fromPiece g0 p0 p1 p2 p3 p4 p5 p6 w = some r) : gMet l y_M_fromPiece (.code y_M_fromPiece b_M_fromPiece 20 (some .int)) rm_M_fromPiece D g0 [.long p0, .long p1, .long p2, .long p3, .long p4, .long p5, .long p6] w (goI r) := by
  refine gw_ofI (by decide +kernel) (Nat.le_of_ble_eq_true rfl) ?_
  intro p e s m below meth c ls args A Q hx hb hml hown hlocks hin hnt hT hK hZ hA hret hexc hthr hI hl
  obtain ⟨H, hH⟩ : ∃ H, H = s.heap := ⟨_, rfl⟩
  rw [← hH] at hI ⊢
  obtain ⟨locs, hlocs⟩ : ∃ z : List Loc, z = [] := ⟨_, rfl⟩
  rw [← hlocs] at hI ⊢
  have hl : lv_has ls 20 [(0, .long p0), (2, .long p1), (4, .long p2), (6, .long p3), (8, .long p4), (10, .long p5), (12, .long p6)] := hl
  unfold f_M_fromPiece at h
  refine lv_lload_n hx hb d_M_fromPiece_0 rfl (lv_at hl 0 rfl) ?_
  refine lv_lload hx hb d_M_fromPiece_1 (lv_at hl 2 rfl) ?_
  refine lv_lsub hx hb d_M_fromPiece_3 ?_
  refine lv_lload hx hb d_M_fromPiece_4 (lv_at hl 4 rfl) ?_
  refine lv_lload hx hb d_M_fromPiece_6 (lv_at hl 2 rfl) ?_
  refine lv_lsub hx hb d_M_fromPiece_8 ?_
  refine lv_lmul hx hb d_M_fromPiece_9 ?_
  refine lv_lload_n hx hb d_M_fromPiece_10 rfl (lv_at hl 1 rfl) ?_
  refine lv_lload hx hb d_M_fromPiece_11 (lv_at hl 3 rfl) ?_
  refine lv_lsub hx hb d_M_fromPiece_13 ?_
  refine lv_lload hx hb d_M_fromPiece_14 (lv_at hl 5 rfl) ?_
  refine lv_lload hx hb d_M_fromPiece_16 (lv_at hl 3 rfl) ?_
  refine lv_lsub hx hb d_M_fromPiece_18 ?_
  refine lv_lmul hx hb d_M_fromPiece_19 ?_
  refine lv_ladd hx hb d_M_fromPiece_20 ?_
  refine lv_lstore (lv' := [(14, .long (((p0 - p2) * (p4 - p2)) + ((p1 - p3) * (p5 - p3)))), (0, .long p0), (2, .long p1), (4, .long p2), (6, .long p3), (8, .long p4), (10, .long p5), (12, .long p6)]) hx hb d_M_fromPiece_21 hl (by decide) rfl (fun ls hl => ?_)
  refine lv_lload hx hb d_M_fromPiece_23 (lv_at hl 5 rfl) ?_
  refine lv_lload hx hb d_M_fromPiece_25 (lv_at hl 3 rfl) ?_
  refine lv_lsub hx hb d_M_fromPiece_27 ?_
  refine lv_lload hx hb d_M_fromPiece_28 (lv_at hl 6 rfl) ?_
  refine lv_lload hx hb d_M_fromPiece_30 (lv_at hl 4 rfl) ?_
  refine lv_lsub hx hb d_M_fromPiece_32 ?_
  obtain ⟨u1, e2⟩ := gsome h
  refine gw_callJ e2 h (gw_runS (As := [.long (p4 - p2), .long (p5 - p3)]) (rest := []) hx hb hml hown hT hK hZ hA hI (m_M_square l hst D g0 (p4 - p2) (p5 - p3) w u1 e2) ce_M_square wd_1025 ⟨by decide, by decide⟩ rfl rfl hl.1 rfl (lv_room (Nat.le_of_ble_eq_true rfl)) d_M_fromPiece_33 ⟨(show 0 + 0 ≤ 0 by omega), (show 0 + 0 ≤ 0 by omega)⟩) hI hA hexc (show 0 + 0 ≤ 0 by omega) (show 0 + 0 ≤ 0 by omega) (fun v3 w H locs h hI => ?_)
  refine lv_lstore (lv' := [(16, .long v3), (14, .long (((p0 - p2) * (p4 - p2)) + ((p1 - p3) * (p5 - p3)))), (0, .long p0), (2, .long p1), (4, .long p2), (6, .long p3), (8, .long p4), (10, .long p5), (12, .long p6)]) hx hb d_M_fromPiece_36 hl (by decide) rfl (fun ls hl => ?_)
  refine lv_lload hx hb d_M_fromPiece_38 (lv_at hl 1 rfl) ?_
  refine lv_lconst (v := 0) hx hb d_M_fromPiece_40 (by decide) ?_
  refine W.lcmp hx hb d_M_fromPiece_41 ?_
  refine lv_if_gt (tgt := 63) hx hb d_M_fromPiece_42 (by decide) (fun c4 => ?_) (fun c4 => ?_)
  · have c4 := (lg_cmp_gt _ _).mp c4
    have h := git c4 h
    refine lv_lload hx hb d_M_fromPiece_63 (lv_at hl 1 rfl) ?_
    refine lv_lload hx hb d_M_fromPiece_65 (lv_at hl 0 rfl) ?_
    refine W.lcmp hx hb d_M_fromPiece_67 ?_
    refine lv_if_lt (tgt := 89) hx hb d_M_fromPiece_68 (by decide) (fun c5 => ?_) (fun c5 => ?_)
    · have c5 := (lg_cmp_lt _ _).mp c5
      have h := git c5 h
      refine lv_lload hx hb d_M_fromPiece_89 (lv_at hl 4 rfl) ?_
      refine lv_lload hx hb d_M_fromPiece_91 (lv_at hl 5 rfl) ?_
      refine lv_lload hx hb d_M_fromPiece_93 (lv_at hl 6 rfl) ?_
      refine lv_lload hx hb d_M_fromPiece_95 (lv_at hl 7 rfl) ?_
      refine lv_lload_n hx hb d_M_fromPiece_97 rfl (lv_at hl 2 rfl) ?_
      refine lv_lload_n hx hb d_M_fromPiece_98 rfl (lv_at hl 3 rfl) ?_
      obtain ⟨u6, e7⟩ := gsome h
      refine gw_callJ e7 h (gw_runS (As := [.long p2, .long p3, .long p4, .long p5, .long p0, .long p1]) (rest := []) hx hb hml hown hT hK hZ hA hI (m_M_cross l hst D g0 p2 p3 p4 p5 p0 p1 w u6 e7) ce_M_cross wd_922 ⟨by decide, by decide⟩ rfl rfl hl.1 rfl (lv_room (Nat.le_of_ble_eq_true rfl)) d_M_fromPiece_99 ⟨(show 0 + 0 ≤ 0 by omega), (show 0 + 0 ≤ 0 by omega)⟩) hI hA hexc (show 0 + 0 ≤ 0 by omega) (show 0 + 0 ≤ 0 by omega) (fun v8 w H locs h hI => ?_)
      refine lv_lstore (lv' := [(18, .long v8), (16, .long v3), (14, .long (((p0 - p2) * (p4 - p2)) + ((p1 - p3) * (p5 - p3)))), (0, .long p0), (2, .long p1), (4, .long p2), (6, .long p3), (8, .long p4), (10, .long p5), (12, .long p6)]) hx hb d_M_fromPiece_102 hl (by decide) rfl (fun ls hl => ?_)
      refine lv_lload hx hb d_M_fromPiece_104 (lv_at hl 0 rfl) ?_
      refine lv_lload hx hb d_M_fromPiece_106 (lv_at hl 0 rfl) ?_
      refine lv_lmul hx hb d_M_fromPiece_108 ?_
      refine lv_lload hx hb d_M_fromPiece_109 (lv_at hl 9 rfl) ?_
      refine lv_lload hx hb d_M_fromPiece_111 (lv_at hl 1 rfl) ?_
      refine lv_lmul hx hb d_M_fromPiece_113 ?_
      refine lv_lsub hx hb d_M_fromPiece_114 ?_
      obtain ⟨u9, e10⟩ := gsome h
      refine gw_callI e10 h (gw_runS (As := [.long ((v8 * v8) - (p6 * v3))]) (rest := []) hx hb hml hown hT hK hZ hA hI (m_M_common l hst D g0 ((v8 * v8) - (p6 * v3)) w u9 e10) ce_M_common wd_1028 ⟨by decide, by decide⟩ rfl rfl hl.1 rfl (lv_room (Nat.le_of_ble_eq_true rfl)) d_M_fromPiece_115 ⟨(show 0 + 0 ≤ 0 by omega), (show 0 + 0 ≤ 0 by omega)⟩) hI hA hexc (show 0 + 0 ≤ 0 by omega) (show 0 + 0 ≤ 0 by omega) (fun v11 w H locs h hI => ?_)
      exact W.widen (show 0 ≤ 0 by omega) (show 0 ≤ 0 by omega) (hret _ _ (Option.some.inj h).symm _ _ _ _ d_M_fromPiece_118 hI)
    · have c5 := mt (lg_cmp_lt _ _).mpr c5
      have h := gie c5 h
      refine lv_lload_n hx hb d_M_fromPiece_71 rfl (lv_at hl 2 rfl) ?_
      refine lv_lload hx hb d_M_fromPiece_72 (lv_at hl 6 rfl) ?_
      refine lv_lsub hx hb d_M_fromPiece_74 ?_
      refine lv_lload_n hx hb d_M_fromPiece_75 rfl (lv_at hl 3 rfl) ?_
      refine lv_lload hx hb d_M_fromPiece_76 (lv_at hl 7 rfl) ?_
      refine lv_lsub hx hb d_M_fromPiece_78 ?_
      obtain ⟨u12, e13⟩ := gsome h
      refine gw_callJ e13 h (gw_runS (As := [.long (p0 - p4), .long (p1 - p5)]) (rest := []) hx hb hml hown hT hK hZ hA hI (m_M_square l hst D g0 (p0 - p4) (p1 - p5) w u12 e13) ce_M_square wd_1025 ⟨by decide, by decide⟩ rfl rfl hl.1 rfl (lv_room (Nat.le_of_ble_eq_true rfl)) d_M_fromPiece_79 ⟨(show 0 + 0 ≤ 0 by omega), (show 0 + 0 ≤ 0 by omega)⟩) hI hA hexc (show 0 + 0 ≤ 0 by omega) (show 0 + 0 ≤ 0 by omega) (fun v14 w H locs h hI => ?_)
      refine lv_lload hx hb d_M_fromPiece_82 (lv_at hl 8 rfl) ?_
      refine lv_lsub hx hb d_M_fromPiece_84 ?_
      obtain ⟨u15, e16⟩ := gsome h
      refine gw_callI e16 h (gw_runS (As := [.long (v14 - p6)]) (rest := []) hx hb hml hown hT hK hZ hA hI (m_M_common l hst D g0 (v14 - p6) w u15 e16) ce_M_common wd_1028 ⟨by decide, by decide⟩ rfl rfl hl.1 rfl (lv_room (Nat.le_of_ble_eq_true rfl)) d_M_fromPiece_85 ⟨(show 0 + 0 ≤ 0 by omega), (show 0 + 0 ≤ 0 by omega)⟩) hI hA hexc (show 0 + 0 ≤ 0 by omega) (show 0 + 0 ≤ 0 by omega) (fun v17 w H locs h hI => ?_)
      exact W.widen (show 0 ≤ 0 by omega) (show 0 ≤ 0 by omega) (hret _ _ (Option.some.inj h).symm _ _ _ _ d_M_fromPiece_88 hI)
  · have c4 := mt (lg_cmp_gt _ _).mpr c4
    have h := gie c4 h
    refine lv_lload_n hx hb d_M_fromPiece_45 rfl (lv_at hl 2 rfl) ?_
    refine lv_lload hx hb d_M_fromPiece_46 (lv_at hl 4 rfl) ?_
    refine lv_lsub hx hb d_M_fromPiece_48 ?_
    refine lv_lload_n hx hb d_M_fromPiece_49 rfl (lv_at hl 3 rfl) ?_
    refine lv_lload hx hb d_M_fromPiece_50 (lv_at hl 5 rfl) ?_
    refine lv_lsub hx hb d_M_fromPiece_52 ?_
    obtain ⟨u18, e19⟩ := gsome h
    refine gw_callJ e19 h (gw_runS (As := [.long (p0 - p2), .long (p1 - p3)]) (rest := []) hx hb hml hown hT hK hZ hA hI (m_M_square l hst D g0 (p0 - p2) (p1 - p3) w u18 e19) ce_M_square wd_1025 ⟨by decide, by decide⟩ rfl rfl hl.1 rfl (lv_room (Nat.le_of_ble_eq_true rfl)) d_M_fromPiece_53 ⟨(show 0 + 0 ≤ 0 by omega), (show 0 + 0 ≤ 0 by omega)⟩) hI hA hexc (show 0 + 0 ≤ 0 by omega) (show 0 + 0 ≤ 0 by omega) (fun v20 w H locs h hI => ?_)
    refine lv_lload hx hb d_M_fromPiece_56 (lv_at hl 8 rfl) ?_
    refine lv_lsub hx hb d_M_fromPiece_58 ?_
    obtain ⟨u21, e22⟩ := gsome h
    refine gw_callI e22 h (gw_runS (As := [.long (v20 - p6)]) (rest := []) hx hb hml hown hT hK hZ hA hI (m_M_common l hst D g0 (v20 - p6) w u21 e22) ce_M_common wd_1028 ⟨by decide, by decide⟩ rfl rfl hl.1 rfl (lv_room (Nat.le_of_ble_eq_true rfl)) d_M_fromPiece_59 ⟨(show 0 + 0 ≤ 0 by omega), (show 0 + 0 ≤ 0 by omega)⟩) hI hA hexc (show 0 + 0 ≤ 0 by omega) (show 0 + 0 ≤ 0 by omega) (fun v23 w H locs h hI => ?_)
    exact W.widen (show 0 ≤ 0 by omega) (show 0 ≤ 0 by omega) (hret _ _ (Option.some.inj h).symm _ _ _ _ d_M_fromPiece_62 hI)
