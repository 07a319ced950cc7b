abbrev b_B_section : ByteArray := prog_1_method_17_code
def y_B_section : MethodName := ⟨"BodySolids", "section", "(JII)J"⟩
theorem d_B_section_0 : decode b_B_section 0 = .ok (.iload 4, 2) := by decide +kernel
theorem d_B_section_2 : decode b_B_section 2 = .ok (.bipush 6, 2) := by decide +kernel
theorem d_B_section_4 : decode b_B_section 4 = .ok (.invokestatic 190, 3) := by decide +kernel
theorem d_B_section_7 : decode b_B_section 7 = .ok (.iconst 0, 1) := by decide +kernel
theorem d_B_section_8 : decode b_B_section 8 = .ok (.istore 5, 2) := by decide +kernel
theorem d_B_section_10 : decode b_B_section 10 = .ok (.iconst 0, 1) := by decide +kernel
theorem d_B_section_11 : decode b_B_section 11 = .ok (.istore 6, 2) := by decide +kernel
theorem d_B_section_13 : decode b_B_section 13 = .ok (.iload 6, 2) := by decide +kernel
theorem d_B_section_15 : decode b_B_section 15 = .ok (.aload_n 0, 1) := by decide +kernel
theorem d_B_section_16 : decode b_B_section 16 = .ok (.getfield 31, 3) := by decide +kernel
theorem d_B_section_19 : decode b_B_section 19 = .ok (.invokevirtual 68, 3) := by decide +kernel
theorem d_B_section_22 : decode b_B_section 22 = .ok (.if_icmp .ge 90, 3) := by decide +kernel
theorem d_B_section_25 : decode b_B_section 25 = .ok (.aload_n 0, 1) := by decide +kernel
theorem d_B_section_26 : decode b_B_section 26 = .ok (.getfield 61, 3) := by decide +kernel
theorem d_B_section_29 : decode b_B_section 29 = .ok (.aload_n 0, 1) := by decide +kernel
theorem d_B_section_30 : decode b_B_section 30 = .ok (.getfield 31, 3) := by decide +kernel
theorem d_B_section_33 : decode b_B_section 33 = .ok (.iload 6, 2) := by decide +kernel
theorem d_B_section_35 : decode b_B_section 35 = .ok (.invokevirtual 205, 3) := by decide +kernel
theorem d_B_section_38 : decode b_B_section 38 = .ok (.checkcast 164, 3) := by decide +kernel
theorem d_B_section_41 : decode b_B_section 41 = .ok (.aload_n 0, 1) := by decide +kernel
theorem d_B_section_42 : decode b_B_section 42 = .ok (.getfield 20, 3) := by decide +kernel
theorem d_B_section_45 : decode b_B_section 45 = .ok (.invokevirtual 213, 3) := by decide +kernel
theorem d_B_section_48 : decode b_B_section 48 = .ok (.iconst 0, 1) := by decide +kernel
theorem d_B_section_49 : decode b_B_section 49 = .ok (.istore 7, 2) := by decide +kernel
theorem d_B_section_51 : decode b_B_section 51 = .ok (.iload 7, 2) := by decide +kernel
theorem d_B_section_53 : decode b_B_section 53 = .ok (.aload_n 0, 1) := by decide +kernel
theorem d_B_section_54 : decode b_B_section 54 = .ok (.getfield 61, 3) := by decide +kernel
theorem d_B_section_57 : decode b_B_section 57 = .ok (.getfield 217, 3) := by decide +kernel
theorem d_B_section_60 : decode b_B_section 60 = .ok (.if_icmp .ge 46, 3) := by decide +kernel
theorem d_B_section_63 : decode b_B_section 63 = .ok (.aload_n 0, 1) := by decide +kernel
theorem d_B_section_64 : decode b_B_section 64 = .ok (.getfield 61, 3) := by decide +kernel
theorem d_B_section_67 : decode b_B_section 67 = .ok (.getfield 227, 3) := by decide +kernel
theorem d_B_section_70 : decode b_B_section 70 = .ok (.iload 7, 2) := by decide +kernel
theorem d_B_section_72 : decode b_B_section 72 = .ok (.aaload, 1) := by decide +kernel
theorem d_B_section_73 : decode b_B_section 73 = .ok (.lload_n 1, 1) := by decide +kernel
theorem d_B_section_74 : decode b_B_section 74 = .ok (.invokevirtual 234, 3) := by decide +kernel
theorem d_B_section_77 : decode b_B_section 77 = .ok (.ifCond .eq 23, 3) := by decide +kernel
theorem d_B_section_80 : decode b_B_section 80 = .ok (.iload 5, 2) := by decide +kernel
theorem d_B_section_82 : decode b_B_section 82 = .ok (.iload_n 3, 1) := by decide +kernel
theorem d_B_section_83 : decode b_B_section 83 = .ok (.if_icmp .ne 14, 3) := by decide +kernel
theorem d_B_section_86 : decode b_B_section 86 = .ok (.aload_n 0, 1) := by decide +kernel
theorem d_B_section_87 : decode b_B_section 87 = .ok (.iload 6, 2) := by decide +kernel
theorem d_B_section_89 : decode b_B_section 89 = .ok (.iload 7, 2) := by decide +kernel
theorem d_B_section_91 : decode b_B_section 91 = .ok (.iload 4, 2) := by decide +kernel
theorem d_B_section_93 : decode b_B_section 93 = .ok (.invokevirtual 238, 3) := by decide +kernel
theorem d_B_section_96 : decode b_B_section 96 = .ok (.lreturn, 1) := by decide +kernel
theorem d_B_section_97 : decode b_B_section 97 = .ok (.iinc 5 1, 3) := by decide +kernel
theorem d_B_section_100 : decode b_B_section 100 = .ok (.iinc 7 1, 3) := by decide +kernel
theorem d_B_section_103 : decode b_B_section 103 = .ok (.goto (-52), 3) := by decide +kernel
theorem d_B_section_106 : decode b_B_section 106 = .ok (.iinc 6 1, 3) := by decide +kernel
theorem d_B_section_109 : decode b_B_section 109 = .ok (.goto (-96), 3) := by decide +kernel
theorem d_B_section_112 : decode b_B_section 112 = .ok (.ldc2_w 242, 3) := by decide +kernel
theorem d_B_section_115 : decode b_B_section 115 = .ok (.lreturn, 1) := by decide +kernel
abbrev rm_B_section : Room := { frames := 8, cells := 1, slots := 6, locals := 111 }
theorem ce_B_section : gCe y_B_section (.code y_B_section b_B_section 8 (some .long)) 8 3 false := gCe.code wd_762 wd_49 wd_760 (by decide) (by decide +kernel)
def f_B_section_L51 (g0 : gG) (c0 : Nat) (c1 : Int64) (c3 : Int32) (c4 : Int32) (c6 : Int32) (K106 : Int32 → gW → gX Int64) (K86 : Int32 → Int32 → gW → gX Int64) : Nat → Int32 → Int32 → gW → gX Int64
  | 0, _, _, _ => none
  | n + 1, z5, z7, w => (gfA w c0 0 8).bind fun v38 => (gfI w v38 2 1).bind fun v40 => if v40 ≤ z7 then (K106 z5 w) else ((gfA w c0 0 8).bind fun v43 => (gfA w v43 2 0).bind fun v45 => (gaA w v45 z7).bind fun v47 => (gck w v47 3).bind fun _ => gbind (f_So_isCutAt g0 v47 c1 w) fun v53 w => gjoin (fun K100 => if v53 = 0 then (K100 z5 w) else (if z5 = c3 then (K86 c6 z7 w) else (K100 (z5 + 1) w))) (fun (x54 : Int32) (w : gW) => f_B_section_L51 g0 c0 c1 c3 c4 c6 K106 K86 n x54 (z7 + 1) w))
def f_B_section_L13 (g0 : gG) (c0 : Nat) (c1 : Int64) (c3 : Int32) (c4 : Int32) (K112 : gW → gX Int64) (K86 : Int32 → Int32 → gW → gX Int64) : Nat → Int32 → Int32 → gW → gX Int64
  | 0, _, _, _ => none
  | n + 1, z5, z6, w => (gfA w c0 0 2).bind fun v11 => (gck w v11 1).bind fun _ => gbind (f_AL_size g0 v11 w) fun v17 w => if v17 ≤ z6 then (K112 w) else ((gfA w c0 0 8).bind fun v19 => (gfA w c0 0 2).bind fun v21 => (gck w v21 1).bind fun _ => gbind (f_AL_get g0 v21 z6 w) fun v27 w => (gck w v27 5).bind fun _ => (gfJ w c0 0 0).bind fun v30 => (gck w v19 2).bind fun _ => gbind (f_La_lay g0 v19 v27 v30 w) fun v36 w => gjoin (fun K106 => f_B_section_L51 g0 c0 c1 c3 c4 z6 K106 K86 64 z5 0 w) (fun (x37 : Int32) (w : gW) => f_B_section_L13 g0 c0 c1 c3 c4 K112 K86 n x37 (z6 + 1) w))
def f_B_section (g0 : gG) (a0 : Nat) (p1 : Int64) (p2 : Int32) (p3 : Int32) (w : gW) : gX Int64 := gbind (f_B_needIndex g0 p3 6 w) fun v3 w => gjoin (fun K112 => gjoin (fun K86 => f_B_section_L13 g0 a0 p1 p2 p3 K112 K86 64 0 0 w) (fun (x4 : Int32) (x5 : Int32) (w : gW) => (gck w a0 0).bind fun _ => gbind (f_B_sectionAnswer g0 a0 x4 x5 p3 w) fun v10 w => some (.inr v10, w))) (fun (w : gW) => some (.inr (-1), w))
set_option maxHeartbeats 4000000 in
set_option maxRecDepth 100000 in
theorem m_B_section (l : Launch) (hst : l.stackTraces = false) (D : gD) (g0 : gG) (a0 : Nat) (p1 : Int64) (p2 : Int32) (p3 : Int32) (w : gW) (r : (String ⊕ Int64) × gW) (h : f_B_section g0 a0 p1 p2 p3 w = some r) : gMet l y_B_section (.code y_B_section b_B_section 8 (some .long)) rm_B_section D g0 [.ref a0, .long p1, .int p2, .int p3] w (goJ r) := by
  refine gw_ofJ (by decide +kernel) (Nat.le_of_ble_eq_true rfl) ?_
  intro p e s m below meth c ls args A Q hx hb hml hown hlocks hin hnt hT hK hZ hA hret hexc hthr hI hl
  obtain ⟨H, hH⟩ : ∃ H, H = s.heap := ⟨_, rfl⟩
  rw [← hH] at hI ⊢
  obtain ⟨locs, hlocs⟩ : ∃ z : List Loc, z = [] := ⟨_, rfl⟩
  rw [← hlocs] at hI ⊢
  have hl : lv_has ls 8 [(0, .ref a0), (1, .long p1), (3, .int p2), (4, .int p3)] := hl
  unfold f_B_section at h
  refine lv_iload hx hb d_B_section_0 (lv_at hl 3 rfl) ?_
  refine lv_bipush (v := 6) hx hb d_B_section_2 (by decide) ?_
  obtain ⟨u1, e2⟩ := gsome h
  refine gw_callV e2 h (gw_runS (As := [.int p3, .int 6]) (rest := []) hx hb hml hown hT hK hZ hA hI (m_B_needIndex l hst D g0 p3 6 w u1 e2) ce_B_needIndex wd_440 ⟨by decide, by decide⟩ rfl rfl hl.1 rfl (lv_room (Nat.le_of_ble_eq_true rfl)) d_B_section_4 ⟨(show 0 + 1 ≤ 1 by omega), (show 0 + 6 ≤ 6 by omega)⟩) hI hA hexc (show 0 + 1 ≤ 1 by omega) (show 0 + 6 ≤ 6 by omega) (fun v3 w H locs h hI => ?_)
  refine W.widen (k := 1) (n := 6) (show 0 + 1 ≤ 1 by omega) (show 0 + 6 ≤ 6 by omega) ?_
  refine lv_iconst (v := 0) hx hb d_B_section_7 (by decide) ?_
  refine lv_istore (lv' := [(5, .int 0), (0, .ref a0), (1, .long p1), (3, .int p2), (4, .int p3)]) hx hb d_B_section_8 hl (by decide) rfl (fun ls hl => ?_)
  refine lv_iconst (v := 0) hx hb d_B_section_10 (by decide) ?_
  refine lv_istore (lv' := [(6, .int 0), (5, .int 0), (0, .ref a0), (1, .long p1), (3, .int p2), (4, .int p3)]) hx hb d_B_section_11 hl (by decide) rfl (fun ls hl => ?_)
  obtain ⟨K112, eK112, h⟩ := gj h
  have hK112 : ∀ (w : gW) (H : Heap) (locs : List Loc) (ls : Array Slot), K112 w = some r → gI D s A w H locs → lv_has ls 8 [] → W p l e rm_B_section s m args below meth c H locs 1 6 Q (F0 m 112 ls []) := by
    intro w H locs ls h hI hl
    have h := gk1 eK112 h
    refine lv_ldc2 (v := (-1)) hx hb hown (hT _ wd_771 args) d_B_section_112 ?_
    exact W.widen (show 1 ≤ 1 by omega) (show 6 ≤ 6 by omega) (hret _ _ (Option.some.inj h).symm _ _ _ _ d_B_section_115 hI)
  obtain ⟨K86, eK86, h⟩ := gj h
  have hK86 : ∀ (x4 : Int32) (x5 : Int32) (w : gW) (H : Heap) (locs : List Loc) (ls : Array Slot), K86 x4 x5 w = some r → gI D s A w H locs → lv_has ls 8 [(0, .ref a0), (4, .int p3), (6, .int x4), (7, .int x5)] → W p l e rm_B_section s m args below meth c H locs 1 6 Q (F0 m 86 ls []) := by
    intro x4 x5 w H locs ls h hI hl
    have h := gk3 eK86 h
    refine lv_aload_n hx hb d_B_section_86 rfl (lv_at hl 0 rfl) ?_
    refine lv_iload hx hb d_B_section_87 (lv_at hl 2 rfl) ?_
    refine lv_iload hx hb d_B_section_89 (lv_at hl 3 rfl) ?_
    refine lv_iload hx hb d_B_section_91 (lv_at hl 1 rfl) ?_
    obtain ⟨q8, e9, h⟩ := gb h
    obtain ⟨u6, e7⟩ := gsome h
    refine gw_callJ e7 h (gw_runV (As := [.int x4, .int x5, .int p3]) (rest := []) hx hb hml hown hT hK hZ hA hI (ci := 0) rfl e9 (m_B_sectionAnswer l hst D g0 a0 x4 x5 p3 w u6 e7) ce_B_sectionAnswer wd_767 wd_16 ⟨by decide, by decide⟩ rfl rfl hl.1 rfl (lv_room (Nat.le_of_ble_eq_true rfl)) d_B_section_93 ⟨(show 1 + 0 ≤ 1 by omega), (show 6 + 0 ≤ 6 by omega)⟩) hI hA hexc (show 1 + 0 ≤ 1 by omega) (show 6 + 0 ≤ 6 by omega) (fun v10 w H locs h hI => ?_)
    exact W.widen (show 1 ≤ 1 by omega) (show 6 ≤ 6 by omega) (hret _ _ (Option.some.inj h).symm _ _ _ _ d_B_section_96 hI)
  have hL13 : ∀ (n : Nat), ∀ (z11 : Int32) (z12 : Int32) (w : gW) (H : Heap) (locs : List Loc) (ls : Array Slot), f_B_section_L13 g0 a0 p1 p2 p3 K112 K86 n z11 z12 w = some r → gI D s A w H locs → lv_has ls 8 [(0, .ref a0), (1, .long p1), (3, .int p2), (4, .int p3), (5, .int z11), (6, .int z12)] → W p l e rm_B_section s m args below meth c H locs 1 6 Q (F0 m 13 ls []) := by
    intro n
    induction n with
    | zero => intro z11 z12 w H locs ls h hI hl; exact absurd h (by simp [f_B_section_L13])
    | succ n ih =>
      intro z11 z12 w H locs ls h hI hl
      rw [f_B_section_L13] at h
      refine lv_iload hx hb d_B_section_13 (lv_at hl 5 rfl) ?_
      refine lv_aload_n hx hb d_B_section_15 rfl (lv_at hl 0 rfl) ?_
      obtain ⟨v13, e14, h⟩ := gb h
      refine gw_getA hx hb hT hown hK hI (ci := 0) rfl i_0 2 (by decide) wd_191 (fun _ h9 => h9) e14 d_B_section_16 ?_
      obtain ⟨q17, e18, h⟩ := gb h
      obtain ⟨u15, e16⟩ := gsome h
      refine gw_callI e16 h (gw_runV (As := []) (rest := [.int z12]) hx hb hml hown hT hK hZ hA hI (ci := 1) rfl e18 (m_AL_size l hst D g0 v13 w u15 e16) ce_AL_size wd_224 wd_226 ⟨by decide, by decide⟩ rfl rfl hl.1 rfl (lv_room (Nat.le_of_ble_eq_true rfl)) d_B_section_19 ⟨(show 1 + 0 ≤ 1 by omega), (show 6 + 0 ≤ 6 by omega)⟩) hI hA hexc (show 1 + 0 ≤ 1 by omega) (show 6 + 0 ≤ 6 by omega) (fun v19 w H locs h hI => ?_)
      refine lv_icmp_ge (tgt := 112) hx hb d_B_section_22 (by decide) (fun c20 => ?_) (fun c20 => ?_)
      · skip
        have h := git c20 h
        exact hK112 w H locs ls h hI (lv_sub hl [] rfl)
      · skip
        have h := gie c20 h
        refine lv_aload_n hx hb d_B_section_25 rfl (lv_at hl 0 rfl) ?_
        obtain ⟨v21, e22, h⟩ := gb h
        refine gw_getA hx hb hT hown hK hI (ci := 0) rfl i_0 8 (by decide) wd_197 (fun _ h9 => h9) e22 d_B_section_26 ?_
        refine lv_aload_n hx hb d_B_section_29 rfl (lv_at hl 0 rfl) ?_
        obtain ⟨v23, e24, h⟩ := gb h
        refine gw_getA hx hb hT hown hK hI (ci := 0) rfl i_0 2 (by decide) wd_191 (fun _ h9 => h9) e24 d_B_section_30 ?_
        refine lv_iload hx hb d_B_section_33 (lv_at hl 5 rfl) ?_
        obtain ⟨q27, e28, h⟩ := gb h
        obtain ⟨u25, e26⟩ := gsome h
        refine gw_callA e26 h (gw_runV (As := [.int z12]) (rest := [.ref v21]) hx hb hml hown hT hK hZ hA hI (ci := 1) rfl e28 (m_AL_get l hst D g0 v23 z12 w u25 e26) ce_AL_get wd_321 wd_323 ⟨by decide, by decide⟩ rfl rfl hl.1 rfl (lv_room (Nat.le_of_ble_eq_true rfl)) d_B_section_35 ⟨(show 1 + 0 ≤ 1 by omega), (show 6 + 0 ≤ 6 by omega)⟩) hI hA hexc (show 1 + 0 ≤ 1 by omega) (show 6 + 0 ≤ 6 by omega) (fun v29 w H locs h hI => ?_)
        obtain ⟨q31, e30, h⟩ := gb h
        refine gw_cast hx hb hT hown hK hI wd_335 (ci := 5) rfl wd_1123 e30 d_B_section_38 ?_
        refine lv_aload_n hx hb d_B_section_41 rfl (lv_at hl 0 rfl) ?_
        obtain ⟨v32, e33, h⟩ := gb h
        refine gw_getJ hx hb hT hown hK hI (ci := 0) rfl i_0 0 (by decide) wd_189 (fun _ h9 => h9) e33 d_B_section_42 ?_
        obtain ⟨q36, e37, h⟩ := gb h
        obtain ⟨u34, e35⟩ := gsome h
        refine gw_callV e35 h (gw_runV (As := [.ref v29, .long v32]) (rest := []) hx hb hml hown hT hK hZ hA hI (ci := 2) rfl e37 (m_La_lay l hst D g0 v21 v29 v32 w u34 e35) ce_La_lay wd_336 wd_338 ⟨by decide, by decide⟩ rfl rfl hl.1 rfl (lv_room (Nat.le_of_ble_eq_true rfl)) d_B_section_45 ⟨(show 1 + 0 ≤ 1 by omega), (show 6 + 0 ≤ 6 by omega)⟩) hI hA hexc (show 1 + 0 ≤ 1 by omega) (show 6 + 0 ≤ 6 by omega) (fun v38 w H locs h hI => ?_)
        refine lv_iconst (v := 0) hx hb d_B_section_48 (by decide) ?_
        refine lv_istore (lv' := [(7, .int 0), (0, .ref a0), (1, .long p1), (3, .int p2), (4, .int p3), (5, .int z11), (6, .int z12)]) hx hb d_B_section_49 hl (by decide) rfl (fun ls hl => ?_)
        obtain ⟨K106, eK106, h⟩ := gj h
        have hK106 : ∀ (x39 : Int32) (w : gW) (H : Heap) (locs : List Loc) (ls : Array Slot), K106 x39 w = some r → gI D s A w H locs → lv_has ls 8 [(0, .ref a0), (1, .long p1), (3, .int p2), (4, .int p3), (5, .int x39), (6, .int z12)] → W p l e rm_B_section s m args below meth c H locs 1 6 Q (F0 m 106 ls []) := by
          intro x39 w H locs ls h hI hl
          have h := gk2 eK106 h
          refine lv_iinc (v := z12 + 1) (lv' := [(6, .int (z12 + 1)), (0, .ref a0), (1, .long p1), (3, .int p2), (4, .int p3), (5, .int x39)]) hx hb d_B_section_106 hl (k := 5) rfl rfl (by decide) rfl (fun ls hl => ?_)
          refine lv_goto (tgt := 13) hx hb d_B_section_109 (by decide) ?_
          exact ih _ _ w H locs ls h hI (lv_sub hl [1, 2, 3, 4, 5, 0] rfl)
        have hL51 : ∀ (n : Nat), ∀ (z40 : Int32) (z41 : Int32) (w : gW) (H : Heap) (locs : List Loc) (ls : Array Slot), f_B_section_L51 g0 a0 p1 p2 p3 z12 K106 K86 n z40 z41 w = some r → gI D s A w H locs → lv_has ls 8 [(0, .ref a0), (1, .long p1), (3, .int p2), (4, .int p3), (6, .int z12), (5, .int z40), (7, .int z41)] → W p l e rm_B_section s m args below meth c H locs 1 6 Q (F0 m 51 ls []) := by
          intro n
          induction n with
          | zero => intro z40 z41 w H locs ls h hI hl; exact absurd h (by simp [f_B_section_L51])
          | succ n ih =>
            intro z40 z41 w H locs ls h hI hl
            rw [f_B_section_L51] at h
            refine lv_iload hx hb d_B_section_51 (lv_at hl 6 rfl) ?_
            refine lv_aload_n hx hb d_B_section_53 rfl (lv_at hl 0 rfl) ?_
            obtain ⟨v42, e43, h⟩ := gb h
            refine gw_getA hx hb hT hown hK hI (ci := 0) rfl i_0 8 (by decide) wd_197 (fun _ h9 => h9) e43 d_B_section_54 ?_
            obtain ⟨v44, e45, h⟩ := gb h
            refine gw_getI hx hb hT hown hK hI (ci := 2) rfl i_2 1 (by decide) wd_183 (fun _ h9 => h9) e45 d_B_section_57 ?_
            refine lv_icmp_ge (tgt := 106) hx hb d_B_section_60 (by decide) (fun c46 => ?_) (fun c46 => ?_)
            · skip
              have h := git c46 h
              exact hK106 _ w H locs ls h hI (lv_sub hl [0, 1, 2, 3, 5, 4] rfl)
            · skip
              have h := gie c46 h
              refine lv_aload_n hx hb d_B_section_63 rfl (lv_at hl 0 rfl) ?_
              obtain ⟨v47, e48, h⟩ := gb h
              refine gw_getA hx hb hT hown hK hI (ci := 0) rfl i_0 8 (by decide) wd_197 (fun _ h9 => h9) e48 d_B_section_64 ?_
              obtain ⟨v49, e50, h⟩ := gb h
              refine gw_getA hx hb hT hown hK hI (ci := 2) rfl i_2 0 (by decide) wd_181 (fun _ h9 => h9) e50 d_B_section_67 ?_
              refine lv_iload hx hb d_B_section_70 (lv_at hl 6 rfl) ?_
              obtain ⟨v51, e52, h⟩ := gb h
              refine gw_aldA hx hb hK hI e52 d_B_section_72 ?_
              refine lv_lload_n hx hb d_B_section_73 rfl (lv_at hl 1 rfl) ?_
              obtain ⟨q55, e56, h⟩ := gb h
              obtain ⟨u53, e54⟩ := gsome h
              refine gw_callI e54 h (gw_runV (As := [.long p1]) (rest := []) hx hb hml hown hT hK hZ hA hI (ci := 3) rfl e56 (m_So_isCutAt l hst D g0 v51 p1 w u53 e54) ce_So_isCutAt wd_763 wd_765 ⟨by decide, by decide⟩ rfl rfl hl.1 rfl (lv_room (Nat.le_of_ble_eq_true rfl)) d_B_section_74 ⟨(show 1 + 0 ≤ 1 by omega), (show 6 + 0 ≤ 6 by omega)⟩) hI hA hexc (show 1 + 0 ≤ 1 by omega) (show 6 + 0 ≤ 6 by omega) (fun v57 w H locs h hI => ?_)
              obtain ⟨K100, eK100, h⟩ := gj h
              have hK100 : ∀ (x58 : Int32) (w : gW) (H : Heap) (locs : List Loc) (ls : Array Slot), K100 x58 w = some r → gI D s A w H locs → lv_has ls 8 [(0, .ref a0), (1, .long p1), (3, .int p2), (4, .int p3), (5, .int x58), (6, .int z12), (7, .int z41)] → W p l e rm_B_section s m args below meth c H locs 1 6 Q (F0 m 100 ls []) := by
                intro x58 w H locs ls h hI hl
                have h := gk2 eK100 h
                refine lv_iinc (v := z41 + 1) (lv' := [(7, .int (z41 + 1)), (0, .ref a0), (1, .long p1), (3, .int p2), (4, .int p3), (5, .int x58), (6, .int z12)]) hx hb d_B_section_100 hl (k := 6) rfl rfl (by decide) rfl (fun ls hl => ?_)
                refine lv_goto (tgt := 51) hx hb d_B_section_103 (by decide) ?_
                exact ih _ _ w H locs ls h hI (lv_sub hl [1, 2, 3, 4, 6, 5, 0] rfl)
              refine lv_if_eq (tgt := 100) hx hb d_B_section_77 (by decide) (fun c59 => ?_) (fun c59 => ?_)
              · skip
                have h := git c59 h
                exact hK100 _ w H locs ls h hI (lv_sub hl [0, 1, 2, 3, 5, 4, 6] rfl)
              · skip
                have h := gie c59 h
                refine lv_iload hx hb d_B_section_80 (lv_at hl 5 rfl) ?_
                refine lv_iload_n hx hb d_B_section_82 rfl (lv_at hl 2 rfl) ?_
                refine lv_icmp_ne (tgt := 97) hx hb d_B_section_83 (by decide) (fun c60 => ?_) (fun c60 => ?_)
                · skip
                  have h := gie c60 h
                  refine lv_iinc (v := z40 + 1) (lv' := [(5, .int (z40 + 1)), (0, .ref a0), (1, .long p1), (3, .int p2), (4, .int p3), (6, .int z12), (7, .int z41)]) hx hb d_B_section_97 hl (k := 5) rfl rfl (by decide) rfl (fun ls hl => ?_)
                  exact hK100 _ w H locs ls h hI (lv_sub hl [1, 2, 3, 4, 0, 5, 6] rfl)
                · skip
                  have h := git c60 h
                  exact hK86 _ _ w H locs ls h hI (lv_sub hl [0, 3, 4, 6] rfl)
        exact hL51 64 _ _ w H locs ls h hI (lv_sub hl [1, 2, 3, 4, 6, 5, 0] rfl)
  exact hL13 64 _ _ w H locs ls h hI (lv_sub hl [2, 3, 4, 5, 1, 0] rfl)
