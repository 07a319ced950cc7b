abbrev b_M_isPlaced : ByteArray := prog_9_method_6_code
def y_M_isPlaced : MethodName := ⟨"BodySolidsModel", "isPlaced", "(I)Z"⟩
theorem d_M_isPlaced_0 : decode b_M_isPlaced 0 = .ok (.iload_n 1, 1) := by decide +kernel
theorem d_M_isPlaced_1 : decode b_M_isPlaced 1 = .ok (.ifCond .lt 15, 3) := by decide +kernel
theorem d_M_isPlaced_4 : decode b_M_isPlaced 4 = .ok (.iload_n 1, 1) := by decide +kernel
theorem d_M_isPlaced_5 : decode b_M_isPlaced 5 = .ok (.aload_n 0, 1) := by decide +kernel
theorem d_M_isPlaced_6 : decode b_M_isPlaced 6 = .ok (.getfield 95, 3) := by decide +kernel
theorem d_M_isPlaced_9 : decode b_M_isPlaced 9 = .ok (.if_icmp .ge 7, 3) := by decide +kernel
theorem d_M_isPlaced_12 : decode b_M_isPlaced 12 = .ok (.iconst 1, 1) := by decide +kernel
theorem d_M_isPlaced_13 : decode b_M_isPlaced 13 = .ok (.goto 4, 3) := by decide +kernel
theorem d_M_isPlaced_16 : decode b_M_isPlaced 16 = .ok (.iconst 0, 1) := by decide +kernel
theorem d_M_isPlaced_17 : decode b_M_isPlaced 17 = .ok (.ireturn, 1) := by decide +kernel
abbrev rm_M_isPlaced : Room := { frames := 0, cells := 0, slots := 0, locals := 0 }
theorem ce_M_isPlaced : gCe y_M_isPlaced (.code y_M_isPlaced b_M_isPlaced 2 (some .boolean)) 2 1 false := gCe.code wd_958 wd_57 wd_957 (by decide) (by decide +kernel)
def f_M_isPlaced (g0 : gG) (a0 : Nat) (p1 : Int32) (w : gW) : gX Int32 := gjoin (fun K17 => gjoin (fun K16 => if p1 < 0 then (K16 w) else ((gfI w a0 7 12).bind fun v4 => if v4 ≤ p1 then (K16 w) else (K17 1 w))) (fun (w : gW) => K17 0 w)) (fun (y1 : Int32) (w : gW) => gguard (y1 = 0 ∨ y1 = 1) (some (.inr y1, w)))
set_option maxHeartbeats 4000000 in
set_option maxRecDepth 100000 in
theorem m_M_isPlaced (l : Launch) (hst : l.stackTraces = false) (D : gD) (g0 : gG) (a0 : Nat) (p1 : Int32) (w : gW) (r : (String ⊕ Int32) × gW) (h : f_M_isPlaced g0 a0 p1 w = some r) : gMet l y_M_isPlaced (.code y_M_isPlaced b_M_isPlaced 2 (some .boolean)) rm_M_isPlaced D g0 [.ref a0, .int p1] w (goI r) := by
  refine gw_ofZ (by decide +kernel) (Nat.le_of_ble_eq_true rfl) ?_
  intro p e s m below meth c ls args A Q hx hb hml hown hlocks hin hnt hT hK hZ hA hret hexc hthr hI hl
  obtain ⟨H, hH⟩ : ∃ H, H = s.heap := ⟨_, rfl⟩
  rw [← hH] at hI ⊢
  obtain ⟨locs, hlocs⟩ : ∃ z : List Loc, z = [] := ⟨_, rfl⟩
  rw [← hlocs] at hI ⊢
  have hl : lv_has ls 2 [(0, .ref a0), (1, .int p1)] := hl
  unfold f_M_isPlaced at h
  refine lv_iload_n hx hb d_M_isPlaced_0 rfl (lv_at hl 1 rfl) ?_
  obtain ⟨K17, eK17, h⟩ := gj h
  have hK17 : ∀ (y1 : Int32) (w : gW) (H : Heap) (locs : List Loc) (ls : Array Slot), K17 y1 w = some r → gI D s A w H locs → lv_has ls 2 [] → W p l e rm_M_isPlaced s m args below meth c H locs 0 0 Q (F0 m 17 ls [.int y1]) := by
    intro y1 w H locs ls h hI hl
    have h := gk2 eK17 h
    obtain ⟨g2, h⟩ := gif h
    exact W.widen (show 0 ≤ 0 by omega) (show 0 ≤ 0 by omega) (hret g2 0 _ (Option.some.inj h).symm _ _ _ _ d_M_isPlaced_17 hI)
  obtain ⟨K16, eK16, h⟩ := gj h
  have hK16 : ∀ (w : gW) (H : Heap) (locs : List Loc) (ls : Array Slot), K16 w = some r → gI D s A w H locs → lv_has ls 2 [] → W p l e rm_M_isPlaced s m args below meth c H locs 0 0 Q (F0 m 16 ls []) := by
    intro w H locs ls h hI hl
    have h := gk1 eK16 h
    refine lv_iconst (v := 0) hx hb d_M_isPlaced_16 (by decide) ?_
    exact hK17 _ w H locs ls h hI (lv_sub hl [] rfl)
  refine lv_if_lt (tgt := 16) hx hb d_M_isPlaced_1 (by decide) (fun c3 => ?_) (fun c3 => ?_)
  · skip
    have h := git c3 h
    exact hK16 w H locs ls h hI (lv_sub hl [] rfl)
  · skip
    have h := gie c3 h
    refine lv_iload_n hx hb d_M_isPlaced_4 rfl (lv_at hl 1 rfl) ?_
    refine lv_aload_n hx hb d_M_isPlaced_5 rfl (lv_at hl 0 rfl) ?_
    obtain ⟨v4, e5, h⟩ := gb h
    refine gw_getI hx hb hT hown hK hI (ci := 7) rfl i_7 12 (by decide) wd_798 (fun _ h9 => h9) e5 d_M_isPlaced_6 ?_
    refine lv_icmp_ge (tgt := 16) hx hb d_M_isPlaced_9 (by decide) (fun c6 => ?_) (fun c6 => ?_)
    · skip
      have h := git c6 h
      exact hK16 w H locs ls h hI (lv_sub hl [] rfl)
    · skip
      have h := gie c6 h
      refine lv_iconst (v := 1) hx hb d_M_isPlaced_12 (by decide) ?_
      refine lv_goto (tgt := 17) hx hb d_M_isPlaced_13 (by decide) ?_
      exact hK17 _ w H locs ls h hI (lv_sub hl [] rfl)

abbrev b_M_move : ByteArray := prog_9_method_25_code
def y_M_move : MethodName := ⟨"BodySolidsModel", "move", "(IJJII)Z"⟩
theorem d_M_move_0 : decode b_M_move 0 = .ok (.aload_n 0, 1) := by decide +kernel
theorem d_M_move_1 : decode b_M_move 1 = .ok (.aload_n 0, 1) := by decide +kernel
theorem d_M_move_2 : decode b_M_move 2 = .ok (.iload_n 1, 1) := by decide +kernel
theorem d_M_move_3 : decode b_M_move 3 = .ok (.invokevirtual 150, 3) := by decide +kernel
theorem d_M_move_6 : decode b_M_move 6 = .ok (.ifCond .ne 7, 3) := by decide +kernel
theorem d_M_move_9 : decode b_M_move 9 = .ok (.iconst 1, 1) := by decide +kernel
theorem d_M_move_10 : decode b_M_move 10 = .ok (.goto 21, 3) := by decide +kernel
theorem d_M_move_13 : decode b_M_move 13 = .ok (.lload_n 2, 1) := by decide +kernel
theorem d_M_move_14 : decode b_M_move 14 = .ok (.lload 4, 2) := by decide +kernel
theorem d_M_move_16 : decode b_M_move 16 = .ok (.iload 6, 2) := by decide +kernel
theorem d_M_move_18 : decode b_M_move 18 = .ok (.iload 7, 2) := by decide +kernel
theorem d_M_move_20 : decode b_M_move 20 = .ok (.invokestatic 142, 3) := by decide +kernel
theorem d_M_move_23 : decode b_M_move 23 = .ok (.ifCond .eq 7, 3) := by decide +kernel
theorem d_M_move_26 : decode b_M_move 26 = .ok (.iconst 0, 1) := by decide +kernel
theorem d_M_move_27 : decode b_M_move 27 = .ok (.goto 4, 3) := by decide +kernel
theorem d_M_move_30 : decode b_M_move 30 = .ok (.iconst 2, 1) := by decide +kernel
theorem d_M_move_31 : decode b_M_move 31 = .ok (.putfield 80, 3) := by decide +kernel
theorem d_M_move_34 : decode b_M_move 34 = .ok (.aload_n 0, 1) := by decide +kernel
theorem d_M_move_35 : decode b_M_move 35 = .ok (.getfield 80, 3) := by decide +kernel
theorem d_M_move_38 : decode b_M_move 38 = .ok (.ifCond .eq 5, 3) := by decide +kernel
theorem d_M_move_41 : decode b_M_move 41 = .ok (.iconst 0, 1) := by decide +kernel
theorem d_M_move_42 : decode b_M_move 42 = .ok (.ireturn, 1) := by decide +kernel
theorem d_M_move_43 : decode b_M_move 43 = .ok (.aload_n 0, 1) := by decide +kernel
theorem d_M_move_44 : decode b_M_move 44 = .ok (.getfield 38, 3) := by decide +kernel
theorem d_M_move_47 : decode b_M_move 47 = .ok (.iload_n 1, 1) := by decide +kernel
theorem d_M_move_48 : decode b_M_move 48 = .ok (.laload, 1) := by decide +kernel
theorem d_M_move_49 : decode b_M_move 49 = .ok (.lload_n 2, 1) := by decide +kernel
theorem d_M_move_50 : decode b_M_move 50 = .ok (.lcmp, 1) := by decide +kernel
theorem d_M_move_51 : decode b_M_move 51 = .ok (.ifCond .ne 37, 3) := by decide +kernel
theorem d_M_move_54 : decode b_M_move 54 = .ok (.aload_n 0, 1) := by decide +kernel
theorem d_M_move_55 : decode b_M_move 55 = .ok (.getfield 41, 3) := by decide +kernel
theorem d_M_move_58 : decode b_M_move 58 = .ok (.iload_n 1, 1) := by decide +kernel
theorem d_M_move_59 : decode b_M_move 59 = .ok (.laload, 1) := by decide +kernel
theorem d_M_move_60 : decode b_M_move 60 = .ok (.lload 4, 2) := by decide +kernel
theorem d_M_move_62 : decode b_M_move 62 = .ok (.lcmp, 1) := by decide +kernel
theorem d_M_move_63 : decode b_M_move 63 = .ok (.ifCond .ne 25, 3) := by decide +kernel
theorem d_M_move_66 : decode b_M_move 66 = .ok (.aload_n 0, 1) := by decide +kernel
theorem d_M_move_67 : decode b_M_move 67 = .ok (.getfield 44, 3) := by decide +kernel
theorem d_M_move_70 : decode b_M_move 70 = .ok (.iload_n 1, 1) := by decide +kernel
theorem d_M_move_71 : decode b_M_move 71 = .ok (.iaload, 1) := by decide +kernel
theorem d_M_move_72 : decode b_M_move 72 = .ok (.iload 6, 2) := by decide +kernel
theorem d_M_move_74 : decode b_M_move 74 = .ok (.if_icmp .ne 14, 3) := by decide +kernel
theorem d_M_move_77 : decode b_M_move 77 = .ok (.aload_n 0, 1) := by decide +kernel
theorem d_M_move_78 : decode b_M_move 78 = .ok (.getfield 47, 3) := by decide +kernel
theorem d_M_move_81 : decode b_M_move 81 = .ok (.iload_n 1, 1) := by decide +kernel
theorem d_M_move_82 : decode b_M_move 82 = .ok (.iaload, 1) := by decide +kernel
theorem d_M_move_83 : decode b_M_move 83 = .ok (.iload 7, 2) := by decide +kernel
theorem d_M_move_85 : decode b_M_move 85 = .ok (.if_icmp .eq 7, 3) := by decide +kernel
theorem d_M_move_88 : decode b_M_move 88 = .ok (.iconst 1, 1) := by decide +kernel
theorem d_M_move_89 : decode b_M_move 89 = .ok (.goto 4, 3) := by decide +kernel
theorem d_M_move_92 : decode b_M_move 92 = .ok (.iconst 0, 1) := by decide +kernel
theorem d_M_move_93 : decode b_M_move 93 = .ok (.istore 8, 2) := by decide +kernel
theorem d_M_move_95 : decode b_M_move 95 = .ok (.aload_n 0, 1) := by decide +kernel
theorem d_M_move_96 : decode b_M_move 96 = .ok (.iload_n 1, 1) := by decide +kernel
theorem d_M_move_97 : decode b_M_move 97 = .ok (.lload_n 2, 1) := by decide +kernel
theorem d_M_move_98 : decode b_M_move 98 = .ok (.lload 4, 2) := by decide +kernel
theorem d_M_move_100 : decode b_M_move 100 = .ok (.iload 6, 2) := by decide +kernel
theorem d_M_move_102 : decode b_M_move 102 = .ok (.iload 7, 2) := by decide +kernel
theorem d_M_move_104 : decode b_M_move 104 = .ok (.invokevirtual 146, 3) := by decide +kernel
theorem d_M_move_107 : decode b_M_move 107 = .ok (.iload 8, 2) := by decide +kernel
theorem d_M_move_109 : decode b_M_move 109 = .ok (.ireturn, 1) := by decide +kernel
abbrev rm_M_move : Room := { frames := 2, cells := 0, slots := 0, locals := 50 }
theorem ce_M_move : gCe y_M_move (.code y_M_move b_M_move 9 (some .boolean)) 9 5 false := gCe.code wd_954 wd_57 wd_952 (by decide) (by decide +kernel)
def f_M_move (g0 : gG) (a0 : Nat) (p1 : Int32) (p2 : Int64) (p3 : Int64) (p4 : Int32) (p5 : Int32) (w : gW) : gX Int32 := (gck w a0 7).bind fun _ => gbind (f_M_isPlaced g0 a0 p1 w) fun v5 w => gjoin (fun K31 => if v5 = 0 then (K31 1 w) else (gbind (f_M_isSpot g0 p2 p3 p4 p5 w) fun v42 w => if v42 = 0 then (K31 2 w) else (K31 0 w))) (fun (y6 : Int32) (w : gW) => (gp w a0 7 0 (.int y6)).bind fun w => (gfI w a0 7 0).bind fun v8 => if v8 = 0 then ((gfA w a0 7 14).bind fun v11 => (gaJ w v11 p1).bind fun v13 => gjoin (fun K93 => gjoin (fun K88 => if v13 = p2 then ((gfA w a0 7 15).bind fun v23 => (gaJ w v23 p1).bind fun v25 => if v25 = p3 then ((gfA w a0 7 16).bind fun v28 => (gaI w v28 p1).bind fun v30 => if v30 = p4 then ((gfA w a0 7 17).bind fun v33 => (gaI w v33 p1).bind fun v35 => if v35 = p5 then (K93 0 w) else (K88 w)) else (K88 w)) else (K88 w)) else (K88 w)) (fun (w : gW) => K93 1 w)) (fun (y15 : Int32) (w : gW) => (gck w a0 7).bind fun _ => gbind (f_M_set g0 a0 p1 p2 p3 p4 p5 w) fun v20 w => gguard (y15 = 0 ∨ y15 = 1) (some (.inr y15, w)))) else (gguard ((0 : Int32) = 0 ∨ (0 : Int32) = 1) (some (.inr 0, w))))
set_option maxHeartbeats 4000000 in
set_option maxRecDepth 100000 in
theorem m_M_move (l : Launch) (hst : l.stackTraces = false) (D : gD) (g0 : gG) (a0 : Nat) (p1 : Int32) (p2 : Int64) (p3 : Int64) (p4 : Int32) (p5 : Int32) (w : gW) (r : (String ⊕ Int32) × gW) (h : f_M_move g0 a0 p1 p2 p3 p4 p5 w = some r) : gMet l y_M_move (.code y_M_move b_M_move 9 (some .boolean)) rm_M_move D g0 [.ref a0, .int p1, .long p2, .long p3, .int p4, .int p5] w (goI r) := by
  refine gw_ofZ (by decide +kernel) (Nat.le_of_ble_eq_true rfl) ?_
  intro p e s m below meth c ls args A Q hx hb hml hown hlocks hin hnt hT hK hZ hA hret hexc hthr hI hl
  obtain ⟨H, hH⟩ : ∃ H, H = s.heap := ⟨_, rfl⟩
  rw [← hH] at hI ⊢
  obtain ⟨locs, hlocs⟩ : ∃ z : List Loc, z = [] := ⟨_, rfl⟩
  rw [← hlocs] at hI ⊢
  have hl : lv_has ls 9 [(0, .ref a0), (1, .int p1), (2, .long p2), (4, .long p3), (6, .int p4), (7, .int p5)] := hl
  unfold f_M_move at h
  refine lv_aload_n hx hb d_M_move_0 rfl (lv_at hl 0 rfl) ?_
  refine lv_aload_n hx hb d_M_move_1 rfl (lv_at hl 0 rfl) ?_
  refine lv_iload_n hx hb d_M_move_2 rfl (lv_at hl 1 rfl) ?_
  obtain ⟨q3, e4, h⟩ := gb h
  obtain ⟨u1, e2⟩ := gsome h
  refine gw_callI e2 h (gw_runV (As := [.int p1]) (rest := [.ref a0]) hx hb hml hown hT hK hZ hA hI (ci := 7) rfl e4 (m_M_isPlaced l hst D g0 a0 p1 w u1 e2) ce_M_isPlaced wd_955 wd_23 ⟨by decide, by decide⟩ rfl rfl hl.1 rfl (lv_room (Nat.le_of_ble_eq_true rfl)) d_M_move_3 ⟨(show 0 + 0 ≤ 0 by omega), (show 0 + 0 ≤ 0 by omega)⟩) hI hA hexc (show 0 + 0 ≤ 0 by omega) (show 0 + 0 ≤ 0 by omega) (fun v5 w H locs h hI => ?_)
  obtain ⟨K31, eK31, h⟩ := gj h
  have hK31 : ∀ (y6 : Int32) (w : gW) (H : Heap) (locs : List Loc) (ls : Array Slot), K31 y6 w = some r → gI D s A w H locs → lv_has ls 9 [(0, .ref a0), (1, .int p1), (2, .long p2), (4, .long p3), (6, .int p4), (7, .int p5)] → W p l e rm_M_move s m args below meth c H locs 0 0 Q (F0 m 31 ls [.int y6, .ref a0]) := by
    intro y6 w H locs ls h hI hl
    have h := gk2 eK31 h
    obtain ⟨w, e7, h⟩ := gb h
    refine gw_put hx hb hT hown hK hI (ci := 7) rfl i_7 t_7 t_7_ok n_7 0 (by decide) wd_786 (fun _ h9 => h9) rfl (ty := .int) (by decide +kernel) rfl rfl e7 d_M_move_31 (fun H locs hI => ?_)
    refine lv_aload_n hx hb d_M_move_34 rfl (lv_at hl 0 rfl) ?_
    obtain ⟨v8, e9, h⟩ := gb h
    refine gw_getI hx hb hT hown hK hI (ci := 7) rfl i_7 0 (by decide) wd_786 (fun _ h9 => h9) e9 d_M_move_35 ?_
    refine lv_if_eq (tgt := 43) hx hb d_M_move_38 (by decide) (fun c10 => ?_) (fun c10 => ?_)
    · skip
      have h := git c10 h
      refine lv_aload_n hx hb d_M_move_43 rfl (lv_at hl 0 rfl) ?_
      obtain ⟨v11, e12, h⟩ := gb h
      refine gw_getA hx hb hT hown hK hI (ci := 7) rfl i_7 14 (by decide) wd_800 (fun _ h9 => h9) e12 d_M_move_44 ?_
      refine lv_iload_n hx hb d_M_move_47 rfl (lv_at hl 1 rfl) ?_
      obtain ⟨v13, e14, h⟩ := gb h
      refine gw_aldJ hx hb hK hI e14 d_M_move_48 ?_
      refine lv_lload_n hx hb d_M_move_49 rfl (lv_at hl 2 rfl) ?_
      refine W.lcmp hx hb d_M_move_50 ?_
      obtain ⟨K93, eK93, h⟩ := gj h
      have hK93 : ∀ (y15 : Int32) (w : gW) (H : Heap) (locs : List Loc) (ls : Array Slot), K93 y15 w = some r → gI D s A w H locs → lv_has ls 9 [(0, .ref a0), (1, .int p1), (2, .long p2), (4, .long p3), (6, .int p4), (7, .int p5)] → W p l e rm_M_move s m args below meth c H locs 0 0 Q (F0 m 93 ls [.int y15]) := by
        intro y15 w H locs ls h hI hl
        have h := gk2 eK93 h
        refine lv_istore (lv' := [(8, .int y15), (0, .ref a0), (1, .int p1), (2, .long p2), (4, .long p3), (6, .int p4), (7, .int p5)]) hx hb d_M_move_93 hl (by decide) rfl (fun ls hl => ?_)
        refine lv_aload_n hx hb d_M_move_95 rfl (lv_at hl 1 rfl) ?_
        refine lv_iload_n hx hb d_M_move_96 rfl (lv_at hl 2 rfl) ?_
        refine lv_lload_n hx hb d_M_move_97 rfl (lv_at hl 3 rfl) ?_
        refine lv_lload hx hb d_M_move_98 (lv_at hl 4 rfl) ?_
        refine lv_iload hx hb d_M_move_100 (lv_at hl 5 rfl) ?_
        refine lv_iload hx hb d_M_move_102 (lv_at hl 6 rfl) ?_
        obtain ⟨q18, e19, h⟩ := gb h
        obtain ⟨u16, e17⟩ := gsome h
        refine gw_callV e17 h (gw_runV (As := [.int p1, .long p2, .long p3, .int p4, .int p5]) (rest := []) hx hb hml hown hT hK hZ hA hI (ci := 7) rfl e19 (m_M_set l hst D g0 a0 p1 p2 p3 p4 p5 w u16 e17) ce_M_set wd_947 wd_22 ⟨by decide, by decide⟩ rfl rfl hl.1 rfl (lv_room (Nat.le_of_ble_eq_true rfl)) d_M_move_104 ⟨(show 0 + 0 ≤ 0 by omega), (show 0 + 0 ≤ 0 by omega)⟩) hI hA hexc (show 0 + 0 ≤ 0 by omega) (show 0 + 0 ≤ 0 by omega) (fun v20 w H locs h hI => ?_)
        refine lv_iload hx hb d_M_move_107 (lv_at hl 0 rfl) ?_
        obtain ⟨g21, h⟩ := gif h
        exact W.widen (show 0 ≤ 0 by omega) (show 0 ≤ 0 by omega) (hret g21 0 _ (Option.some.inj h).symm _ _ _ _ d_M_move_109 hI)
      obtain ⟨K88, eK88, h⟩ := gj h
      have hK88 : ∀ (w : gW) (H : Heap) (locs : List Loc) (ls : Array Slot), K88 w = some r → gI D s A w H locs → lv_has ls 9 [(0, .ref a0), (1, .int p1), (2, .long p2), (4, .long p3), (6, .int p4), (7, .int p5)] → W p l e rm_M_move s m args below meth c H locs 0 0 Q (F0 m 88 ls []) := by
        intro w H locs ls h hI hl
        have h := gk1 eK88 h
        refine lv_iconst (v := 1) hx hb d_M_move_88 (by decide) ?_
        refine lv_goto (tgt := 93) hx hb d_M_move_89 (by decide) ?_
        exact hK93 _ w H locs ls h hI (lv_sub hl [0, 1, 2, 3, 4, 5] rfl)
      refine lv_if_ne (tgt := 88) hx hb d_M_move_51 (by decide) (fun c22 => ?_) (fun c22 => ?_)
      · have c22 := mt (lg_cmp_eq _ _).mpr c22
        have h := gie c22 h
        exact hK88 w H locs ls h hI (lv_sub hl [0, 1, 2, 3, 4, 5] rfl)
      · have c22 := (lg_cmp_eq _ _).mp c22
        have h := git c22 h
        refine lv_aload_n hx hb d_M_move_54 rfl (lv_at hl 0 rfl) ?_
        obtain ⟨v23, e24, h⟩ := gb h
        refine gw_getA hx hb hT hown hK hI (ci := 7) rfl i_7 15 (by decide) wd_801 (fun _ h9 => h9) e24 d_M_move_55 ?_
        refine lv_iload_n hx hb d_M_move_58 rfl (lv_at hl 1 rfl) ?_
        obtain ⟨v25, e26, h⟩ := gb h
        refine gw_aldJ hx hb hK hI e26 d_M_move_59 ?_
        refine lv_lload hx hb d_M_move_60 (lv_at hl 3 rfl) ?_
        refine W.lcmp hx hb d_M_move_62 ?_
        refine lv_if_ne (tgt := 88) hx hb d_M_move_63 (by decide) (fun c27 => ?_) (fun c27 => ?_)
        · have c27 := mt (lg_cmp_eq _ _).mpr c27
          have h := gie c27 h
          exact hK88 w H locs ls h hI (lv_sub hl [0, 1, 2, 3, 4, 5] rfl)
        · have c27 := (lg_cmp_eq _ _).mp c27
          have h := git c27 h
          refine lv_aload_n hx hb d_M_move_66 rfl (lv_at hl 0 rfl) ?_
          obtain ⟨v28, e29, h⟩ := gb h
          refine gw_getA hx hb hT hown hK hI (ci := 7) rfl i_7 16 (by decide) wd_802 (fun _ h9 => h9) e29 d_M_move_67 ?_
          refine lv_iload_n hx hb d_M_move_70 rfl (lv_at hl 1 rfl) ?_
          obtain ⟨v30, e31, h⟩ := gb h
          refine gw_aldI hx hb hK hI e31 d_M_move_71 ?_
          refine lv_iload hx hb d_M_move_72 (lv_at hl 4 rfl) ?_
          refine lv_icmp_ne (tgt := 88) hx hb d_M_move_74 (by decide) (fun c32 => ?_) (fun c32 => ?_)
          · skip
            have h := gie c32 h
            exact hK88 w H locs ls h hI (lv_sub hl [0, 1, 2, 3, 4, 5] rfl)
          · skip
            have h := git c32 h
            refine lv_aload_n hx hb d_M_move_77 rfl (lv_at hl 0 rfl) ?_
            obtain ⟨v33, e34, h⟩ := gb h
            refine gw_getA hx hb hT hown hK hI (ci := 7) rfl i_7 17 (by decide) wd_803 (fun _ h9 => h9) e34 d_M_move_78 ?_
            refine lv_iload_n hx hb d_M_move_81 rfl (lv_at hl 1 rfl) ?_
            obtain ⟨v35, e36, h⟩ := gb h
            refine gw_aldI hx hb hK hI e36 d_M_move_82 ?_
            refine lv_iload hx hb d_M_move_83 (lv_at hl 5 rfl) ?_
            refine lv_icmp_eq (tgt := 92) hx hb d_M_move_85 (by decide) (fun c37 => ?_) (fun c37 => ?_)
            · skip
              have h := git c37 h
              refine lv_iconst (v := 0) hx hb d_M_move_92 (by decide) ?_
              exact hK93 _ w H locs ls h hI (lv_sub hl [0, 1, 2, 3, 4, 5] rfl)
            · skip
              have h := gie c37 h
              exact hK88 w H locs ls h hI (lv_sub hl [0, 1, 2, 3, 4, 5] rfl)
    · skip
      have h := gie c10 h
      refine lv_iconst (v := 0) hx hb d_M_move_41 (by decide) ?_
      obtain ⟨g38, h⟩ := gif h
      exact W.widen (show 0 ≤ 0 by omega) (show 0 ≤ 0 by omega) (hret g38 0 _ (Option.some.inj h).symm _ _ _ _ d_M_move_42 hI)
  refine lv_if_ne (tgt := 13) hx hb d_M_move_6 (by decide) (fun c39 => ?_) (fun c39 => ?_)
  · skip
    have h := gie c39 h
    refine lv_lload_n hx hb d_M_move_13 rfl (lv_at hl 2 rfl) ?_
    refine lv_lload hx hb d_M_move_14 (lv_at hl 3 rfl) ?_
    refine lv_iload hx hb d_M_move_16 (lv_at hl 4 rfl) ?_
    refine lv_iload hx hb d_M_move_18 (lv_at hl 5 rfl) ?_
    obtain ⟨u40, e41⟩ := gsome h
    refine gw_callI e41 h (gw_runS (As := [.long p2, .long p3, .int p4, .int p5]) (rest := [.ref a0]) hx hb hml hown hT hK hZ hA hI (m_M_isSpot l hst D g0 p2 p3 p4 p5 w u40 e41) ce_M_isSpot wd_944 ⟨by decide, by decide⟩ rfl rfl hl.1 rfl (lv_room (Nat.le_of_ble_eq_true rfl)) d_M_move_20 ⟨(show 0 + 0 ≤ 0 by omega), (show 0 + 0 ≤ 0 by omega)⟩) hI hA hexc (show 0 + 0 ≤ 0 by omega) (show 0 + 0 ≤ 0 by omega) (fun v42 w H locs h hI => ?_)
    refine lv_if_eq (tgt := 30) hx hb d_M_move_23 (by decide) (fun c43 => ?_) (fun c43 => ?_)
    · skip
      have h := git c43 h
      refine lv_iconst (v := 2) hx hb d_M_move_30 (by decide) ?_
      exact hK31 _ w H locs ls h hI (lv_sub hl [0, 1, 2, 3, 4, 5] rfl)
    · skip
      have h := gie c43 h
      refine lv_iconst (v := 0) hx hb d_M_move_26 (by decide) ?_
      refine lv_goto (tgt := 31) hx hb d_M_move_27 (by decide) ?_
      exact hK31 _ w H locs ls h hI (lv_sub hl [0, 1, 2, 3, 4, 5] rfl)
  · skip
    have h := git c39 h
    refine lv_iconst (v := 1) hx hb d_M_move_9 (by decide) ?_
    refine lv_goto (tgt := 31) hx hb d_M_move_10 (by decide) ?_
    exact hK31 _ w H locs ls h hI (lv_sub hl [0, 1, 2, 3, 4, 5] rfl)

abbrev b_M_thrown : ByteArray := prog_9_method_2_code
def y_M_thrown : MethodName := ⟨"BodySolidsModel", "thrown", "()I"⟩
theorem d_M_thrown_0 : decode b_M_thrown 0 = .ok (.aload_n 0, 1) := by decide +kernel
theorem d_M_thrown_1 : decode b_M_thrown 1 = .ok (.getfield 80, 3) := by decide +kernel
theorem d_M_thrown_4 : decode b_M_thrown 4 = .ok (.ireturn, 1) := by decide +kernel
abbrev rm_M_thrown : Room := { frames := 0, cells := 0, slots := 0, locals := 0 }
theorem ce_M_thrown : gCe y_M_thrown (.code y_M_thrown b_M_thrown 1 (some .int)) 1 0 false := gCe.code wd_871 wd_57 wd_869 (by decide) (by decide +kernel)
def f_M_thrown (g0 : gG) (a0 : Nat) (w : gW) : gX Int32 := (gfI w a0 7 0).bind fun v1 => some (.inr v1, w)
set_option maxHeartbeats 4000000 in
set_option maxRecDepth 100000 in
theorem m_M_thrown (l : Launch) (hst : l.stackTraces = false) (D : gD) (g0 : gG) (a0 : Nat) (w : gW) (r : (String ⊕ Int32) × gW) (h : f_M_thrown g0 a0 w = some r) : gMet l y_M_thrown (.code y_M_thrown b_M_thrown 1 (some .int)) rm_M_thrown D g0 [.ref a0] w (goI r) := by
  refine gw_ofI (by decide +kernel) (Nat.le_of_ble_eq_true rfl) ?_
  intro p e s m below meth c ls args A Q hx hb hml hown hlocks hin hnt hT hK hZ hA hret hexc hthr hI hl
  obtain ⟨H, hH⟩ : ∃ H, H = s.heap := ⟨_, rfl⟩
  rw [← hH] at hI ⊢
  obtain ⟨locs, hlocs⟩ : ∃ z : List Loc, z = [] := ⟨_, rfl⟩
  rw [← hlocs] at hI ⊢
  have hl : lv_has ls 1 [(0, .ref a0)] := hl
  unfold f_M_thrown at h
  refine lv_aload_n hx hb d_M_thrown_0 rfl (lv_at hl 0 rfl) ?_
  obtain ⟨v1, e2, h⟩ := gb h
  refine gw_getI hx hb hT hown hK hI (ci := 7) rfl i_7 0 (by decide) wd_786 (fun _ h9 => h9) e2 d_M_thrown_1 ?_
  exact W.widen (show 0 ≤ 0 by omega) (show 0 ≤ 0 by omega) (hret _ _ (Option.some.inj h).symm _ _ _ _ d_M_thrown_4 hI)
