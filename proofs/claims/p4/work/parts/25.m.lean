abbrev b_M_cylinder : ByteArray := prog_9_method_14_code
def y_M_cylinder : MethodName := ⟨"BodySolidsModel", "cylinder", "(IJJJJJ)Z"⟩
theorem d_M_cylinder_0 : decode b_M_cylinder 0 = .ok (.lload_n 2, 1) := by decide +kernel
theorem d_M_cylinder_1 : decode b_M_cylinder 1 = .ok (.lload 4, 2) := by decide +kernel
theorem d_M_cylinder_3 : decode b_M_cylinder 3 = .ok (.invokestatic 102, 3) := by decide +kernel
theorem d_M_cylinder_6 : decode b_M_cylinder 6 = .ok (.ifCond .eq 25, 3) := by decide +kernel
theorem d_M_cylinder_9 : decode b_M_cylinder 9 = .ok (.lload 8, 2) := by decide +kernel
theorem d_M_cylinder_11 : decode b_M_cylinder 11 = .ok (.invokestatic 98, 3) := by decide +kernel
theorem d_M_cylinder_14 : decode b_M_cylinder 14 = .ok (.ifCond .eq 17, 3) := by decide +kernel
theorem d_M_cylinder_17 : decode b_M_cylinder 17 = .ok (.lload 6, 2) := by decide +kernel
theorem d_M_cylinder_19 : decode b_M_cylinder 19 = .ok (.lload 10, 2) := by decide +kernel
theorem d_M_cylinder_21 : decode b_M_cylinder 21 = .ok (.invokestatic 106, 3) := by decide +kernel
theorem d_M_cylinder_24 : decode b_M_cylinder 24 = .ok (.ifCond .eq 7, 3) := by decide +kernel
theorem d_M_cylinder_27 : decode b_M_cylinder 27 = .ok (.iconst 1, 1) := by decide +kernel
theorem d_M_cylinder_28 : decode b_M_cylinder 28 = .ok (.goto 4, 3) := by decide +kernel
theorem d_M_cylinder_31 : decode b_M_cylinder 31 = .ok (.iconst 0, 1) := by decide +kernel
theorem d_M_cylinder_32 : decode b_M_cylinder 32 = .ok (.istore 12, 2) := by decide +kernel
theorem d_M_cylinder_34 : decode b_M_cylinder 34 = .ok (.aload_n 0, 1) := by decide +kernel
theorem d_M_cylinder_35 : decode b_M_cylinder 35 = .ok (.aload_n 0, 1) := by decide +kernel
theorem d_M_cylinder_36 : decode b_M_cylinder 36 = .ok (.iload_n 1, 1) := by decide +kernel
theorem d_M_cylinder_37 : decode b_M_cylinder 37 = .ok (.invokevirtual 109, 3) := by decide +kernel
theorem d_M_cylinder_40 : decode b_M_cylinder 40 = .ok (.ifCond .ne 7, 3) := by decide +kernel
theorem d_M_cylinder_43 : decode b_M_cylinder 43 = .ok (.iconst 1, 1) := by decide +kernel
theorem d_M_cylinder_44 : decode b_M_cylinder 44 = .ok (.goto 13, 3) := by decide +kernel
theorem d_M_cylinder_47 : decode b_M_cylinder 47 = .ok (.iload 12, 2) := by decide +kernel
theorem d_M_cylinder_49 : decode b_M_cylinder 49 = .ok (.ifCond .eq 7, 3) := by decide +kernel
theorem d_M_cylinder_52 : decode b_M_cylinder 52 = .ok (.iconst 0, 1) := by decide +kernel
theorem d_M_cylinder_53 : decode b_M_cylinder 53 = .ok (.goto 4, 3) := by decide +kernel
theorem d_M_cylinder_56 : decode b_M_cylinder 56 = .ok (.iconst 2, 1) := by decide +kernel
theorem d_M_cylinder_57 : decode b_M_cylinder 57 = .ok (.putfield 80, 3) := by decide +kernel
theorem d_M_cylinder_60 : decode b_M_cylinder 60 = .ok (.aload_n 0, 1) := by decide +kernel
theorem d_M_cylinder_61 : decode b_M_cylinder 61 = .ok (.getfield 80, 3) := by decide +kernel
theorem d_M_cylinder_64 : decode b_M_cylinder 64 = .ok (.ifCond .eq 5, 3) := by decide +kernel
theorem d_M_cylinder_67 : decode b_M_cylinder 67 = .ok (.iconst 0, 1) := by decide +kernel
theorem d_M_cylinder_68 : decode b_M_cylinder 68 = .ok (.ireturn, 1) := by decide +kernel
theorem d_M_cylinder_69 : decode b_M_cylinder 69 = .ok (.aload_n 0, 1) := by decide +kernel
theorem d_M_cylinder_70 : decode b_M_cylinder 70 = .ok (.iload_n 1, 1) := by decide +kernel
theorem d_M_cylinder_71 : decode b_M_cylinder 71 = .ok (.iconst 1, 1) := by decide +kernel
theorem d_M_cylinder_72 : decode b_M_cylinder 72 = .ok (.invokevirtual 113, 3) := by decide +kernel
theorem d_M_cylinder_75 : decode b_M_cylinder 75 = .ok (.istore 13, 2) := by decide +kernel
theorem d_M_cylinder_77 : decode b_M_cylinder 77 = .ok (.iload 13, 2) := by decide +kernel
theorem d_M_cylinder_79 : decode b_M_cylinder 79 = .ok (.iconst (-1), 1) := by decide +kernel
theorem d_M_cylinder_80 : decode b_M_cylinder 80 = .ok (.if_icmp .ne 5, 3) := by decide +kernel
theorem d_M_cylinder_83 : decode b_M_cylinder 83 = .ok (.iconst 0, 1) := by decide +kernel
theorem d_M_cylinder_84 : decode b_M_cylinder 84 = .ok (.ireturn, 1) := by decide +kernel
theorem d_M_cylinder_85 : decode b_M_cylinder 85 = .ok (.aload_n 0, 1) := by decide +kernel
theorem d_M_cylinder_86 : decode b_M_cylinder 86 = .ok (.iload 13, 2) := by decide +kernel
theorem d_M_cylinder_88 : decode b_M_cylinder 88 = .ok (.iconst 0, 1) := by decide +kernel
theorem d_M_cylinder_89 : decode b_M_cylinder 89 = .ok (.lload_n 2, 1) := by decide +kernel
theorem d_M_cylinder_90 : decode b_M_cylinder 90 = .ok (.invokevirtual 117, 3) := by decide +kernel
theorem d_M_cylinder_93 : decode b_M_cylinder 93 = .ok (.aload_n 0, 1) := by decide +kernel
theorem d_M_cylinder_94 : decode b_M_cylinder 94 = .ok (.iload 13, 2) := by decide +kernel
theorem d_M_cylinder_96 : decode b_M_cylinder 96 = .ok (.iconst 1, 1) := by decide +kernel
theorem d_M_cylinder_97 : decode b_M_cylinder 97 = .ok (.lload 4, 2) := by decide +kernel
theorem d_M_cylinder_99 : decode b_M_cylinder 99 = .ok (.invokevirtual 117, 3) := by decide +kernel
theorem d_M_cylinder_102 : decode b_M_cylinder 102 = .ok (.aload_n 0, 1) := by decide +kernel
theorem d_M_cylinder_103 : decode b_M_cylinder 103 = .ok (.iload 13, 2) := by decide +kernel
theorem d_M_cylinder_105 : decode b_M_cylinder 105 = .ok (.iconst 2, 1) := by decide +kernel
theorem d_M_cylinder_106 : decode b_M_cylinder 106 = .ok (.lload 6, 2) := by decide +kernel
theorem d_M_cylinder_108 : decode b_M_cylinder 108 = .ok (.invokevirtual 117, 3) := by decide +kernel
theorem d_M_cylinder_111 : decode b_M_cylinder 111 = .ok (.aload_n 0, 1) := by decide +kernel
theorem d_M_cylinder_112 : decode b_M_cylinder 112 = .ok (.iload 13, 2) := by decide +kernel
theorem d_M_cylinder_114 : decode b_M_cylinder 114 = .ok (.iconst 3, 1) := by decide +kernel
theorem d_M_cylinder_115 : decode b_M_cylinder 115 = .ok (.lload 8, 2) := by decide +kernel
theorem d_M_cylinder_117 : decode b_M_cylinder 117 = .ok (.invokevirtual 117, 3) := by decide +kernel
theorem d_M_cylinder_120 : decode b_M_cylinder 120 = .ok (.aload_n 0, 1) := by decide +kernel
theorem d_M_cylinder_121 : decode b_M_cylinder 121 = .ok (.iload 13, 2) := by decide +kernel
theorem d_M_cylinder_123 : decode b_M_cylinder 123 = .ok (.iconst 5, 1) := by decide +kernel
theorem d_M_cylinder_124 : decode b_M_cylinder 124 = .ok (.lload 10, 2) := by decide +kernel
theorem d_M_cylinder_126 : decode b_M_cylinder 126 = .ok (.invokevirtual 117, 3) := by decide +kernel
theorem d_M_cylinder_129 : decode b_M_cylinder 129 = .ok (.iconst 1, 1) := by decide +kernel
theorem d_M_cylinder_130 : decode b_M_cylinder 130 = .ok (.ireturn, 1) := by decide +kernel
abbrev rm_M_cylinder : Room := { frames := 3, cells := 0, slots := 0, locals := 69 }
theorem ce_M_cylinder : gCe y_M_cylinder (.code y_M_cylinder b_M_cylinder 14 (some .boolean)) 14 6 false := gCe.code wd_909 wd_57 wd_907 (by decide) (by decide +kernel)
def f_M_cylinder (g0 : gG) (a0 : Nat) (p1 : Int32) (p2 : Int64) (p3 : Int64) (p4 : Int64) (p5 : Int64) (p6 : Int64) (w : gW) : gX Int32 := gbind (f_M_isPlace g0 p2 p3 w) fun v3 w => gjoin (fun K32 => gjoin (fun K31 => if v3 = 0 then (K31 w) else (gbind (f_M_isLong g0 p5 w) fun v54 w => if v54 = 0 then (K31 w) else (gbind (f_M_isUpright g0 p4 p6 w) fun v58 w => if v58 = 0 then (K31 w) else (K32 1 w)))) (fun (w : gW) => K32 0 w)) (fun (y4 : Int32) (w : gW) => (gck w a0 7).bind fun _ => gbind (f_M_isBody g0 a0 p1 w) fun v9 w => gjoin (fun K57 => if v9 = 0 then (K57 1 w) else (if y4 = 0 then (K57 2 w) else (K57 0 w))) (fun (y10 : Int32) (w : gW) => (gp w a0 7 0 (.int y10)).bind fun w => (gfI w a0 7 0).bind fun v12 => if v12 = 0 then ((gck w a0 7).bind fun _ => gbind (f_M_fresh g0 a0 p1 1 w) fun v19 w => if v19 = (-1) then (gguard ((0 : Int32) = 0 ∨ (0 : Int32) = 1) (some (.inr 0, w))) else ((gck w a0 7).bind fun _ => gbind (f_M_tell g0 a0 v19 0 p2 w) fun v25 w => (gck w a0 7).bind fun _ => gbind (f_M_tell g0 a0 v19 1 p3 w) fun v30 w => (gck w a0 7).bind fun _ => gbind (f_M_tell g0 a0 v19 2 p4 w) fun v35 w => (gck w a0 7).bind fun _ => gbind (f_M_tell g0 a0 v19 3 p5 w) fun v40 w => (gck w a0 7).bind fun _ => gbind (f_M_tell g0 a0 v19 5 p6 w) fun v45 w => gguard ((1 : Int32) = 0 ∨ (1 : Int32) = 1) (some (.inr 1, w)))) else (gguard ((0 : Int32) = 0 ∨ (0 : Int32) = 1) (some (.inr 0, w)))))
set_option maxHeartbeats 4000000 in
set_option maxRecDepth 100000 in
theorem m_M_cylinder (l : Launch) (hst : l.stackTraces = false) (D : gD) (g0 : gG) (a0 : Nat) (p1 : Int32) (p2 : Int64) (p3 : Int64) (p4 : Int64) (p5 : Int64) (p6 : Int64) (w : gW) (r : (String ⊕ Int32) × gW) (h : f_M_cylinder g0 a0 p1 p2 p3 p4 p5 p6 w = some r) : gMet l y_M_cylinder (.code y_M_cylinder b_M_cylinder 14 (some .boolean)) rm_M_cylinder D g0 [.ref a0, .int p1, .long p2, .long p3, .long p4, .long p5, .long p6] w (goI r) := by
  refine gw_ofZ (by decide +kernel) (Nat.le_of_ble_eq_true rfl) ?_
  intro p e s m below meth c ls args A Q hx hb hml hown hlocks hin hnt hT hK hZ hA hret hexc hthr hI hl
  obtain ⟨H, hH⟩ : ∃ H, H = s.heap := ⟨_, rfl⟩
  rw [← hH] at hI ⊢
  obtain ⟨locs, hlocs⟩ : ∃ z : List Loc, z = [] := ⟨_, rfl⟩
  rw [← hlocs] at hI ⊢
  have hl : lv_has ls 14 [(0, .ref a0), (1, .int p1), (2, .long p2), (4, .long p3), (6, .long p4), (8, .long p5), (10, .long p6)] := hl
  unfold f_M_cylinder at h
  refine lv_lload_n hx hb d_M_cylinder_0 rfl (lv_at hl 2 rfl) ?_
  refine lv_lload hx hb d_M_cylinder_1 (lv_at hl 3 rfl) ?_
  obtain ⟨u1, e2⟩ := gsome h
  refine gw_callI e2 h (gw_runS (As := [.long p2, .long p3]) (rest := []) hx hb hml hown hT hK hZ hA hI (m_M_isPlace l hst D g0 p2 p3 w u1 e2) ce_M_isPlace wd_880 ⟨by decide, by decide⟩ rfl rfl hl.1 rfl (lv_room (Nat.le_of_ble_eq_true rfl)) d_M_cylinder_3 ⟨(show 0 + 0 ≤ 0 by omega), (show 0 + 0 ≤ 0 by omega)⟩) hI hA hexc (show 0 + 0 ≤ 0 by omega) (show 0 + 0 ≤ 0 by omega) (fun v3 w H locs h hI => ?_)
  obtain ⟨K32, eK32, h⟩ := gj h
  have hK32 : ∀ (y4 : Int32) (w : gW) (H : Heap) (locs : List Loc) (ls : Array Slot), K32 y4 w = some r → gI D s A w H locs → lv_has ls 14 [(0, .ref a0), (1, .int p1), (2, .long p2), (4, .long p3), (6, .long p4), (8, .long p5), (10, .long p6)] → W p l e rm_M_cylinder s m args below meth c H locs 0 0 Q (F0 m 32 ls [.int y4]) := by
    intro y4 w H locs ls h hI hl
    have h := gk2 eK32 h
    refine lv_istore (lv' := [(12, .int y4), (0, .ref a0), (1, .int p1), (2, .long p2), (4, .long p3), (6, .long p4), (8, .long p5), (10, .long p6)]) hx hb d_M_cylinder_32 hl (by decide) rfl (fun ls hl => ?_)
    refine lv_aload_n hx hb d_M_cylinder_34 rfl (lv_at hl 1 rfl) ?_
    refine lv_aload_n hx hb d_M_cylinder_35 rfl (lv_at hl 1 rfl) ?_
    refine lv_iload_n hx hb d_M_cylinder_36 rfl (lv_at hl 2 rfl) ?_
    obtain ⟨q7, e8, h⟩ := gb h
    obtain ⟨u5, e6⟩ := gsome h
    refine gw_callI e6 h (gw_runV (As := [.int p1]) (rest := [.ref a0]) hx hb hml hown hT hK hZ hA hI (ci := 7) rfl e8 (m_M_isBody l hst D g0 a0 p1 w u5 e6) ce_M_isBody wd_894 wd_17 ⟨by decide, by decide⟩ rfl rfl hl.1 rfl (lv_room (Nat.le_of_ble_eq_true rfl)) d_M_cylinder_37 ⟨(show 0 + 0 ≤ 0 by omega), (show 0 + 0 ≤ 0 by omega)⟩) hI hA hexc (show 0 + 0 ≤ 0 by omega) (show 0 + 0 ≤ 0 by omega) (fun v9 w H locs h hI => ?_)
    obtain ⟨K57, eK57, h⟩ := gj h
    have hK57 : ∀ (y10 : Int32) (w : gW) (H : Heap) (locs : List Loc) (ls : Array Slot), K57 y10 w = some r → gI D s A w H locs → lv_has ls 14 [(0, .ref a0), (1, .int p1), (2, .long p2), (4, .long p3), (6, .long p4), (8, .long p5), (10, .long p6)] → W p l e rm_M_cylinder s m args below meth c H locs 0 0 Q (F0 m 57 ls [.int y10, .ref a0]) := by
      intro y10 w H locs ls h hI hl
      have h := gk2 eK57 h
      obtain ⟨w, e11, h⟩ := gb h
      refine gw_put hx hb hT hown hK hI (ci := 7) rfl i_7 t_7 t_7_ok n_7 0 (by decide) wd_786 (fun _ h9 => h9) rfl (ty := .int) (by decide +kernel) rfl rfl e11 d_M_cylinder_57 (fun H locs hI => ?_)
      refine lv_aload_n hx hb d_M_cylinder_60 rfl (lv_at hl 0 rfl) ?_
      obtain ⟨v12, e13, h⟩ := gb h
      refine gw_getI hx hb hT hown hK hI (ci := 7) rfl i_7 0 (by decide) wd_786 (fun _ h9 => h9) e13 d_M_cylinder_61 ?_
      refine lv_if_eq (tgt := 69) hx hb d_M_cylinder_64 (by decide) (fun c14 => ?_) (fun c14 => ?_)
      · skip
        have h := git c14 h
        refine lv_aload_n hx hb d_M_cylinder_69 rfl (lv_at hl 0 rfl) ?_
        refine lv_iload_n hx hb d_M_cylinder_70 rfl (lv_at hl 1 rfl) ?_
        refine lv_iconst (v := 1) hx hb d_M_cylinder_71 (by decide) ?_
        obtain ⟨q17, e18, h⟩ := gb h
        obtain ⟨u15, e16⟩ := gsome h
        refine gw_callI e16 h (gw_runV (As := [.int p1, .int 1]) (rest := []) hx hb hml hown hT hK hZ hA hI (ci := 7) rfl e18 (m_M_fresh l hst D g0 a0 p1 1 w u15 e16) ce_M_fresh wd_898 wd_18 ⟨by decide, by decide⟩ rfl rfl hl.1 rfl (lv_room (Nat.le_of_ble_eq_true rfl)) d_M_cylinder_72 ⟨(show 0 + 0 ≤ 0 by omega), (show 0 + 0 ≤ 0 by omega)⟩) hI hA hexc (show 0 + 0 ≤ 0 by omega) (show 0 + 0 ≤ 0 by omega) (fun v19 w H locs h hI => ?_)
        refine lv_istore (lv' := [(13, .int v19), (0, .ref a0), (1, .int p1), (2, .long p2), (4, .long p3), (6, .long p4), (8, .long p5), (10, .long p6)]) hx hb d_M_cylinder_75 hl (by decide) rfl (fun ls hl => ?_)
        refine lv_iload hx hb d_M_cylinder_77 (lv_at hl 0 rfl) ?_
        refine lv_iconst (v := -1) hx hb d_M_cylinder_79 (by decide) ?_
        refine lv_icmp_ne (tgt := 85) hx hb d_M_cylinder_80 (by decide) (fun c20 => ?_) (fun c20 => ?_)
        · skip
          have h := gie c20 h
          refine lv_aload_n hx hb d_M_cylinder_85 rfl (lv_at hl 1 rfl) ?_
          refine lv_iload hx hb d_M_cylinder_86 (lv_at hl 0 rfl) ?_
          refine lv_iconst (v := 0) hx hb d_M_cylinder_88 (by decide) ?_
          refine lv_lload_n hx hb d_M_cylinder_89 rfl (lv_at hl 3 rfl) ?_
          obtain ⟨q23, e24, h⟩ := gb h
          obtain ⟨u21, e22⟩ := gsome h
          refine gw_callV e22 h (gw_runV (As := [.int v19, .int 0, .long p2]) (rest := []) hx hb hml hown hT hK hZ hA hI (ci := 7) rfl e24 (m_M_tell l hst D g0 a0 v19 0 p2 w u21 e22) ce_M_tell wd_902 wd_19 ⟨by decide, by decide⟩ rfl rfl hl.1 rfl (lv_room (Nat.le_of_ble_eq_true rfl)) d_M_cylinder_90 ⟨(show 0 + 0 ≤ 0 by omega), (show 0 + 0 ≤ 0 by omega)⟩) hI hA hexc (show 0 + 0 ≤ 0 by omega) (show 0 + 0 ≤ 0 by omega) (fun v25 w H locs h hI => ?_)
          refine lv_aload_n hx hb d_M_cylinder_93 rfl (lv_at hl 1 rfl) ?_
          refine lv_iload hx hb d_M_cylinder_94 (lv_at hl 0 rfl) ?_
          refine lv_iconst (v := 1) hx hb d_M_cylinder_96 (by decide) ?_
          refine lv_lload hx hb d_M_cylinder_97 (lv_at hl 4 rfl) ?_
          obtain ⟨q28, e29, h⟩ := gb h
          obtain ⟨u26, e27⟩ := gsome h
          refine gw_callV e27 h (gw_runV (As := [.int v19, .int 1, .long p3]) (rest := []) hx hb hml hown hT hK hZ hA hI (ci := 7) rfl e29 (m_M_tell l hst D g0 a0 v19 1 p3 w u26 e27) ce_M_tell wd_902 wd_19 ⟨by decide, by decide⟩ rfl rfl hl.1 rfl (lv_room (Nat.le_of_ble_eq_true rfl)) d_M_cylinder_99 ⟨(show 0 + 0 ≤ 0 by omega), (show 0 + 0 ≤ 0 by omega)⟩) hI hA hexc (show 0 + 0 ≤ 0 by omega) (show 0 + 0 ≤ 0 by omega) (fun v30 w H locs h hI => ?_)
          refine lv_aload_n hx hb d_M_cylinder_102 rfl (lv_at hl 1 rfl) ?_
          refine lv_iload hx hb d_M_cylinder_103 (lv_at hl 0 rfl) ?_
          refine lv_iconst (v := 2) hx hb d_M_cylinder_105 (by decide) ?_
          refine lv_lload hx hb d_M_cylinder_106 (lv_at hl 5 rfl) ?_
          obtain ⟨q33, e34, h⟩ := gb h
          obtain ⟨u31, e32⟩ := gsome h
          refine gw_callV e32 h (gw_runV (As := [.int v19, .int 2, .long p4]) (rest := []) hx hb hml hown hT hK hZ hA hI (ci := 7) rfl e34 (m_M_tell l hst D g0 a0 v19 2 p4 w u31 e32) ce_M_tell wd_902 wd_19 ⟨by decide, by decide⟩ rfl rfl hl.1 rfl (lv_room (Nat.le_of_ble_eq_true rfl)) d_M_cylinder_108 ⟨(show 0 + 0 ≤ 0 by omega), (show 0 + 0 ≤ 0 by omega)⟩) hI hA hexc (show 0 + 0 ≤ 0 by omega) (show 0 + 0 ≤ 0 by omega) (fun v35 w H locs h hI => ?_)
          refine lv_aload_n hx hb d_M_cylinder_111 rfl (lv_at hl 1 rfl) ?_
          refine lv_iload hx hb d_M_cylinder_112 (lv_at hl 0 rfl) ?_
          refine lv_iconst (v := 3) hx hb d_M_cylinder_114 (by decide) ?_
          refine lv_lload hx hb d_M_cylinder_115 (lv_at hl 6 rfl) ?_
          obtain ⟨q38, e39, h⟩ := gb h
          obtain ⟨u36, e37⟩ := gsome h
          refine gw_callV e37 h (gw_runV (As := [.int v19, .int 3, .long p5]) (rest := []) hx hb hml hown hT hK hZ hA hI (ci := 7) rfl e39 (m_M_tell l hst D g0 a0 v19 3 p5 w u36 e37) ce_M_tell wd_902 wd_19 ⟨by decide, by decide⟩ rfl rfl hl.1 rfl (lv_room (Nat.le_of_ble_eq_true rfl)) d_M_cylinder_117 ⟨(show 0 + 0 ≤ 0 by omega), (show 0 + 0 ≤ 0 by omega)⟩) hI hA hexc (show 0 + 0 ≤ 0 by omega) (show 0 + 0 ≤ 0 by omega) (fun v40 w H locs h hI => ?_)
          refine lv_aload_n hx hb d_M_cylinder_120 rfl (lv_at hl 1 rfl) ?_
          refine lv_iload hx hb d_M_cylinder_121 (lv_at hl 0 rfl) ?_
          refine lv_iconst (v := 5) hx hb d_M_cylinder_123 (by decide) ?_
          refine lv_lload hx hb d_M_cylinder_124 (lv_at hl 7 rfl) ?_
          obtain ⟨q43, e44, h⟩ := gb h
          obtain ⟨u41, e42⟩ := gsome h
          refine gw_callV e42 h (gw_runV (As := [.int v19, .int 5, .long p6]) (rest := []) hx hb hml hown hT hK hZ hA hI (ci := 7) rfl e44 (m_M_tell l hst D g0 a0 v19 5 p6 w u41 e42) ce_M_tell wd_902 wd_19 ⟨by decide, by decide⟩ rfl rfl hl.1 rfl (lv_room (Nat.le_of_ble_eq_true rfl)) d_M_cylinder_126 ⟨(show 0 + 0 ≤ 0 by omega), (show 0 + 0 ≤ 0 by omega)⟩) hI hA hexc (show 0 + 0 ≤ 0 by omega) (show 0 + 0 ≤ 0 by omega) (fun v45 w H locs h hI => ?_)
          refine lv_iconst (v := 1) hx hb d_M_cylinder_129 (by decide) ?_
          obtain ⟨g46, h⟩ := gif h
          exact W.widen (show 0 ≤ 0 by omega) (show 0 ≤ 0 by omega) (hret g46 0 _ (Option.some.inj h).symm _ _ _ _ d_M_cylinder_130 hI)
        · skip
          have h := git c20 h
          refine lv_iconst (v := 0) hx hb d_M_cylinder_83 (by decide) ?_
          obtain ⟨g47, h⟩ := gif h
          exact W.widen (show 0 ≤ 0 by omega) (show 0 ≤ 0 by omega) (hret g47 0 _ (Option.some.inj h).symm _ _ _ _ d_M_cylinder_84 hI)
      · skip
        have h := gie c14 h
        refine lv_iconst (v := 0) hx hb d_M_cylinder_67 (by decide) ?_
        obtain ⟨g48, h⟩ := gif h
        exact W.widen (show 0 ≤ 0 by omega) (show 0 ≤ 0 by omega) (hret g48 0 _ (Option.some.inj h).symm _ _ _ _ d_M_cylinder_68 hI)
    refine lv_if_ne (tgt := 47) hx hb d_M_cylinder_40 (by decide) (fun c49 => ?_) (fun c49 => ?_)
    · skip
      have h := gie c49 h
      refine lv_iload hx hb d_M_cylinder_47 (lv_at hl 0 rfl) ?_
      refine lv_if_eq (tgt := 56) hx hb d_M_cylinder_49 (by decide) (fun c50 => ?_) (fun c50 => ?_)
      · skip
        have h := git c50 h
        refine lv_iconst (v := 2) hx hb d_M_cylinder_56 (by decide) ?_
        exact hK57 _ w H locs ls h hI (lv_sub hl [1, 2, 3, 4, 5, 6, 7] rfl)
      · skip
        have h := gie c50 h
        refine lv_iconst (v := 0) hx hb d_M_cylinder_52 (by decide) ?_
        refine lv_goto (tgt := 57) hx hb d_M_cylinder_53 (by decide) ?_
        exact hK57 _ w H locs ls h hI (lv_sub hl [1, 2, 3, 4, 5, 6, 7] rfl)
    · skip
      have h := git c49 h
      refine lv_iconst (v := 1) hx hb d_M_cylinder_43 (by decide) ?_
      refine lv_goto (tgt := 57) hx hb d_M_cylinder_44 (by decide) ?_
      exact hK57 _ w H locs ls h hI (lv_sub hl [1, 2, 3, 4, 5, 6, 7] rfl)
  obtain ⟨K31, eK31, h⟩ := gj h
  have hK31 : ∀ (w : gW) (H : Heap) (locs : List Loc) (ls : Array Slot), K31 w = some r → gI D s A w H locs → lv_has ls 14 [(0, .ref a0), (1, .int p1), (2, .long p2), (4, .long p3), (6, .long p4), (8, .long p5), (10, .long p6)] → W p l e rm_M_cylinder s m args below meth c H locs 0 0 Q (F0 m 31 ls []) := by
    intro w H locs ls h hI hl
    have h := gk1 eK31 h
    refine lv_iconst (v := 0) hx hb d_M_cylinder_31 (by decide) ?_
    exact hK32 _ w H locs ls h hI (lv_sub hl [0, 1, 2, 3, 4, 5, 6] rfl)
  refine lv_if_eq (tgt := 31) hx hb d_M_cylinder_6 (by decide) (fun c51 => ?_) (fun c51 => ?_)
  · skip
    have h := git c51 h
    exact hK31 w H locs ls h hI (lv_sub hl [0, 1, 2, 3, 4, 5, 6] rfl)
  · skip
    have h := gie c51 h
    refine lv_lload hx hb d_M_cylinder_9 (lv_at hl 5 rfl) ?_
    obtain ⟨u52, e53⟩ := gsome h
    refine gw_callI e53 h (gw_runS (As := [.long p5]) (rest := []) hx hb hml hown hT hK hZ hA hI (m_M_isLong l hst D g0 p5 w u52 e53) ce_M_isLong wd_888 ⟨by decide, by decide⟩ rfl rfl hl.1 rfl (lv_room (Nat.le_of_ble_eq_true rfl)) d_M_cylinder_11 ⟨(show 0 + 0 ≤ 0 by omega), (show 0 + 0 ≤ 0 by omega)⟩) hI hA hexc (show 0 + 0 ≤ 0 by omega) (show 0 + 0 ≤ 0 by omega) (fun v54 w H locs h hI => ?_)
    refine lv_if_eq (tgt := 31) hx hb d_M_cylinder_14 (by decide) (fun c55 => ?_) (fun c55 => ?_)
    · skip
      have h := git c55 h
      exact hK31 w H locs ls h hI (lv_sub hl [0, 1, 2, 3, 4, 5, 6] rfl)
    · skip
      have h := gie c55 h
      refine lv_lload hx hb d_M_cylinder_17 (lv_at hl 4 rfl) ?_
      refine lv_lload hx hb d_M_cylinder_19 (lv_at hl 6 rfl) ?_
      obtain ⟨u56, e57⟩ := gsome h
      refine gw_callI e57 h (gw_runS (As := [.long p4, .long p6]) (rest := []) hx hb hml hown hT hK hZ hA hI (m_M_isUpright l hst D g0 p4 p6 w u56 e57) ce_M_isUpright wd_891 ⟨by decide, by decide⟩ rfl rfl hl.1 rfl (lv_room (Nat.le_of_ble_eq_true rfl)) d_M_cylinder_21 ⟨(show 0 + 0 ≤ 0 by omega), (show 0 + 0 ≤ 0 by omega)⟩) hI hA hexc (show 0 + 0 ≤ 0 by omega) (show 0 + 0 ≤ 0 by omega) (fun v58 w H locs h hI => ?_)
      refine lv_if_eq (tgt := 31) hx hb d_M_cylinder_24 (by decide) (fun c59 => ?_) (fun c59 => ?_)
      · skip
        have h := git c59 h
        exact hK31 w H locs ls h hI (lv_sub hl [0, 1, 2, 3, 4, 5, 6] rfl)
      · skip
        have h := gie c59 h
        refine lv_iconst (v := 1) hx hb d_M_cylinder_27 (by decide) ?_
        refine lv_goto (tgt := 32) hx hb d_M_cylinder_28 (by decide) ?_
        exact hK32 _ w H locs ls h hI (lv_sub hl [0, 1, 2, 3, 4, 5, 6] rfl)

abbrev b_M_thrown : ByteArray := prog_9_method_2_code
def y_M_thrown : MethodName := ⟨"BodySolidsModel", "thrown", "()I"⟩
theorem d_M_thrown_0 : decode b_M_thrown 0 = .ok (.aload_n 0, 1) := by decide +kernel
theorem d_M_thrown_1 : decode b_M_thrown 1 = .ok (.getfield 80, 3) := by decide +kernel
theorem d_M_thrown_4 : decode b_M_thrown 4 = .ok (.ireturn, 1) := by decide +kernel
abbrev rm_M_thrown : Room := { frames := 0, cells := 0, slots := 0, locals := 0 }
theorem ce_M_thrown : gCe y_M_thrown (.code y_M_thrown b_M_thrown 1 (some .int)) 1 0 false := gCe.code wd_871 wd_57 wd_869 (by decide) (by decide +kernel)
def f_M_thrown (g0 : gG) (a0 : Nat) (w : gW) : gX Int32 := (gfI w a0 7 0).bind fun v1 => some (.inr v1, w)
set_option maxHeartbeats 4000000 in
set_option maxRecDepth 100000 in
theorem m_M_thrown (l : Launch) (hst : l.stackTraces = false) (D : gD) (g0 : gG) (a0 : Nat) (w : gW) (r : (String ⊕ Int32) × gW) (h : f_M_thrown g0 a0 w = some r) : gMet l y_M_thrown (.code y_M_thrown b_M_thrown 1 (some .int)) rm_M_thrown D g0 [.ref a0] w (goI r) := by
  refine gw_ofI (by decide +kernel) (Nat.le_of_ble_eq_true rfl) ?_
  intro p e s m below meth c ls args A Q hx hb hml hown hlocks hin hnt hT hK hZ hA hret hexc hthr hI hl
  obtain ⟨H, hH⟩ : ∃ H, H = s.heap := ⟨_, rfl⟩
  rw [← hH] at hI ⊢
  obtain ⟨locs, hlocs⟩ : ∃ z : List Loc, z = [] := ⟨_, rfl⟩
  rw [← hlocs] at hI ⊢
  have hl : lv_has ls 1 [(0, .ref a0)] := hl
  unfold f_M_thrown at h
  refine lv_aload_n hx hb d_M_thrown_0 rfl (lv_at hl 0 rfl) ?_
  obtain ⟨v1, e2, h⟩ := gb h
  refine gw_getI hx hb hT hown hK hI (ci := 7) rfl i_7 0 (by decide) wd_786 (fun _ h9 => h9) e2 d_M_thrown_1 ?_
  exact W.widen (show 0 ≤ 0 by omega) (show 0 ≤ 0 by omega) (hret _ _ (Option.some.inj h).symm _ _ _ _ d_M_thrown_4 hI)

abbrev b_B_corner : ByteArray := prog_1_method_5_code
def y_B_corner : MethodName := ⟨"BodySolids", "corner", "(JJ)Z"⟩
theorem d_B_corner_0 : decode b_B_corner 0 = .ok (.lload_n 1, 1) := by decide +kernel
theorem d_B_corner_1 : decode b_B_corner 1 = .ok (.lload_n 3, 1) := by decide +kernel
theorem d_B_corner_2 : decode b_B_corner 2 = .ok (.invokestatic 83, 3) := by decide +kernel
theorem d_B_corner_5 : decode b_B_corner 5 = .ok (.aload_n 0, 1) := by decide +kernel
theorem d_B_corner_6 : decode b_B_corner 6 = .ok (.getfield 44, 3) := by decide +kernel
theorem d_B_corner_9 : decode b_B_corner 9 = .ok (.bipush 8, 2) := by decide +kernel
theorem d_B_corner_11 : decode b_B_corner 11 = .ok (.if_icmp .lt 5, 3) := by decide +kernel
theorem d_B_corner_14 : decode b_B_corner 14 = .ok (.iconst 0, 1) := by decide +kernel
theorem d_B_corner_15 : decode b_B_corner 15 = .ok (.ireturn, 1) := by decide +kernel
theorem d_B_corner_16 : decode b_B_corner 16 = .ok (.aload_n 0, 1) := by decide +kernel
theorem d_B_corner_17 : decode b_B_corner 17 = .ok (.getfield 37, 3) := by decide +kernel
theorem d_B_corner_20 : decode b_B_corner 20 = .ok (.aload_n 0, 1) := by decide +kernel
theorem d_B_corner_21 : decode b_B_corner 21 = .ok (.getfield 44, 3) := by decide +kernel
theorem d_B_corner_24 : decode b_B_corner 24 = .ok (.lload_n 1, 1) := by decide +kernel
theorem d_B_corner_25 : decode b_B_corner 25 = .ok (.lastore, 1) := by decide +kernel
theorem d_B_corner_26 : decode b_B_corner 26 = .ok (.aload_n 0, 1) := by decide +kernel
theorem d_B_corner_27 : decode b_B_corner 27 = .ok (.getfield 41, 3) := by decide +kernel
theorem d_B_corner_30 : decode b_B_corner 30 = .ok (.aload_n 0, 1) := by decide +kernel
theorem d_B_corner_31 : decode b_B_corner 31 = .ok (.getfield 44, 3) := by decide +kernel
theorem d_B_corner_34 : decode b_B_corner 34 = .ok (.lload_n 3, 1) := by decide +kernel
theorem d_B_corner_35 : decode b_B_corner 35 = .ok (.lastore, 1) := by decide +kernel
theorem d_B_corner_36 : decode b_B_corner 36 = .ok (.aload_n 0, 1) := by decide +kernel
theorem d_B_corner_37 : decode b_B_corner 37 = .ok (.dup, 1) := by decide +kernel
theorem d_B_corner_38 : decode b_B_corner 38 = .ok (.getfield 44, 3) := by decide +kernel
theorem d_B_corner_41 : decode b_B_corner 41 = .ok (.iconst 1, 1) := by decide +kernel
theorem d_B_corner_42 : decode b_B_corner 42 = .ok (.iadd, 1) := by decide +kernel
theorem d_B_corner_43 : decode b_B_corner 43 = .ok (.putfield 44, 3) := by decide +kernel
theorem d_B_corner_46 : decode b_B_corner 46 = .ok (.iconst 1, 1) := by decide +kernel
theorem d_B_corner_47 : decode b_B_corner 47 = .ok (.ireturn, 1) := by decide +kernel
abbrev rm_B_corner : Room := { frames := 9, cells := 2, slots := 12, locals := 138 }
theorem ce_B_corner : gCe y_B_corner (.code y_B_corner b_B_corner 5 (some .boolean)) 5 2 false := gCe.code wd_583 wd_49 wd_581 (by decide) (by decide +kernel)
def f_B_corner (g0 : gG) (a0 : Nat) (p1 : Int64) (p2 : Int64) (w : gW) : gX Int32 := gbind (f_B_needPlace g0 p1 p2 w) fun v3 w => (gfI w a0 0 6).bind fun v4 => if v4 < 8 then ((gfA w a0 0 4).bind fun v7 => (gfI w a0 0 6).bind fun v9 => (gsJ w v7 v9 p1).bind fun w => (gfA w a0 0 5).bind fun v12 => (gfI w a0 0 6).bind fun v14 => (gsJ w v12 v14 p2).bind fun w => (gfI w a0 0 6).bind fun v17 => (gp w a0 0 6 (.int (v17 + 1))).bind fun w => gguard ((1 : Int32) = 0 ∨ (1 : Int32) = 1) (some (.inr 1, w))) else (gguard ((0 : Int32) = 0 ∨ (0 : Int32) = 1) (some (.inr 0, w)))
set_option maxHeartbeats 4000000 in
set_option maxRecDepth 100000 in
theorem m_B_corner (l : Launch) (hst : l.stackTraces = false) (D : gD) (g0 : gG) (a0 : Nat) (p1 : Int64) (p2 : Int64) (w : gW) (r : (String ⊕ Int32) × gW) (h : f_B_corner g0 a0 p1 p2 w = some r) : gMet l y_B_corner (.code y_B_corner b_B_corner 5 (some .boolean)) rm_B_corner D g0 [.ref a0, .long p1, .long p2] w (goI r) := by
  refine gw_ofZ (by decide +kernel) (Nat.le_of_ble_eq_true rfl) ?_
  intro p e s m below meth c ls args A Q hx hb hml hown hlocks hin hnt hT hK hZ hA hret hexc hthr hI hl
  obtain ⟨H, hH⟩ : ∃ H, H = s.heap := ⟨_, rfl⟩
  rw [← hH] at hI ⊢
  obtain ⟨locs, hlocs⟩ : ∃ z : List Loc, z = [] := ⟨_, rfl⟩
  rw [← hlocs] at hI ⊢
  have hl : lv_has ls 5 [(0, .ref a0), (1, .long p1), (3, .long p2)] := hl
  unfold f_B_corner at h
  refine lv_lload_n hx hb d_B_corner_0 rfl (lv_at hl 1 rfl) ?_
  refine lv_lload_n hx hb d_B_corner_1 rfl (lv_at hl 2 rfl) ?_
  obtain ⟨u1, e2⟩ := gsome h
  refine gw_callV e2 h (gw_runS (As := [.long p1, .long p2]) (rest := []) hx hb hml hown hT hK hZ hA hI (m_B_needPlace l hst D g0 p1 p2 w u1 e2) ce_B_needPlace wd_511 ⟨by decide, by decide⟩ rfl rfl hl.1 rfl (lv_room (Nat.le_of_ble_eq_true rfl)) d_B_corner_2 ⟨(show 0 + 2 ≤ 2 by omega), (show 0 + 12 ≤ 12 by omega)⟩) hI hA hexc (show 0 + 2 ≤ 2 by omega) (show 0 + 12 ≤ 12 by omega) (fun v3 w H locs h hI => ?_)
  refine W.widen (k := 2) (n := 12) (show 0 + 2 ≤ 2 by omega) (show 0 + 12 ≤ 12 by omega) ?_
  refine lv_aload_n hx hb d_B_corner_5 rfl (lv_at hl 0 rfl) ?_
  obtain ⟨v4, e5, h⟩ := gb h
  refine gw_getI hx hb hT hown hK hI (ci := 0) rfl i_0 6 (by decide) wd_195 (fun _ h9 => h9) e5 d_B_corner_6 ?_
  refine lv_bipush (v := 8) hx hb d_B_corner_9 (by decide) ?_
  refine lv_icmp_lt (tgt := 16) hx hb d_B_corner_11 (by decide) (fun c6 => ?_) (fun c6 => ?_)
  · skip
    have h := git c6 h
    refine lv_aload_n hx hb d_B_corner_16 rfl (lv_at hl 0 rfl) ?_
    obtain ⟨v7, e8, h⟩ := gb h
    refine gw_getA hx hb hT hown hK hI (ci := 0) rfl i_0 4 (by decide) wd_193 (fun _ h9 => h9) e8 d_B_corner_17 ?_
    refine lv_aload_n hx hb d_B_corner_20 rfl (lv_at hl 0 rfl) ?_
    obtain ⟨v9, e10, h⟩ := gb h
    refine gw_getI hx hb hT hown hK hI (ci := 0) rfl i_0 6 (by decide) wd_195 (fun _ h9 => h9) e10 d_B_corner_21 ?_
    refine lv_lload_n hx hb d_B_corner_24 rfl (lv_at hl 1 rfl) ?_
    obtain ⟨w, e11, h⟩ := gb h
    refine gw_astJ hx hb hK hI e11 d_B_corner_25 (fun H locs hI => ?_)
    refine lv_aload_n hx hb d_B_corner_26 rfl (lv_at hl 0 rfl) ?_
    obtain ⟨v12, e13, h⟩ := gb h
    refine gw_getA hx hb hT hown hK hI (ci := 0) rfl i_0 5 (by decide) wd_194 (fun _ h9 => h9) e13 d_B_corner_27 ?_
    refine lv_aload_n hx hb d_B_corner_30 rfl (lv_at hl 0 rfl) ?_
    obtain ⟨v14, e15, h⟩ := gb h
    refine gw_getI hx hb hT hown hK hI (ci := 0) rfl i_0 6 (by decide) wd_195 (fun _ h9 => h9) e15 d_B_corner_31 ?_
    refine lv_lload_n hx hb d_B_corner_34 rfl (lv_at hl 2 rfl) ?_
    obtain ⟨w, e16, h⟩ := gb h
    refine gw_astJ hx hb hK hI e16 d_B_corner_35 (fun H locs hI => ?_)
    refine lv_aload_n hx hb d_B_corner_36 rfl (lv_at hl 0 rfl) ?_
    refine lv_dup hx hb d_B_corner_37 rfl ?_
    obtain ⟨v17, e18, h⟩ := gb h
    refine gw_getI hx hb hT hown hK hI (ci := 0) rfl i_0 6 (by decide) wd_195 (fun _ h9 => h9) e18 d_B_corner_38 ?_
    refine lv_iconst (v := 1) hx hb d_B_corner_41 (by decide) ?_
    refine lv_iadd hx hb d_B_corner_42 ?_
    obtain ⟨w, e19, h⟩ := gb h
    refine gw_put hx hb hT hown hK hI (ci := 0) rfl i_0 t_0 t_0_ok n_0 6 (by decide) wd_195 (fun _ h9 => h9) rfl (ty := .int) (by decide +kernel) rfl rfl e19 d_B_corner_43 (fun H locs hI => ?_)
    refine lv_iconst (v := 1) hx hb d_B_corner_46 (by decide) ?_
    obtain ⟨g20, h⟩ := gif h
    exact W.widen (show 2 ≤ 2 by omega) (show 12 ≤ 12 by omega) (hret g20 0 _ (Option.some.inj h).symm _ _ _ _ d_B_corner_47 hI)
  · skip
    have h := gie c6 h
    refine lv_iconst (v := 0) hx hb d_B_corner_14 (by decide) ?_
    obtain ⟨g21, h⟩ := gif h
    exact W.widen (show 2 ≤ 2 by omega) (show 12 ≤ 12 by omega) (hret g21 0 _ (Option.some.inj h).symm _ _ _ _ d_B_corner_15 hI)
