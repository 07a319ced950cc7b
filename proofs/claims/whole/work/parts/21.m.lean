abbrev b_So_addCorner : ByteArray := prog_7_method_3_code
def y_So_addCorner : MethodName := ⟨"BodySolids$Solid", "addCorner", "(JJ)V"⟩
theorem d_So_addCorner_0 : decode b_So_addCorner 0 = .ok (.aload_n 0, 1) := by decide +kernel
theorem d_So_addCorner_1 : decode b_So_addCorner 1 = .ok (.getfield 29, 3) := by decide +kernel
theorem d_So_addCorner_4 : decode b_So_addCorner 4 = .ok (.bipush 8, 2) := by decide +kernel
theorem d_So_addCorner_6 : decode b_So_addCorner 6 = .ok (.if_icmp .lt 4, 3) := by decide +kernel
theorem d_So_addCorner_9 : decode b_So_addCorner 9 = .ok (.return_, 1) := by decide +kernel
theorem d_So_addCorner_10 : decode b_So_addCorner 10 = .ok (.aload_n 0, 1) := by decide +kernel
theorem d_So_addCorner_11 : decode b_So_addCorner 11 = .ok (.aload_n 0, 1) := by decide +kernel
theorem d_So_addCorner_12 : decode b_So_addCorner 12 = .ok (.getfield 29, 3) := by decide +kernel
theorem d_So_addCorner_15 : decode b_So_addCorner 15 = .ok (.ifCond .ne 7, 3) := by decide +kernel
theorem d_So_addCorner_18 : decode b_So_addCorner 18 = .ok (.lload_n 1, 1) := by decide +kernel
theorem d_So_addCorner_19 : decode b_So_addCorner 19 = .ok (.goto 11, 3) := by decide +kernel
theorem d_So_addCorner_22 : decode b_So_addCorner 22 = .ok (.aload_n 0, 1) := by decide +kernel
theorem d_So_addCorner_23 : decode b_So_addCorner 23 = .ok (.getfield 32, 3) := by decide +kernel
theorem d_So_addCorner_26 : decode b_So_addCorner 26 = .ok (.lload_n 1, 1) := by decide +kernel
theorem d_So_addCorner_27 : decode b_So_addCorner 27 = .ok (.invokestatic 35, 3) := by decide +kernel
theorem d_So_addCorner_30 : decode b_So_addCorner 30 = .ok (.putfield 32, 3) := by decide +kernel
theorem d_So_addCorner_33 : decode b_So_addCorner 33 = .ok (.aload_n 0, 1) := by decide +kernel
theorem d_So_addCorner_34 : decode b_So_addCorner 34 = .ok (.aload_n 0, 1) := by decide +kernel
theorem d_So_addCorner_35 : decode b_So_addCorner 35 = .ok (.getfield 29, 3) := by decide +kernel
theorem d_So_addCorner_38 : decode b_So_addCorner 38 = .ok (.ifCond .ne 7, 3) := by decide +kernel
theorem d_So_addCorner_41 : decode b_So_addCorner 41 = .ok (.lload_n 3, 1) := by decide +kernel
theorem d_So_addCorner_42 : decode b_So_addCorner 42 = .ok (.goto 11, 3) := by decide +kernel
theorem d_So_addCorner_45 : decode b_So_addCorner 45 = .ok (.aload_n 0, 1) := by decide +kernel
theorem d_So_addCorner_46 : decode b_So_addCorner 46 = .ok (.getfield 41, 3) := by decide +kernel
theorem d_So_addCorner_49 : decode b_So_addCorner 49 = .ok (.lload_n 3, 1) := by decide +kernel
theorem d_So_addCorner_50 : decode b_So_addCorner 50 = .ok (.invokestatic 35, 3) := by decide +kernel
theorem d_So_addCorner_53 : decode b_So_addCorner 53 = .ok (.putfield 41, 3) := by decide +kernel
theorem d_So_addCorner_56 : decode b_So_addCorner 56 = .ok (.aload_n 0, 1) := by decide +kernel
theorem d_So_addCorner_57 : decode b_So_addCorner 57 = .ok (.aload_n 0, 1) := by decide +kernel
theorem d_So_addCorner_58 : decode b_So_addCorner 58 = .ok (.getfield 29, 3) := by decide +kernel
theorem d_So_addCorner_61 : decode b_So_addCorner 61 = .ok (.ifCond .ne 7, 3) := by decide +kernel
theorem d_So_addCorner_64 : decode b_So_addCorner 64 = .ok (.lload_n 1, 1) := by decide +kernel
theorem d_So_addCorner_65 : decode b_So_addCorner 65 = .ok (.goto 11, 3) := by decide +kernel
theorem d_So_addCorner_68 : decode b_So_addCorner 68 = .ok (.aload_n 0, 1) := by decide +kernel
theorem d_So_addCorner_69 : decode b_So_addCorner 69 = .ok (.getfield 44, 3) := by decide +kernel
theorem d_So_addCorner_72 : decode b_So_addCorner 72 = .ok (.lload_n 1, 1) := by decide +kernel
theorem d_So_addCorner_73 : decode b_So_addCorner 73 = .ok (.invokestatic 47, 3) := by decide +kernel
theorem d_So_addCorner_76 : decode b_So_addCorner 76 = .ok (.putfield 44, 3) := by decide +kernel
theorem d_So_addCorner_79 : decode b_So_addCorner 79 = .ok (.aload_n 0, 1) := by decide +kernel
theorem d_So_addCorner_80 : decode b_So_addCorner 80 = .ok (.aload_n 0, 1) := by decide +kernel
theorem d_So_addCorner_81 : decode b_So_addCorner 81 = .ok (.getfield 29, 3) := by decide +kernel
theorem d_So_addCorner_84 : decode b_So_addCorner 84 = .ok (.ifCond .ne 7, 3) := by decide +kernel
theorem d_So_addCorner_87 : decode b_So_addCorner 87 = .ok (.lload_n 3, 1) := by decide +kernel
theorem d_So_addCorner_88 : decode b_So_addCorner 88 = .ok (.goto 11, 3) := by decide +kernel
theorem d_So_addCorner_91 : decode b_So_addCorner 91 = .ok (.aload_n 0, 1) := by decide +kernel
theorem d_So_addCorner_92 : decode b_So_addCorner 92 = .ok (.getfield 50, 3) := by decide +kernel
theorem d_So_addCorner_95 : decode b_So_addCorner 95 = .ok (.lload_n 3, 1) := by decide +kernel
theorem d_So_addCorner_96 : decode b_So_addCorner 96 = .ok (.invokestatic 47, 3) := by decide +kernel
theorem d_So_addCorner_99 : decode b_So_addCorner 99 = .ok (.putfield 50, 3) := by decide +kernel
theorem d_So_addCorner_102 : decode b_So_addCorner 102 = .ok (.aload_n 0, 1) := by decide +kernel
theorem d_So_addCorner_103 : decode b_So_addCorner 103 = .ok (.getfield 9, 3) := by decide +kernel
theorem d_So_addCorner_106 : decode b_So_addCorner 106 = .ok (.aload_n 0, 1) := by decide +kernel
theorem d_So_addCorner_107 : decode b_So_addCorner 107 = .ok (.getfield 29, 3) := by decide +kernel
theorem d_So_addCorner_110 : decode b_So_addCorner 110 = .ok (.lload_n 1, 1) := by decide +kernel
theorem d_So_addCorner_111 : decode b_So_addCorner 111 = .ok (.lastore, 1) := by decide +kernel
theorem d_So_addCorner_112 : decode b_So_addCorner 112 = .ok (.aload_n 0, 1) := by decide +kernel
theorem d_So_addCorner_113 : decode b_So_addCorner 113 = .ok (.getfield 15, 3) := by decide +kernel
theorem d_So_addCorner_116 : decode b_So_addCorner 116 = .ok (.aload_n 0, 1) := by decide +kernel
theorem d_So_addCorner_117 : decode b_So_addCorner 117 = .ok (.getfield 29, 3) := by decide +kernel
theorem d_So_addCorner_120 : decode b_So_addCorner 120 = .ok (.lload_n 3, 1) := by decide +kernel
theorem d_So_addCorner_121 : decode b_So_addCorner 121 = .ok (.lastore, 1) := by decide +kernel
theorem d_So_addCorner_122 : decode b_So_addCorner 122 = .ok (.aload_n 0, 1) := by decide +kernel
theorem d_So_addCorner_123 : decode b_So_addCorner 123 = .ok (.dup, 1) := by decide +kernel
theorem d_So_addCorner_124 : decode b_So_addCorner 124 = .ok (.getfield 29, 3) := by decide +kernel
theorem d_So_addCorner_127 : decode b_So_addCorner 127 = .ok (.iconst 1, 1) := by decide +kernel
theorem d_So_addCorner_128 : decode b_So_addCorner 128 = .ok (.iadd, 1) := by decide +kernel
theorem d_So_addCorner_129 : decode b_So_addCorner 129 = .ok (.putfield 29, 3) := by decide +kernel
theorem d_So_addCorner_132 : decode b_So_addCorner 132 = .ok (.return_, 1) := by decide +kernel
abbrev rm_So_addCorner : Room := { frames := 1, cells := 0, slots := 0, locals := 23 }
theorem ce_So_addCorner : gCe y_So_addCorner (.code y_So_addCorner b_So_addCorner 5 none) 5 2 false := gCe.code wd_362 wd_56 wd_360 (by decide) (by decide +kernel)
def f_So_addCorner (g0 : gG) (a0 : Nat) (p1 : Int64) (p2 : Int64) (w : gW) : gX Unit := (gfI w a0 3 5).bind fun v1 => if v1 < 8 then ((gfI w a0 3 5).bind fun v4 => gjoin (fun K30 => if v4 = 0 then (K30 p1 w) else ((gfJ w a0 3 6).bind fun v52 => gbind (f_Ma_min2 g0 v52 p1 w) fun v56 w => K30 v56 w)) (fun (y6 : Int64) (w : gW) => (gp w a0 3 6 (.long y6)).bind fun w => (gfI w a0 3 5).bind fun v8 => gjoin (fun K53 => if v8 = 0 then (K53 p2 w) else ((gfJ w a0 3 7).bind fun v46 => gbind (f_Ma_min2 g0 v46 p2 w) fun v50 w => K53 v50 w)) (fun (y10 : Int64) (w : gW) => (gp w a0 3 7 (.long y10)).bind fun w => (gfI w a0 3 5).bind fun v12 => gjoin (fun K76 => if v12 = 0 then (K76 p1 w) else ((gfJ w a0 3 9).bind fun v40 => gbind (f_Ma_max2 g0 v40 p1 w) fun v44 w => K76 v44 w)) (fun (y14 : Int64) (w : gW) => (gp w a0 3 9 (.long y14)).bind fun w => (gfI w a0 3 5).bind fun v16 => gjoin (fun K99 => if v16 = 0 then (K99 p2 w) else ((gfJ w a0 3 10).bind fun v34 => gbind (f_Ma_max2 g0 v34 p2 w) fun v38 w => K99 v38 w)) (fun (y18 : Int64) (w : gW) => (gp w a0 3 10 (.long y18)).bind fun w => (gfA w a0 3 3).bind fun v20 => (gfI w a0 3 5).bind fun v22 => (gsJ w v20 v22 p1).bind fun w => (gfA w a0 3 4).bind fun v25 => (gfI w a0 3 5).bind fun v27 => (gsJ w v25 v27 p2).bind fun w => (gfI w a0 3 5).bind fun v30 => (gp w a0 3 5 (.int (v30 + 1))).bind fun w => some (.inr (), w)))))) else (some (.inr (), w))
set_option maxHeartbeats 4000000 in
set_option maxRecDepth 100000 in
theorem m_So_addCorner (l : Launch) (hst : l.stackTraces = false) (D : gD) (g0 : gG) (a0 : Nat) (p1 : Int64) (p2 : Int64) (w : gW) (r : (String ⊕ Unit) × gW) (h : f_So_addCorner g0 a0 p1 p2 w = some r) : gMet l y_So_addCorner (.code y_So_addCorner b_So_addCorner 5 none) rm_So_addCorner D g0 [.ref a0, .long p1, .long p2] w (goV r) := by
  refine gw_ofV (by decide +kernel) (Nat.le_of_ble_eq_true rfl) ?_
  intro p e s m below meth c ls args A Q hx hb hml hown hlocks hin hnt hT hK hZ hA hret hexc hthr hI hl
  obtain ⟨H, hH⟩ : ∃ H, H = s.heap := ⟨_, rfl⟩
  rw [← hH] at hI ⊢
  obtain ⟨locs, hlocs⟩ : ∃ z : List Loc, z = [] := ⟨_, rfl⟩
  rw [← hlocs] at hI ⊢
  have hl : lv_has ls 5 [(0, .ref a0), (1, .long p1), (3, .long p2)] := hl
  unfold f_So_addCorner at h
  refine lv_aload_n hx hb d_So_addCorner_0 rfl (lv_at hl 0 rfl) ?_
  obtain ⟨v1, e2, h⟩ := gb h
  refine gw_getI hx hb hT hown hK hI (ci := 3) rfl i_3 5 (by decide) wd_139 (fun _ h9 => h9) e2 d_So_addCorner_1 ?_
  refine lv_bipush (v := 8) hx hb d_So_addCorner_4 (by decide) ?_
  refine lv_icmp_lt (tgt := 10) hx hb d_So_addCorner_6 (by decide) (fun c3 => ?_) (fun c3 => ?_)
  · skip
    have h := git c3 h
    refine lv_aload_n hx hb d_So_addCorner_10 rfl (lv_at hl 0 rfl) ?_
    refine lv_aload_n hx hb d_So_addCorner_11 rfl (lv_at hl 0 rfl) ?_
    obtain ⟨v4, e5, h⟩ := gb h
    refine gw_getI hx hb hT hown hK hI (ci := 3) rfl i_3 5 (by decide) wd_139 (fun _ h9 => h9) e5 d_So_addCorner_12 ?_
    obtain ⟨K30, eK30, h⟩ := gj h
    have hK30 : ∀ (y6 : Int64) (w : gW) (H : Heap) (locs : List Loc) (ls : Array Slot), K30 y6 w = some r → gI D s A w H locs → lv_has ls 5 [(0, .ref a0), (1, .long p1), (3, .long p2)] → W p l e rm_So_addCorner s m args below meth c H locs 0 0 Q (F0 m 30 ls [.long y6, .ref a0]) := by
      intro y6 w H locs ls h hI hl
      have h := gk2 eK30 h
      obtain ⟨w, e7, h⟩ := gb h
      refine gw_put hx hb hT hown hK hI (ci := 3) rfl i_3 t_3 t_3_ok n_3 6 (by decide) wd_142 (fun _ h9 => h9) rfl (ty := .long) (by decide +kernel) rfl rfl e7 d_So_addCorner_30 (fun H locs hI => ?_)
      refine lv_aload_n hx hb d_So_addCorner_33 rfl (lv_at hl 0 rfl) ?_
      refine lv_aload_n hx hb d_So_addCorner_34 rfl (lv_at hl 0 rfl) ?_
      obtain ⟨v8, e9, h⟩ := gb h
      refine gw_getI hx hb hT hown hK hI (ci := 3) rfl i_3 5 (by decide) wd_139 (fun _ h9 => h9) e9 d_So_addCorner_35 ?_
      obtain ⟨K53, eK53, h⟩ := gj h
      have hK53 : ∀ (y10 : Int64) (w : gW) (H : Heap) (locs : List Loc) (ls : Array Slot), K53 y10 w = some r → gI D s A w H locs → lv_has ls 5 [(0, .ref a0), (1, .long p1), (3, .long p2)] → W p l e rm_So_addCorner s m args below meth c H locs 0 0 Q (F0 m 53 ls [.long y10, .ref a0]) := by
        intro y10 w H locs ls h hI hl
        have h := gk2 eK53 h
        obtain ⟨w, e11, h⟩ := gb h
        refine gw_put hx hb hT hown hK hI (ci := 3) rfl i_3 t_3 t_3_ok n_3 7 (by decide) wd_144 (fun _ h9 => h9) rfl (ty := .long) (by decide +kernel) rfl rfl e11 d_So_addCorner_53 (fun H locs hI => ?_)
        refine lv_aload_n hx hb d_So_addCorner_56 rfl (lv_at hl 0 rfl) ?_
        refine lv_aload_n hx hb d_So_addCorner_57 rfl (lv_at hl 0 rfl) ?_
        obtain ⟨v12, e13, h⟩ := gb h
        refine gw_getI hx hb hT hown hK hI (ci := 3) rfl i_3 5 (by decide) wd_139 (fun _ h9 => h9) e13 d_So_addCorner_58 ?_
        obtain ⟨K76, eK76, h⟩ := gj h
        have hK76 : ∀ (y14 : Int64) (w : gW) (H : Heap) (locs : List Loc) (ls : Array Slot), K76 y14 w = some r → gI D s A w H locs → lv_has ls 5 [(0, .ref a0), (1, .long p1), (3, .long p2)] → W p l e rm_So_addCorner s m args below meth c H locs 0 0 Q (F0 m 76 ls [.long y14, .ref a0]) := by
          intro y14 w H locs ls h hI hl
          have h := gk2 eK76 h
          obtain ⟨w, e15, h⟩ := gb h
          refine gw_put hx hb hT hown hK hI (ci := 3) rfl i_3 t_3 t_3_ok n_3 9 (by decide) wd_148 (fun _ h9 => h9) rfl (ty := .long) (by decide +kernel) rfl rfl e15 d_So_addCorner_76 (fun H locs hI => ?_)
          refine lv_aload_n hx hb d_So_addCorner_79 rfl (lv_at hl 0 rfl) ?_
          refine lv_aload_n hx hb d_So_addCorner_80 rfl (lv_at hl 0 rfl) ?_
          obtain ⟨v16, e17, h⟩ := gb h
          refine gw_getI hx hb hT hown hK hI (ci := 3) rfl i_3 5 (by decide) wd_139 (fun _ h9 => h9) e17 d_So_addCorner_81 ?_
          obtain ⟨K99, eK99, h⟩ := gj h
          have hK99 : ∀ (y18 : Int64) (w : gW) (H : Heap) (locs : List Loc) (ls : Array Slot), K99 y18 w = some r → gI D s A w H locs → lv_has ls 5 [(0, .ref a0), (1, .long p1), (3, .long p2)] → W p l e rm_So_addCorner s m args below meth c H locs 0 0 Q (F0 m 99 ls [.long y18, .ref a0]) := by
            intro y18 w H locs ls h hI hl
            have h := gk2 eK99 h
            obtain ⟨w, e19, h⟩ := gb h
            refine gw_put hx hb hT hown hK hI (ci := 3) rfl i_3 t_3 t_3_ok n_3 10 (by decide) wd_150 (fun _ h9 => h9) rfl (ty := .long) (by decide +kernel) rfl rfl e19 d_So_addCorner_99 (fun H locs hI => ?_)
            refine lv_aload_n hx hb d_So_addCorner_102 rfl (lv_at hl 0 rfl) ?_
            obtain ⟨v20, e21, h⟩ := gb h
            refine gw_getA hx hb hT hown hK hI (ci := 3) rfl i_3 3 (by decide) wd_135 (fun _ h9 => h9) e21 d_So_addCorner_103 ?_
            refine lv_aload_n hx hb d_So_addCorner_106 rfl (lv_at hl 0 rfl) ?_
            obtain ⟨v22, e23, h⟩ := gb h
            refine gw_getI hx hb hT hown hK hI (ci := 3) rfl i_3 5 (by decide) wd_139 (fun _ h9 => h9) e23 d_So_addCorner_107 ?_
            refine lv_lload_n hx hb d_So_addCorner_110 rfl (lv_at hl 1 rfl) ?_
            obtain ⟨w, e24, h⟩ := gb h
            refine gw_astJ hx hb hK hI e24 d_So_addCorner_111 (fun H locs hI => ?_)
            refine lv_aload_n hx hb d_So_addCorner_112 rfl (lv_at hl 0 rfl) ?_
            obtain ⟨v25, e26, h⟩ := gb h
            refine gw_getA hx hb hT hown hK hI (ci := 3) rfl i_3 4 (by decide) wd_137 (fun _ h9 => h9) e26 d_So_addCorner_113 ?_
            refine lv_aload_n hx hb d_So_addCorner_116 rfl (lv_at hl 0 rfl) ?_
            obtain ⟨v27, e28, h⟩ := gb h
            refine gw_getI hx hb hT hown hK hI (ci := 3) rfl i_3 5 (by decide) wd_139 (fun _ h9 => h9) e28 d_So_addCorner_117 ?_
            refine lv_lload_n hx hb d_So_addCorner_120 rfl (lv_at hl 2 rfl) ?_
            obtain ⟨w, e29, h⟩ := gb h
            refine gw_astJ hx hb hK hI e29 d_So_addCorner_121 (fun H locs hI => ?_)
            refine lv_aload_n hx hb d_So_addCorner_122 rfl (lv_at hl 0 rfl) ?_
            refine lv_dup hx hb d_So_addCorner_123 rfl ?_
            obtain ⟨v30, e31, h⟩ := gb h
            refine gw_getI hx hb hT hown hK hI (ci := 3) rfl i_3 5 (by decide) wd_139 (fun _ h9 => h9) e31 d_So_addCorner_124 ?_
            refine lv_iconst (v := 1) hx hb d_So_addCorner_127 (by decide) ?_
            refine lv_iadd hx hb d_So_addCorner_128 ?_
            obtain ⟨w, e32, h⟩ := gb h
            refine gw_put hx hb hT hown hK hI (ci := 3) rfl i_3 t_3 t_3_ok n_3 5 (by decide) wd_139 (fun _ h9 => h9) rfl (ty := .int) (by decide +kernel) rfl rfl e32 d_So_addCorner_129 (fun H locs hI => ?_)
            exact W.widen (show 0 ≤ 0 by omega) (show 0 ≤ 0 by omega) (hret _ _ (Option.some.inj h).symm _ _ _ _ d_So_addCorner_132 hI)
          refine lv_if_ne (tgt := 91) hx hb d_So_addCorner_84 (by decide) (fun c33 => ?_) (fun c33 => ?_)
          · skip
            have h := gie c33 h
            refine lv_aload_n hx hb d_So_addCorner_91 rfl (lv_at hl 0 rfl) ?_
            obtain ⟨v34, e35, h⟩ := gb h
            refine gw_getJ hx hb hT hown hK hI (ci := 3) rfl i_3 10 (by decide) wd_150 (fun _ h9 => h9) e35 d_So_addCorner_92 ?_
            refine lv_lload_n hx hb d_So_addCorner_95 rfl (lv_at hl 2 rfl) ?_
            obtain ⟨u36, e37⟩ := gsome h
            refine gw_callJ e37 h (gw_runS (As := [.long v34, .long p2]) (rest := [.ref a0]) hx hb hml hown hT hK hZ hA hI (m_Ma_max2 l hst D g0 v34 p2 w u36 e37) ce_Ma_max2 wd_364 ⟨by decide, by decide⟩ rfl rfl hl.1 rfl (lv_room (Nat.le_of_ble_eq_true rfl)) d_So_addCorner_96 ⟨(show 0 + 0 ≤ 0 by omega), (show 0 + 0 ≤ 0 by omega)⟩) hI hA hexc (show 0 + 0 ≤ 0 by omega) (show 0 + 0 ≤ 0 by omega) (fun v38 w H locs h hI => ?_)
            exact hK99 _ w H locs ls h hI (lv_sub hl [0, 1, 2] rfl)
          · skip
            have h := git c33 h
            refine lv_lload_n hx hb d_So_addCorner_87 rfl (lv_at hl 2 rfl) ?_
            refine lv_goto (tgt := 99) hx hb d_So_addCorner_88 (by decide) ?_
            exact hK99 _ w H locs ls h hI (lv_sub hl [0, 1, 2] rfl)
        refine lv_if_ne (tgt := 68) hx hb d_So_addCorner_61 (by decide) (fun c39 => ?_) (fun c39 => ?_)
        · skip
          have h := gie c39 h
          refine lv_aload_n hx hb d_So_addCorner_68 rfl (lv_at hl 0 rfl) ?_
          obtain ⟨v40, e41, h⟩ := gb h
          refine gw_getJ hx hb hT hown hK hI (ci := 3) rfl i_3 9 (by decide) wd_148 (fun _ h9 => h9) e41 d_So_addCorner_69 ?_
          refine lv_lload_n hx hb d_So_addCorner_72 rfl (lv_at hl 1 rfl) ?_
          obtain ⟨u42, e43⟩ := gsome h
          refine gw_callJ e43 h (gw_runS (As := [.long v40, .long p1]) (rest := [.ref a0]) hx hb hml hown hT hK hZ hA hI (m_Ma_max2 l hst D g0 v40 p1 w u42 e43) ce_Ma_max2 wd_364 ⟨by decide, by decide⟩ rfl rfl hl.1 rfl (lv_room (Nat.le_of_ble_eq_true rfl)) d_So_addCorner_73 ⟨(show 0 + 0 ≤ 0 by omega), (show 0 + 0 ≤ 0 by omega)⟩) hI hA hexc (show 0 + 0 ≤ 0 by omega) (show 0 + 0 ≤ 0 by omega) (fun v44 w H locs h hI => ?_)
          exact hK76 _ w H locs ls h hI (lv_sub hl [0, 1, 2] rfl)
        · skip
          have h := git c39 h
          refine lv_lload_n hx hb d_So_addCorner_64 rfl (lv_at hl 1 rfl) ?_
          refine lv_goto (tgt := 76) hx hb d_So_addCorner_65 (by decide) ?_
          exact hK76 _ w H locs ls h hI (lv_sub hl [0, 1, 2] rfl)
      refine lv_if_ne (tgt := 45) hx hb d_So_addCorner_38 (by decide) (fun c45 => ?_) (fun c45 => ?_)
      · skip
        have h := gie c45 h
        refine lv_aload_n hx hb d_So_addCorner_45 rfl (lv_at hl 0 rfl) ?_
        obtain ⟨v46, e47, h⟩ := gb h
        refine gw_getJ hx hb hT hown hK hI (ci := 3) rfl i_3 7 (by decide) wd_144 (fun _ h9 => h9) e47 d_So_addCorner_46 ?_
        refine lv_lload_n hx hb d_So_addCorner_49 rfl (lv_at hl 2 rfl) ?_
        obtain ⟨u48, e49⟩ := gsome h
        refine gw_callJ e49 h (gw_runS (As := [.long v46, .long p2]) (rest := [.ref a0]) hx hb hml hown hT hK hZ hA hI (m_Ma_min2 l hst D g0 v46 p2 w u48 e49) ce_Ma_min2 wd_363 ⟨by decide, by decide⟩ rfl rfl hl.1 rfl (lv_room (Nat.le_of_ble_eq_true rfl)) d_So_addCorner_50 ⟨(show 0 + 0 ≤ 0 by omega), (show 0 + 0 ≤ 0 by omega)⟩) hI hA hexc (show 0 + 0 ≤ 0 by omega) (show 0 + 0 ≤ 0 by omega) (fun v50 w H locs h hI => ?_)
        exact hK53 _ w H locs ls h hI (lv_sub hl [0, 1, 2] rfl)
      · skip
        have h := git c45 h
        refine lv_lload_n hx hb d_So_addCorner_41 rfl (lv_at hl 2 rfl) ?_
        refine lv_goto (tgt := 53) hx hb d_So_addCorner_42 (by decide) ?_
        exact hK53 _ w H locs ls h hI (lv_sub hl [0, 1, 2] rfl)
    refine lv_if_ne (tgt := 22) hx hb d_So_addCorner_15 (by decide) (fun c51 => ?_) (fun c51 => ?_)
    · skip
      have h := gie c51 h
      refine lv_aload_n hx hb d_So_addCorner_22 rfl (lv_at hl 0 rfl) ?_
      obtain ⟨v52, e53, h⟩ := gb h
      refine gw_getJ hx hb hT hown hK hI (ci := 3) rfl i_3 6 (by decide) wd_142 (fun _ h9 => h9) e53 d_So_addCorner_23 ?_
      refine lv_lload_n hx hb d_So_addCorner_26 rfl (lv_at hl 1 rfl) ?_
      obtain ⟨u54, e55⟩ := gsome h
      refine gw_callJ e55 h (gw_runS (As := [.long v52, .long p1]) (rest := [.ref a0]) hx hb hml hown hT hK hZ hA hI (m_Ma_min2 l hst D g0 v52 p1 w u54 e55) ce_Ma_min2 wd_363 ⟨by decide, by decide⟩ rfl rfl hl.1 rfl (lv_room (Nat.le_of_ble_eq_true rfl)) d_So_addCorner_27 ⟨(show 0 + 0 ≤ 0 by omega), (show 0 + 0 ≤ 0 by omega)⟩) hI hA hexc (show 0 + 0 ≤ 0 by omega) (show 0 + 0 ≤ 0 by omega) (fun v56 w H locs h hI => ?_)
      exact hK30 _ w H locs ls h hI (lv_sub hl [0, 1, 2] rfl)
    · skip
      have h := git c51 h
      refine lv_lload_n hx hb d_So_addCorner_18 rfl (lv_at hl 1 rfl) ?_
      refine lv_goto (tgt := 30) hx hb d_So_addCorner_19 (by decide) ?_
      exact hK30 _ w H locs ls h hI (lv_sub hl [0, 1, 2] rfl)
  · skip
    have h := gie c3 h
    exact W.widen (show 0 ≤ 0 by omega) (show 0 ≤ 0 by omega) (hret _ _ (Option.some.inj h).symm _ _ _ _ d_So_addCorner_9 hI)

abbrev b_So_setHeights : ByteArray := prog_7_method_5_code
def y_So_setHeights : MethodName := ⟨"BodySolids$Solid", "setHeights", "(JJ)V"⟩
theorem d_So_setHeights_0 : decode b_So_setHeights 0 = .ok (.aload_n 0, 1) := by decide +kernel
theorem d_So_setHeights_1 : decode b_So_setHeights 1 = .ok (.lload_n 1, 1) := by decide +kernel
theorem d_So_setHeights_2 : decode b_So_setHeights 2 = .ok (.putfield 57, 3) := by decide +kernel
theorem d_So_setHeights_5 : decode b_So_setHeights 5 = .ok (.aload_n 0, 1) := by decide +kernel
theorem d_So_setHeights_6 : decode b_So_setHeights 6 = .ok (.lload_n 3, 1) := by decide +kernel
theorem d_So_setHeights_7 : decode b_So_setHeights 7 = .ok (.putfield 60, 3) := by decide +kernel
theorem d_So_setHeights_10 : decode b_So_setHeights 10 = .ok (.return_, 1) := by decide +kernel
abbrev rm_So_setHeights : Room := { frames := 0, cells := 0, slots := 0, locals := 0 }
theorem ce_So_setHeights : gCe y_So_setHeights (.code y_So_setHeights b_So_setHeights 5 none) 5 2 false := gCe.code wd_368 wd_56 wd_366 (by decide) (by decide +kernel)
def f_So_setHeights (g0 : gG) (a0 : Nat) (p1 : Int64) (p2 : Int64) (w : gW) : gX Unit := (gp w a0 3 8 (.long p1)).bind fun w => (gp w a0 3 11 (.long p2)).bind fun w => some (.inr (), w)
set_option maxHeartbeats 4000000 in
set_option maxRecDepth 100000 in
theorem m_So_setHeights (l : Launch) (hst : l.stackTraces = false) (D : gD) (g0 : gG) (a0 : Nat) (p1 : Int64) (p2 : Int64) (w : gW) (r : (String ⊕ Unit) × gW) (h : f_So_setHeights g0 a0 p1 p2 w = some r) : gMet l y_So_setHeights (.code y_So_setHeights b_So_setHeights 5 none) rm_So_setHeights D g0 [.ref a0, .long p1, .long p2] w (goV r) := by
  refine gw_ofV (by decide +kernel) (Nat.le_of_ble_eq_true rfl) ?_
  intro p e s m below meth c ls args A Q hx hb hml hown hlocks hin hnt hT hK hZ hA hret hexc hthr hI hl
  obtain ⟨H, hH⟩ : ∃ H, H = s.heap := ⟨_, rfl⟩
  rw [← hH] at hI ⊢
  obtain ⟨locs, hlocs⟩ : ∃ z : List Loc, z = [] := ⟨_, rfl⟩
  rw [← hlocs] at hI ⊢
  have hl : lv_has ls 5 [(0, .ref a0), (1, .long p1), (3, .long p2)] := hl
  unfold f_So_setHeights at h
  refine lv_aload_n hx hb d_So_setHeights_0 rfl (lv_at hl 0 rfl) ?_
  refine lv_lload_n hx hb d_So_setHeights_1 rfl (lv_at hl 1 rfl) ?_
  obtain ⟨w, e1, h⟩ := gb h
  refine gw_put hx hb hT hown hK hI (ci := 3) rfl i_3 t_3 t_3_ok n_3 8 (by decide) wd_146 (fun _ h9 => h9) rfl (ty := .long) (by decide +kernel) rfl rfl e1 d_So_setHeights_2 (fun H locs hI => ?_)
  refine lv_aload_n hx hb d_So_setHeights_5 rfl (lv_at hl 0 rfl) ?_
  refine lv_lload_n hx hb d_So_setHeights_6 rfl (lv_at hl 2 rfl) ?_
  obtain ⟨w, e2, h⟩ := gb h
  refine gw_put hx hb hT hown hK hI (ci := 3) rfl i_3 t_3 t_3_ok n_3 11 (by decide) wd_152 (fun _ h9 => h9) rfl (ty := .long) (by decide +kernel) rfl rfl e2 d_So_setHeights_7 (fun H locs hI => ?_)
  exact W.widen (show 0 ≤ 0 by omega) (show 0 ≤ 0 by omega) (hret _ _ (Option.some.inj h).symm _ _ _ _ d_So_setHeights_10 hI)

abbrev b_So_layAs : ByteArray := prog_7_method_6_code
def y_So_layAs : MethodName := ⟨"BodySolids$Solid", "layAs", "(LBodySolids$Solid;LBodySolids$Placement;J)V"⟩
theorem d_So_layAs_0 : decode b_So_layAs 0 = .ok (.aload_n 0, 1) := by decide +kernel
theorem d_So_layAs_1 : decode b_So_layAs 1 = .ok (.aload_n 1, 1) := by decide +kernel
theorem d_So_layAs_2 : decode b_So_layAs 2 = .ok (.getfield 18, 3) := by decide +kernel
theorem d_So_layAs_5 : decode b_So_layAs 5 = .ok (.aload_n 1, 1) := by decide +kernel
theorem d_So_layAs_6 : decode b_So_layAs 6 = .ok (.getfield 22, 3) := by decide +kernel
theorem d_So_layAs_9 : decode b_So_layAs 9 = .ok (.aload_n 1, 1) := by decide +kernel
theorem d_So_layAs_10 : decode b_So_layAs 10 = .ok (.getfield 26, 3) := by decide +kernel
theorem d_So_layAs_13 : decode b_So_layAs 13 = .ok (.invokevirtual 63, 3) := by decide +kernel
theorem d_So_layAs_16 : decode b_So_layAs 16 = .ok (.aload_n 2, 1) := by decide +kernel
theorem d_So_layAs_17 : decode b_So_layAs 17 = .ok (.getfield 67, 3) := by decide +kernel
theorem d_So_layAs_20 : decode b_So_layAs 20 = .ok (.iconst 1, 1) := by decide +kernel
theorem d_So_layAs_21 : decode b_So_layAs 21 = .ok (.if_icmp .ne 7, 3) := by decide +kernel
theorem d_So_layAs_24 : decode b_So_layAs 24 = .ok (.iconst 1, 1) := by decide +kernel
theorem d_So_layAs_25 : decode b_So_layAs 25 = .ok (.goto 4, 3) := by decide +kernel
theorem d_So_layAs_28 : decode b_So_layAs 28 = .ok (.iconst 0, 1) := by decide +kernel
theorem d_So_layAs_29 : decode b_So_layAs 29 = .ok (.istore 5, 2) := by decide +kernel
theorem d_So_layAs_31 : decode b_So_layAs 31 = .ok (.iconst 0, 1) := by decide +kernel
theorem d_So_layAs_32 : decode b_So_layAs 32 = .ok (.istore 6, 2) := by decide +kernel
theorem d_So_layAs_34 : decode b_So_layAs 34 = .ok (.iload 6, 2) := by decide +kernel
theorem d_So_layAs_36 : decode b_So_layAs 36 = .ok (.aload_n 1, 1) := by decide +kernel
theorem d_So_layAs_37 : decode b_So_layAs 37 = .ok (.getfield 29, 3) := by decide +kernel
theorem d_So_layAs_40 : decode b_So_layAs 40 = .ok (.if_icmp .ge 77, 3) := by decide +kernel
theorem d_So_layAs_43 : decode b_So_layAs 43 = .ok (.iload 6, 2) := by decide +kernel
theorem d_So_layAs_45 : decode b_So_layAs 45 = .ok (.bipush 8, 2) := by decide +kernel
theorem d_So_layAs_47 : decode b_So_layAs 47 = .ok (.if_icmp .ge 70, 3) := by decide +kernel
theorem d_So_layAs_50 : decode b_So_layAs 50 = .ok (.iload 5, 2) := by decide +kernel
theorem d_So_layAs_52 : decode b_So_layAs 52 = .ok (.ifCond .eq 15, 3) := by decide +kernel
theorem d_So_layAs_55 : decode b_So_layAs 55 = .ok (.aload_n 1, 1) := by decide +kernel
theorem d_So_layAs_56 : decode b_So_layAs 56 = .ok (.getfield 29, 3) := by decide +kernel
theorem d_So_layAs_59 : decode b_So_layAs 59 = .ok (.iconst 1, 1) := by decide +kernel
theorem d_So_layAs_60 : decode b_So_layAs 60 = .ok (.isub, 1) := by decide +kernel
theorem d_So_layAs_61 : decode b_So_layAs 61 = .ok (.iload 6, 2) := by decide +kernel
theorem d_So_layAs_63 : decode b_So_layAs 63 = .ok (.isub, 1) := by decide +kernel
theorem d_So_layAs_64 : decode b_So_layAs 64 = .ok (.goto 5, 3) := by decide +kernel
theorem d_So_layAs_67 : decode b_So_layAs 67 = .ok (.iload 6, 2) := by decide +kernel
theorem d_So_layAs_69 : decode b_So_layAs 69 = .ok (.istore 7, 2) := by decide +kernel
theorem d_So_layAs_71 : decode b_So_layAs 71 = .ok (.aload_n 0, 1) := by decide +kernel
theorem d_So_layAs_72 : decode b_So_layAs 72 = .ok (.aload_n 2, 1) := by decide +kernel
theorem d_So_layAs_73 : decode b_So_layAs 73 = .ok (.aload_n 1, 1) := by decide +kernel
theorem d_So_layAs_74 : decode b_So_layAs 74 = .ok (.getfield 9, 3) := by decide +kernel
theorem d_So_layAs_77 : decode b_So_layAs 77 = .ok (.iload 7, 2) := by decide +kernel
theorem d_So_layAs_79 : decode b_So_layAs 79 = .ok (.laload, 1) := by decide +kernel
theorem d_So_layAs_80 : decode b_So_layAs 80 = .ok (.aload_n 1, 1) := by decide +kernel
theorem d_So_layAs_81 : decode b_So_layAs 81 = .ok (.getfield 15, 3) := by decide +kernel
theorem d_So_layAs_84 : decode b_So_layAs 84 = .ok (.iload 7, 2) := by decide +kernel
theorem d_So_layAs_86 : decode b_So_layAs 86 = .ok (.laload, 1) := by decide +kernel
theorem d_So_layAs_87 : decode b_So_layAs 87 = .ok (.invokevirtual 72, 3) := by decide +kernel
theorem d_So_layAs_90 : decode b_So_layAs 90 = .ok (.aload_n 2, 1) := by decide +kernel
theorem d_So_layAs_91 : decode b_So_layAs 91 = .ok (.aload_n 1, 1) := by decide +kernel
theorem d_So_layAs_92 : decode b_So_layAs 92 = .ok (.getfield 9, 3) := by decide +kernel
theorem d_So_layAs_95 : decode b_So_layAs 95 = .ok (.iload 7, 2) := by decide +kernel
theorem d_So_layAs_97 : decode b_So_layAs 97 = .ok (.laload, 1) := by decide +kernel
theorem d_So_layAs_98 : decode b_So_layAs 98 = .ok (.aload_n 1, 1) := by decide +kernel
theorem d_So_layAs_99 : decode b_So_layAs 99 = .ok (.getfield 15, 3) := by decide +kernel
theorem d_So_layAs_102 : decode b_So_layAs 102 = .ok (.iload 7, 2) := by decide +kernel
theorem d_So_layAs_104 : decode b_So_layAs 104 = .ok (.laload, 1) := by decide +kernel
theorem d_So_layAs_105 : decode b_So_layAs 105 = .ok (.invokevirtual 75, 3) := by decide +kernel
theorem d_So_layAs_108 : decode b_So_layAs 108 = .ok (.invokevirtual 53, 3) := by decide +kernel
theorem d_So_layAs_111 : decode b_So_layAs 111 = .ok (.iinc 6 1, 3) := by decide +kernel
theorem d_So_layAs_114 : decode b_So_layAs 114 = .ok (.goto (-80), 3) := by decide +kernel
theorem d_So_layAs_117 : decode b_So_layAs 117 = .ok (.aload_n 2, 1) := by decide +kernel
theorem d_So_layAs_118 : decode b_So_layAs 118 = .ok (.getfield 67, 3) := by decide +kernel
theorem d_So_layAs_121 : decode b_So_layAs 121 = .ok (.iconst 1, 1) := by decide +kernel
theorem d_So_layAs_122 : decode b_So_layAs 122 = .ok (.if_icmp .ne 24, 3) := by decide +kernel
theorem d_So_layAs_125 : decode b_So_layAs 125 = .ok (.aload_n 0, 1) := by decide +kernel
theorem d_So_layAs_126 : decode b_So_layAs 126 = .ok (.lload_n 3, 1) := by decide +kernel
theorem d_So_layAs_127 : decode b_So_layAs 127 = .ok (.lneg, 1) := by decide +kernel
theorem d_So_layAs_128 : decode b_So_layAs 128 = .ok (.aload_n 1, 1) := by decide +kernel
theorem d_So_layAs_129 : decode b_So_layAs 129 = .ok (.getfield 60, 3) := by decide +kernel
theorem d_So_layAs_132 : decode b_So_layAs 132 = .ok (.lsub, 1) := by decide +kernel
theorem d_So_layAs_133 : decode b_So_layAs 133 = .ok (.lload_n 3, 1) := by decide +kernel
theorem d_So_layAs_134 : decode b_So_layAs 134 = .ok (.lneg, 1) := by decide +kernel
theorem d_So_layAs_135 : decode b_So_layAs 135 = .ok (.aload_n 1, 1) := by decide +kernel
theorem d_So_layAs_136 : decode b_So_layAs 136 = .ok (.getfield 57, 3) := by decide +kernel
theorem d_So_layAs_139 : decode b_So_layAs 139 = .ok (.lsub, 1) := by decide +kernel
theorem d_So_layAs_140 : decode b_So_layAs 140 = .ok (.invokevirtual 78, 3) := by decide +kernel
theorem d_So_layAs_143 : decode b_So_layAs 143 = .ok (.goto 15, 3) := by decide +kernel
theorem d_So_layAs_146 : decode b_So_layAs 146 = .ok (.aload_n 0, 1) := by decide +kernel
theorem d_So_layAs_147 : decode b_So_layAs 147 = .ok (.aload_n 1, 1) := by decide +kernel
theorem d_So_layAs_148 : decode b_So_layAs 148 = .ok (.getfield 57, 3) := by decide +kernel
theorem d_So_layAs_151 : decode b_So_layAs 151 = .ok (.aload_n 1, 1) := by decide +kernel
theorem d_So_layAs_152 : decode b_So_layAs 152 = .ok (.getfield 60, 3) := by decide +kernel
theorem d_So_layAs_155 : decode b_So_layAs 155 = .ok (.invokevirtual 78, 3) := by decide +kernel
theorem d_So_layAs_158 : decode b_So_layAs 158 = .ok (.return_, 1) := by decide +kernel
abbrev rm_So_layAs : Room := { frames := 2, cells := 0, slots := 0, locals := 47 }
theorem ce_So_layAs : gCe y_So_layAs (.code y_So_layAs b_So_layAs 8 none) 8 3 false := gCe.code wd_346 wd_56 wd_344 (by decide) (by decide +kernel)
def f_So_layAs_L34 (g0 : gG) (c0 : Nat) (c1 : Nat) (c2 : Nat) (c3 : Int64) (c5 : Int32) (K117 : gW → gX Unit) : Nat → Int32 → gW → gX Unit
  | 0, _, _ => none
  | n + 1, z6, w => (gfI w c1 3 5).bind fun v36 => if v36 ≤ z6 then (K117 w) else (if 8 ≤ z6 then (K117 w) else (gjoin (fun K69 => if c5 = 0 then (K69 z6 w) else ((gfI w c1 3 5).bind fun v73 => K69 ((v73 - 1) - z6) w)) (fun (y40 : Int32) (w : gW) => (gfA w c1 3 3).bind fun v41 => (gaJ w v41 y40).bind fun v43 => (gfA w c1 3 4).bind fun v45 => (gaJ w v45 y40).bind fun v47 => (gck w c2 5).bind fun _ => gbind (f_Pl_boardX g0 c2 v43 v47 w) fun v53 w => (gfA w c1 3 3).bind fun v54 => (gaJ w v54 y40).bind fun v56 => (gfA w c1 3 4).bind fun v58 => (gaJ w v58 y40).bind fun v60 => (gck w c2 5).bind fun _ => gbind (f_Pl_boardY g0 c2 v56 v60 w) fun v66 w => (gck w c0 3).bind fun _ => gbind (f_So_addCorner g0 c0 v53 v66 w) fun v71 w => f_So_layAs_L34 g0 c0 c1 c2 c3 c5 K117 n (z6 + 1) w)))
def f_So_layAs (g0 : gG) (a0 : Nat) (a1 : Nat) (a2 : Nat) (p3 : Int64) (w : gW) : gX Unit := (gfI w a1 3 0).bind fun v1 => (gfJ w a1 3 1).bind fun v3 => (gfJ w a1 3 2).bind fun v5 => (gck w a0 3).bind fun _ => gbind (f_So_begin g0 a0 v1 v3 v5 w) fun v11 w => (gfI w a2 5 4).bind fun v12 => gjoin (fun K29 => if v12 = 1 then (K29 1 w) else (K29 0 w)) (fun (y14 : Int32) (w : gW) => gjoin (fun K117 => f_So_layAs_L34 g0 a0 a1 a2 p3 y14 K117 64 0 w) (fun (w : gW) => (gfI w a2 5 4).bind fun v15 => gjoin (fun K158 => if v15 = 1 then ((gfJ w a1 3 11).bind fun v27 => (gfJ w a1 3 8).bind fun v29 => (gck w a0 3).bind fun _ => gbind (f_So_setHeights g0 a0 ((-p3) - v27) ((-p3) - v29) w) fun v35 w => K158 w) else ((gfJ w a1 3 8).bind fun v18 => (gfJ w a1 3 11).bind fun v20 => (gck w a0 3).bind fun _ => gbind (f_So_setHeights g0 a0 v18 v20 w) fun v26 w => K158 w)) (fun (w : gW) => some (.inr (), w))))
set_option maxHeartbeats 4000000 in
set_option maxRecDepth 100000 in
theorem m_So_layAs (l : Launch) (hst : l.stackTraces = false) (D : gD) (g0 : gG) (a0 : Nat) (a1 : Nat) (a2 : Nat) (p3 : Int64) (w : gW) (r : (String ⊕ Unit) × gW) (h : f_So_layAs g0 a0 a1 a2 p3 w = some r) : gMet l y_So_layAs (.code y_So_layAs b_So_layAs 8 none) rm_So_layAs D g0 [.ref a0, .ref a1, .ref a2, .long p3] w (goV r) := by
  refine gw_ofV (by decide +kernel) (Nat.le_of_ble_eq_true rfl) ?_
  intro p e s m below meth c ls args A Q hx hb hml hown hlocks hin hnt hT hK hZ hA hret hexc hthr hI hl
  obtain ⟨H, hH⟩ : ∃ H, H = s.heap := ⟨_, rfl⟩
  rw [← hH] at hI ⊢
  obtain ⟨locs, hlocs⟩ : ∃ z : List Loc, z = [] := ⟨_, rfl⟩
  rw [← hlocs] at hI ⊢
  have hl : lv_has ls 8 [(0, .ref a0), (1, .ref a1), (2, .ref a2), (3, .long p3)] := hl
  unfold f_So_layAs at h
  refine lv_aload_n hx hb d_So_layAs_0 rfl (lv_at hl 0 rfl) ?_
  refine lv_aload_n hx hb d_So_layAs_1 rfl (lv_at hl 1 rfl) ?_
  obtain ⟨v1, e2, h⟩ := gb h
  refine gw_getI hx hb hT hown hK hI (ci := 3) rfl i_3 0 (by decide) wd_129 (fun _ h9 => h9) e2 d_So_layAs_2 ?_
  refine lv_aload_n hx hb d_So_layAs_5 rfl (lv_at hl 1 rfl) ?_
  obtain ⟨v3, e4, h⟩ := gb h
  refine gw_getJ hx hb hT hown hK hI (ci := 3) rfl i_3 1 (by decide) wd_132 (fun _ h9 => h9) e4 d_So_layAs_6 ?_
  refine lv_aload_n hx hb d_So_layAs_9 rfl (lv_at hl 1 rfl) ?_
  obtain ⟨v5, e6, h⟩ := gb h
  refine gw_getJ hx hb hT hown hK hI (ci := 3) rfl i_3 2 (by decide) wd_134 (fun _ h9 => h9) e6 d_So_layAs_10 ?_
  obtain ⟨q9, e10, h⟩ := gb h
  obtain ⟨u7, e8⟩ := gsome h
  refine gw_callV e8 h (gw_runV (As := [.int v1, .long v3, .long v5]) (rest := []) hx hb hml hown hT hK hZ hA hI (ci := 3) rfl e10 (m_So_begin l hst D g0 a0 v1 v3 v5 w u7 e8) ce_So_begin wd_347 wd_349 ⟨by decide, by decide⟩ rfl rfl hl.1 rfl (lv_room (Nat.le_of_ble_eq_true rfl)) d_So_layAs_13 ⟨(show 0 + 0 ≤ 0 by omega), (show 0 + 0 ≤ 0 by omega)⟩) hI hA hexc (show 0 + 0 ≤ 0 by omega) (show 0 + 0 ≤ 0 by omega) (fun v11 w H locs h hI => ?_)
  refine lv_aload_n hx hb d_So_layAs_16 rfl (lv_at hl 2 rfl) ?_
  obtain ⟨v12, e13, h⟩ := gb h
  refine gw_getI hx hb hT hown hK hI (ci := 5) rfl i_5 4 (by decide) wd_658 (fun _ h9 => h9) e13 d_So_layAs_17 ?_
  refine lv_iconst (v := 1) hx hb d_So_layAs_20 (by decide) ?_
  obtain ⟨K29, eK29, h⟩ := gj h
  have hK29 : ∀ (y14 : Int32) (w : gW) (H : Heap) (locs : List Loc) (ls : Array Slot), K29 y14 w = some r → gI D s A w H locs → lv_has ls 8 [(0, .ref a0), (1, .ref a1), (2, .ref a2), (3, .long p3)] → W p l e rm_So_layAs s m args below meth c H locs 0 0 Q (F0 m 29 ls [.int y14]) := by
    intro y14 w H locs ls h hI hl
    have h := gk2 eK29 h
    refine lv_istore (lv' := [(5, .int y14), (0, .ref a0), (1, .ref a1), (2, .ref a2), (3, .long p3)]) hx hb d_So_layAs_29 hl (by decide) rfl (fun ls hl => ?_)
    refine lv_iconst (v := 0) hx hb d_So_layAs_31 (by decide) ?_
    refine lv_istore (lv' := [(6, .int 0), (5, .int y14), (0, .ref a0), (1, .ref a1), (2, .ref a2), (3, .long p3)]) hx hb d_So_layAs_32 hl (by decide) rfl (fun ls hl => ?_)
    obtain ⟨K117, eK117, h⟩ := gj h
    have hK117 : ∀ (w : gW) (H : Heap) (locs : List Loc) (ls : Array Slot), K117 w = some r → gI D s A w H locs → lv_has ls 8 [(0, .ref a0), (1, .ref a1), (2, .ref a2), (3, .long p3)] → W p l e rm_So_layAs s m args below meth c H locs 0 0 Q (F0 m 117 ls []) := by
      intro w H locs ls h hI hl
      have h := gk1 eK117 h
      refine lv_aload_n hx hb d_So_layAs_117 rfl (lv_at hl 2 rfl) ?_
      obtain ⟨v15, e16, h⟩ := gb h
      refine gw_getI hx hb hT hown hK hI (ci := 5) rfl i_5 4 (by decide) wd_658 (fun _ h9 => h9) e16 d_So_layAs_118 ?_
      refine lv_iconst (v := 1) hx hb d_So_layAs_121 (by decide) ?_
      obtain ⟨K158, eK158, h⟩ := gj h
      have hK158 : ∀ (w : gW) (H : Heap) (locs : List Loc) (ls : Array Slot), K158 w = some r → gI D s A w H locs → lv_has ls 8 [] → W p l e rm_So_layAs s m args below meth c H locs 0 0 Q (F0 m 158 ls []) := by
        intro w H locs ls h hI hl
        have h := gk1 eK158 h
        exact W.widen (show 0 ≤ 0 by omega) (show 0 ≤ 0 by omega) (hret _ _ (Option.some.inj h).symm _ _ _ _ d_So_layAs_158 hI)
      refine lv_icmp_ne (tgt := 146) hx hb d_So_layAs_122 (by decide) (fun c17 => ?_) (fun c17 => ?_)
      · skip
        have h := gie c17 h
        refine lv_aload_n hx hb d_So_layAs_146 rfl (lv_at hl 0 rfl) ?_
        refine lv_aload_n hx hb d_So_layAs_147 rfl (lv_at hl 1 rfl) ?_
        obtain ⟨v18, e19, h⟩ := gb h
        refine gw_getJ hx hb hT hown hK hI (ci := 3) rfl i_3 8 (by decide) wd_146 (fun _ h9 => h9) e19 d_So_layAs_148 ?_
        refine lv_aload_n hx hb d_So_layAs_151 rfl (lv_at hl 1 rfl) ?_
        obtain ⟨v20, e21, h⟩ := gb h
        refine gw_getJ hx hb hT hown hK hI (ci := 3) rfl i_3 11 (by decide) wd_152 (fun _ h9 => h9) e21 d_So_layAs_152 ?_
        obtain ⟨q24, e25, h⟩ := gb h
        obtain ⟨u22, e23⟩ := gsome h
        refine gw_callV e23 h (gw_runV (As := [.long v18, .long v20]) (rest := []) hx hb hml hown hT hK hZ hA hI (ci := 3) rfl e25 (m_So_setHeights l hst D g0 a0 v18 v20 w u22 e23) ce_So_setHeights wd_365 wd_367 ⟨by decide, by decide⟩ rfl rfl hl.1 rfl (lv_room (Nat.le_of_ble_eq_true rfl)) d_So_layAs_155 ⟨(show 0 + 0 ≤ 0 by omega), (show 0 + 0 ≤ 0 by omega)⟩) hI hA hexc (show 0 + 0 ≤ 0 by omega) (show 0 + 0 ≤ 0 by omega) (fun v26 w H locs h hI => ?_)
        exact hK158 w H locs ls h hI (lv_sub hl [] rfl)
      · skip
        have h := git c17 h
        refine lv_aload_n hx hb d_So_layAs_125 rfl (lv_at hl 0 rfl) ?_
        refine lv_lload_n hx hb d_So_layAs_126 rfl (lv_at hl 3 rfl) ?_
        refine lv_lneg hx hb d_So_layAs_127 ?_
        refine lv_aload_n hx hb d_So_layAs_128 rfl (lv_at hl 1 rfl) ?_
        obtain ⟨v27, e28, h⟩ := gb h
        refine gw_getJ hx hb hT hown hK hI (ci := 3) rfl i_3 11 (by decide) wd_152 (fun _ h9 => h9) e28 d_So_layAs_129 ?_
        refine lv_lsub hx hb d_So_layAs_132 ?_
        refine lv_lload_n hx hb d_So_layAs_133 rfl (lv_at hl 3 rfl) ?_
        refine lv_lneg hx hb d_So_layAs_134 ?_
        refine lv_aload_n hx hb d_So_layAs_135 rfl (lv_at hl 1 rfl) ?_
        obtain ⟨v29, e30, h⟩ := gb h
        refine gw_getJ hx hb hT hown hK hI (ci := 3) rfl i_3 8 (by decide) wd_146 (fun _ h9 => h9) e30 d_So_layAs_136 ?_
        refine lv_lsub hx hb d_So_layAs_139 ?_
        obtain ⟨q33, e34, h⟩ := gb h
        obtain ⟨u31, e32⟩ := gsome h
        refine gw_callV e32 h (gw_runV (As := [.long ((-p3) - v27), .long ((-p3) - v29)]) (rest := []) hx hb hml hown hT hK hZ hA hI (ci := 3) rfl e34 (m_So_setHeights l hst D g0 a0 ((-p3) - v27) ((-p3) - v29) w u31 e32) ce_So_setHeights wd_365 wd_367 ⟨by decide, by decide⟩ rfl rfl hl.1 rfl (lv_room (Nat.le_of_ble_eq_true rfl)) d_So_layAs_140 ⟨(show 0 + 0 ≤ 0 by omega), (show 0 + 0 ≤ 0 by omega)⟩) hI hA hexc (show 0 + 0 ≤ 0 by omega) (show 0 + 0 ≤ 0 by omega) (fun v35 w H locs h hI => ?_)
        refine lv_goto (tgt := 158) hx hb d_So_layAs_143 (by decide) ?_
        exact hK158 w H locs ls h hI (lv_sub hl [] rfl)
    have hL34 : ∀ (n : Nat), ∀ (z36 : Int32) (w : gW) (H : Heap) (locs : List Loc) (ls : Array Slot), f_So_layAs_L34 g0 a0 a1 a2 p3 y14 K117 n z36 w = some r → gI D s A w H locs → lv_has ls 8 [(0, .ref a0), (1, .ref a1), (2, .ref a2), (3, .long p3), (5, .int y14), (6, .int z36)] → W p l e rm_So_layAs s m args below meth c H locs 0 0 Q (F0 m 34 ls []) := by
      intro n
      induction n with
      | zero => intro z36 w H locs ls h hI hl; exact absurd h (by simp [f_So_layAs_L34])
      | succ n ih =>
        intro z36 w H locs ls h hI hl
        rw [f_So_layAs_L34] at h
        refine lv_iload hx hb d_So_layAs_34 (lv_at hl 5 rfl) ?_
        refine lv_aload_n hx hb d_So_layAs_36 rfl (lv_at hl 1 rfl) ?_
        obtain ⟨v37, e38, h⟩ := gb h
        refine gw_getI hx hb hT hown hK hI (ci := 3) rfl i_3 5 (by decide) wd_139 (fun _ h9 => h9) e38 d_So_layAs_37 ?_
        refine lv_icmp_ge (tgt := 117) hx hb d_So_layAs_40 (by decide) (fun c39 => ?_) (fun c39 => ?_)
        · skip
          have h := git c39 h
          exact hK117 w H locs ls h hI (lv_sub hl [0, 1, 2, 3] rfl)
        · skip
          have h := gie c39 h
          refine lv_iload hx hb d_So_layAs_43 (lv_at hl 5 rfl) ?_
          refine lv_bipush (v := 8) hx hb d_So_layAs_45 (by decide) ?_
          refine lv_icmp_ge (tgt := 117) hx hb d_So_layAs_47 (by decide) (fun c40 => ?_) (fun c40 => ?_)
          · skip
            have h := git c40 h
            exact hK117 w H locs ls h hI (lv_sub hl [0, 1, 2, 3] rfl)
          · skip
            have h := gie c40 h
            refine lv_iload hx hb d_So_layAs_50 (lv_at hl 4 rfl) ?_
            obtain ⟨K69, eK69, h⟩ := gj h
            have hK69 : ∀ (y41 : Int32) (w : gW) (H : Heap) (locs : List Loc) (ls : Array Slot), K69 y41 w = some r → gI D s A w H locs → lv_has ls 8 [(0, .ref a0), (1, .ref a1), (2, .ref a2), (3, .long p3), (5, .int y14), (6, .int z36)] → W p l e rm_So_layAs s m args below meth c H locs 0 0 Q (F0 m 69 ls [.int y41]) := by
              intro y41 w H locs ls h hI hl
              have h := gk2 eK69 h
              refine lv_istore (lv' := [(7, .int y41), (0, .ref a0), (1, .ref a1), (2, .ref a2), (3, .long p3), (5, .int y14), (6, .int z36)]) hx hb d_So_layAs_69 hl (by decide) rfl (fun ls hl => ?_)
              refine lv_aload_n hx hb d_So_layAs_71 rfl (lv_at hl 1 rfl) ?_
              refine lv_aload_n hx hb d_So_layAs_72 rfl (lv_at hl 3 rfl) ?_
              refine lv_aload_n hx hb d_So_layAs_73 rfl (lv_at hl 2 rfl) ?_
              obtain ⟨v42, e43, h⟩ := gb h
              refine gw_getA hx hb hT hown hK hI (ci := 3) rfl i_3 3 (by decide) wd_135 (fun _ h9 => h9) e43 d_So_layAs_74 ?_
              refine lv_iload hx hb d_So_layAs_77 (lv_at hl 0 rfl) ?_
              obtain ⟨v44, e45, h⟩ := gb h
              refine gw_aldJ hx hb hK hI e45 d_So_layAs_79 ?_
              refine lv_aload_n hx hb d_So_layAs_80 rfl (lv_at hl 2 rfl) ?_
              obtain ⟨v46, e47, h⟩ := gb h
              refine gw_getA hx hb hT hown hK hI (ci := 3) rfl i_3 4 (by decide) wd_137 (fun _ h9 => h9) e47 d_So_layAs_81 ?_
              refine lv_iload hx hb d_So_layAs_84 (lv_at hl 0 rfl) ?_
              obtain ⟨v48, e49, h⟩ := gb h
              refine gw_aldJ hx hb hK hI e49 d_So_layAs_86 ?_
              obtain ⟨q52, e53, h⟩ := gb h
              obtain ⟨u50, e51⟩ := gsome h
              refine gw_callJ e51 h (gw_runV (As := [.long v44, .long v48]) (rest := [.ref a0]) hx hb hml hown hT hK hZ hA hI (ci := 5) rfl e53 (m_Pl_boardX l hst D g0 a2 v44 v48 w u50 e51) ce_Pl_boardX wd_351 wd_353 ⟨by decide, by decide⟩ rfl rfl hl.1 rfl (lv_room (Nat.le_of_ble_eq_true rfl)) d_So_layAs_87 ⟨(show 0 + 0 ≤ 0 by omega), (show 0 + 0 ≤ 0 by omega)⟩) hI hA hexc (show 0 + 0 ≤ 0 by omega) (show 0 + 0 ≤ 0 by omega) (fun v54 w H locs h hI => ?_)
              refine lv_aload_n hx hb d_So_layAs_90 rfl (lv_at hl 3 rfl) ?_
              refine lv_aload_n hx hb d_So_layAs_91 rfl (lv_at hl 2 rfl) ?_
              obtain ⟨v55, e56, h⟩ := gb h
              refine gw_getA hx hb hT hown hK hI (ci := 3) rfl i_3 3 (by decide) wd_135 (fun _ h9 => h9) e56 d_So_layAs_92 ?_
              refine lv_iload hx hb d_So_layAs_95 (lv_at hl 0 rfl) ?_
              obtain ⟨v57, e58, h⟩ := gb h
              refine gw_aldJ hx hb hK hI e58 d_So_layAs_97 ?_
              refine lv_aload_n hx hb d_So_layAs_98 rfl (lv_at hl 2 rfl) ?_
              obtain ⟨v59, e60, h⟩ := gb h
              refine gw_getA hx hb hT hown hK hI (ci := 3) rfl i_3 4 (by decide) wd_137 (fun _ h9 => h9) e60 d_So_layAs_99 ?_
              refine lv_iload hx hb d_So_layAs_102 (lv_at hl 0 rfl) ?_
              obtain ⟨v61, e62, h⟩ := gb h
              refine gw_aldJ hx hb hK hI e62 d_So_layAs_104 ?_
              obtain ⟨q65, e66, h⟩ := gb h
              obtain ⟨u63, e64⟩ := gsome h
              refine gw_callJ e64 h (gw_runV (As := [.long v57, .long v61]) (rest := [.long v54, .ref a0]) hx hb hml hown hT hK hZ hA hI (ci := 5) rfl e66 (m_Pl_boardY l hst D g0 a2 v57 v61 w u63 e64) ce_Pl_boardY wd_355 wd_357 ⟨by decide, by decide⟩ rfl rfl hl.1 rfl (lv_room (Nat.le_of_ble_eq_true rfl)) d_So_layAs_105 ⟨(show 0 + 0 ≤ 0 by omega), (show 0 + 0 ≤ 0 by omega)⟩) hI hA hexc (show 0 + 0 ≤ 0 by omega) (show 0 + 0 ≤ 0 by omega) (fun v67 w H locs h hI => ?_)
              obtain ⟨q70, e71, h⟩ := gb h
              obtain ⟨u68, e69⟩ := gsome h
              refine gw_callV e69 h (gw_runV (As := [.long v54, .long v67]) (rest := []) hx hb hml hown hT hK hZ hA hI (ci := 3) rfl e71 (m_So_addCorner l hst D g0 a0 v54 v67 w u68 e69) ce_So_addCorner wd_359 wd_361 ⟨by decide, by decide⟩ rfl rfl hl.1 rfl (lv_room (Nat.le_of_ble_eq_true rfl)) d_So_layAs_108 ⟨(show 0 + 0 ≤ 0 by omega), (show 0 + 0 ≤ 0 by omega)⟩) hI hA hexc (show 0 + 0 ≤ 0 by omega) (show 0 + 0 ≤ 0 by omega) (fun v72 w H locs h hI => ?_)
              refine lv_iinc (v := z36 + 1) (lv' := [(6, .int (z36 + 1)), (7, .int y41), (0, .ref a0), (1, .ref a1), (2, .ref a2), (3, .long p3), (5, .int y14)]) hx hb d_So_layAs_111 hl (k := 6) rfl rfl (by decide) rfl (fun ls hl => ?_)
              refine lv_goto (tgt := 34) hx hb d_So_layAs_114 (by decide) ?_
              exact ih _ w H locs ls h hI (lv_sub hl [2, 3, 4, 5, 6, 0] rfl)
            refine lv_if_eq (tgt := 67) hx hb d_So_layAs_52 (by decide) (fun c73 => ?_) (fun c73 => ?_)
            · skip
              have h := git c73 h
              refine lv_iload hx hb d_So_layAs_67 (lv_at hl 5 rfl) ?_
              exact hK69 _ w H locs ls h hI (lv_sub hl [0, 1, 2, 3, 4, 5] rfl)
            · skip
              have h := gie c73 h
              refine lv_aload_n hx hb d_So_layAs_55 rfl (lv_at hl 1 rfl) ?_
              obtain ⟨v74, e75, h⟩ := gb h
              refine gw_getI hx hb hT hown hK hI (ci := 3) rfl i_3 5 (by decide) wd_139 (fun _ h9 => h9) e75 d_So_layAs_56 ?_
              refine lv_iconst (v := 1) hx hb d_So_layAs_59 (by decide) ?_
              refine lv_isub hx hb d_So_layAs_60 ?_
              refine lv_iload hx hb d_So_layAs_61 (lv_at hl 5 rfl) ?_
              refine lv_isub hx hb d_So_layAs_63 ?_
              refine lv_goto (tgt := 69) hx hb d_So_layAs_64 (by decide) ?_
              exact hK69 _ w H locs ls h hI (lv_sub hl [0, 1, 2, 3, 4, 5] rfl)
    exact hL34 64 _ w H locs ls h hI (lv_sub hl [2, 3, 4, 5, 1, 0] rfl)
  refine lv_icmp_ne (tgt := 28) hx hb d_So_layAs_21 (by decide) (fun c76 => ?_) (fun c76 => ?_)
  · skip
    have h := gie c76 h
    refine lv_iconst (v := 0) hx hb d_So_layAs_28 (by decide) ?_
    exact hK29 _ w H locs ls h hI (lv_sub hl [0, 1, 2, 3] rfl)
  · skip
    have h := git c76 h
    refine lv_iconst (v := 1) hx hb d_So_layAs_24 (by decide) ?_
    refine lv_goto (tgt := 29) hx hb d_So_layAs_25 (by decide) ?_
    exact hK29 _ w H locs ls h hI (lv_sub hl [0, 1, 2, 3] rfl)

abbrev b_La_lay : ByteArray := prog_4_method_2_code
def y_La_lay : MethodName := ⟨"BodySolids$Layout", "lay", "(LBodySolids$Placement;J)V"⟩
theorem d_La_lay_0 : decode b_La_lay 0 = .ok (.aload_n 1, 1) := by decide +kernel
theorem d_La_lay_1 : decode b_La_lay 1 = .ok (.getfield 22, 3) := by decide +kernel
theorem d_La_lay_4 : decode b_La_lay 4 = .ok (.getfield 28, 3) := by decide +kernel
theorem d_La_lay_7 : decode b_La_lay 7 = .ok (.astore 4, 2) := by decide +kernel
theorem d_La_lay_9 : decode b_La_lay 9 = .ok (.aload_n 0, 1) := by decide +kernel
theorem d_La_lay_10 : decode b_La_lay 10 = .ok (.aload 4, 2) := by decide +kernel
theorem d_La_lay_12 : decode b_La_lay 12 = .ok (.invokevirtual 33, 3) := by decide +kernel
theorem d_La_lay_15 : decode b_La_lay 15 = .ok (.bipush 12, 2) := by decide +kernel
theorem d_La_lay_17 : decode b_La_lay 17 = .ok (.invokestatic 39, 3) := by decide +kernel
theorem d_La_lay_20 : decode b_La_lay 20 = .ok (.putfield 17, 3) := by decide +kernel
theorem d_La_lay_23 : decode b_La_lay 23 = .ok (.iconst 0, 1) := by decide +kernel
theorem d_La_lay_24 : decode b_La_lay 24 = .ok (.istore 5, 2) := by decide +kernel
theorem d_La_lay_26 : decode b_La_lay 26 = .ok (.iload 5, 2) := by decide +kernel
theorem d_La_lay_28 : decode b_La_lay 28 = .ok (.aload_n 0, 1) := by decide +kernel
theorem d_La_lay_29 : decode b_La_lay 29 = .ok (.getfield 17, 3) := by decide +kernel
theorem d_La_lay_32 : decode b_La_lay 32 = .ok (.if_icmp .ge 31, 3) := by decide +kernel
theorem d_La_lay_35 : decode b_La_lay 35 = .ok (.aload_n 0, 1) := by decide +kernel
theorem d_La_lay_36 : decode b_La_lay 36 = .ok (.getfield 11, 3) := by decide +kernel
theorem d_La_lay_39 : decode b_La_lay 39 = .ok (.iload 5, 2) := by decide +kernel
theorem d_La_lay_41 : decode b_La_lay 41 = .ok (.aaload, 1) := by decide +kernel
theorem d_La_lay_42 : decode b_La_lay 42 = .ok (.aload 4, 2) := by decide +kernel
theorem d_La_lay_44 : decode b_La_lay 44 = .ok (.iload 5, 2) := by decide +kernel
theorem d_La_lay_46 : decode b_La_lay 46 = .ok (.invokevirtual 45, 3) := by decide +kernel
theorem d_La_lay_49 : decode b_La_lay 49 = .ok (.checkcast 9, 3) := by decide +kernel
theorem d_La_lay_52 : decode b_La_lay 52 = .ok (.aload_n 1, 1) := by decide +kernel
theorem d_La_lay_53 : decode b_La_lay 53 = .ok (.lload_n 2, 1) := by decide +kernel
theorem d_La_lay_54 : decode b_La_lay 54 = .ok (.invokevirtual 49, 3) := by decide +kernel
theorem d_La_lay_57 : decode b_La_lay 57 = .ok (.iinc 5 1, 3) := by decide +kernel
theorem d_La_lay_60 : decode b_La_lay 60 = .ok (.goto (-34), 3) := by decide +kernel
theorem d_La_lay_63 : decode b_La_lay 63 = .ok (.return_, 1) := by decide +kernel
abbrev rm_La_lay : Room := { frames := 3, cells := 0, slots := 0, locals := 74 }
theorem ce_La_lay : gCe y_La_lay (.code y_La_lay b_La_lay 6 none) 6 2 false := gCe.code wd_339 wd_55 wd_337 (by decide) (by decide +kernel)
def f_La_lay_L26 (g0 : gG) (c0 : Nat) (c1 : Nat) (c2 : Int64) (c4 : Nat) (K63 : gW → gX Unit) : Nat → Int32 → gW → gX Unit
  | 0, _, _ => none
  | n + 1, z5, w => (gfI w c0 2 1).bind fun v14 => if v14 ≤ z5 then (K63 w) else ((gfA w c0 2 0).bind fun v17 => (gaA w v17 z5).bind fun v19 => (gck w c4 1).bind fun _ => gbind (f_AL_get g0 c4 z5 w) fun v25 w => (gck w v25 3).bind fun _ => (gck w v19 3).bind fun _ => gbind (f_So_layAs g0 v19 v25 c1 c2 w) fun v32 w => f_La_lay_L26 g0 c0 c1 c2 c4 K63 n (z5 + 1) w)
def f_La_lay (g0 : gG) (a0 : Nat) (a1 : Nat) (p2 : Int64) (w : gW) : gX Unit := (gfA w a1 5 0).bind fun v1 => (gfA w v1 4 0).bind fun v3 => (gck w v3 1).bind fun _ => gbind (f_AL_size g0 v3 w) fun v9 w => gbind (f_Ma_min g0 v9 12 w) fun v12 w => (gp w a0 2 1 (.int v12)).bind fun w => gjoin (fun K63 => f_La_lay_L26 g0 a0 a1 p2 v3 K63 64 0 w) (fun (w : gW) => some (.inr (), w))
set_option maxHeartbeats 4000000 in
set_option maxRecDepth 100000 in
theorem m_La_lay (l : Launch) (hst : l.stackTraces = false) (D : gD) (g0 : gG) (a0 : Nat) (a1 : Nat) (p2 : Int64) (w : gW) (r : (String ⊕ Unit) × gW) (h : f_La_lay g0 a0 a1 p2 w = some r) : gMet l y_La_lay (.code y_La_lay b_La_lay 6 none) rm_La_lay D g0 [.ref a0, .ref a1, .long p2] w (goV r) := by
  refine gw_ofV (by decide +kernel) (Nat.le_of_ble_eq_true rfl) ?_
  intro p e s m below meth c ls args A Q hx hb hml hown hlocks hin hnt hT hK hZ hA hret hexc hthr hI hl
  obtain ⟨H, hH⟩ : ∃ H, H = s.heap := ⟨_, rfl⟩
  rw [← hH] at hI ⊢
  obtain ⟨locs, hlocs⟩ : ∃ z : List Loc, z = [] := ⟨_, rfl⟩
  rw [← hlocs] at hI ⊢
  have hl : lv_has ls 6 [(0, .ref a0), (1, .ref a1), (2, .long p2)] := hl
  unfold f_La_lay at h
  refine lv_aload_n hx hb d_La_lay_0 rfl (lv_at hl 1 rfl) ?_
  obtain ⟨v1, e2, h⟩ := gb h
  refine gw_getA hx hb hT hown hK hI (ci := 5) rfl i_5 0 (by decide) wd_652 (fun _ h9 => h9) e2 d_La_lay_1 ?_
  obtain ⟨v3, e4, h⟩ := gb h
  refine gw_getA hx hb hT hown hK hI (ci := 4) rfl i_4 0 (by decide) wd_237 (fun _ h9 => h9) e4 d_La_lay_4 ?_
  refine lv_astore (lv' := [(4, .ref v3), (0, .ref a0), (1, .ref a1), (2, .long p2)]) hx hb d_La_lay_7 hl (by decide) rfl (fun ls hl => ?_)
  refine lv_aload_n hx hb d_La_lay_9 rfl (lv_at hl 1 rfl) ?_
  refine lv_aload hx hb d_La_lay_10 (lv_at hl 0 rfl) ?_
  obtain ⟨q7, e8, h⟩ := gb h
  obtain ⟨u5, e6⟩ := gsome h
  refine gw_callI e6 h (gw_runV (As := []) (rest := [.ref a0]) hx hb hml hown hT hK hZ hA hI (ci := 1) rfl e8 (m_AL_size l hst D g0 v3 w u5 e6) ce_AL_size wd_340 wd_226 ⟨by decide, by decide⟩ rfl rfl hl.1 rfl (lv_room (Nat.le_of_ble_eq_true rfl)) d_La_lay_12 ⟨(show 0 + 0 ≤ 0 by omega), (show 0 + 0 ≤ 0 by omega)⟩) hI hA hexc (show 0 + 0 ≤ 0 by omega) (show 0 + 0 ≤ 0 by omega) (fun v9 w H locs h hI => ?_)
  refine lv_bipush (v := 12) hx hb d_La_lay_15 (by decide) ?_
  obtain ⟨u10, e11⟩ := gsome h
  refine gw_callI e11 h (gw_runS (As := [.int v9, .int 12]) (rest := [.ref a0]) hx hb hml hown hT hK hZ hA hI (m_Ma_min l hst D g0 v9 12 w u10 e11) ce_Ma_min wd_341 ⟨by decide, by decide⟩ rfl rfl hl.1 rfl (lv_room (Nat.le_of_ble_eq_true rfl)) d_La_lay_17 ⟨(show 0 + 0 ≤ 0 by omega), (show 0 + 0 ≤ 0 by omega)⟩) hI hA hexc (show 0 + 0 ≤ 0 by omega) (show 0 + 0 ≤ 0 by omega) (fun v12 w H locs h hI => ?_)
  obtain ⟨w, e13, h⟩ := gb h
  refine gw_put hx hb hT hown hK hI (ci := 2) rfl i_2 t_2 t_2_ok n_2 1 (by decide) wd_182 (fun _ h9 => h9) rfl (ty := .int) (by decide +kernel) rfl rfl e13 d_La_lay_20 (fun H locs hI => ?_)
  refine lv_iconst (v := 0) hx hb d_La_lay_23 (by decide) ?_
  refine lv_istore (lv' := [(5, .int 0), (4, .ref v3), (0, .ref a0), (1, .ref a1), (2, .long p2)]) hx hb d_La_lay_24 hl (by decide) rfl (fun ls hl => ?_)
  obtain ⟨K63, eK63, h⟩ := gj h
  have hK63 : ∀ (w : gW) (H : Heap) (locs : List Loc) (ls : Array Slot), K63 w = some r → gI D s A w H locs → lv_has ls 6 [] → W p l e rm_La_lay s m args below meth c H locs 0 0 Q (F0 m 63 ls []) := by
    intro w H locs ls h hI hl
    have h := gk1 eK63 h
    exact W.widen (show 0 ≤ 0 by omega) (show 0 ≤ 0 by omega) (hret _ _ (Option.some.inj h).symm _ _ _ _ d_La_lay_63 hI)
  have hL26 : ∀ (n : Nat), ∀ (z14 : Int32) (w : gW) (H : Heap) (locs : List Loc) (ls : Array Slot), f_La_lay_L26 g0 a0 a1 p2 v3 K63 n z14 w = some r → gI D s A w H locs → lv_has ls 6 [(0, .ref a0), (1, .ref a1), (2, .long p2), (4, .ref v3), (5, .int z14)] → W p l e rm_La_lay s m args below meth c H locs 0 0 Q (F0 m 26 ls []) := by
    intro n
    induction n with
    | zero => intro z14 w H locs ls h hI hl; exact absurd h (by simp [f_La_lay_L26])
    | succ n ih =>
      intro z14 w H locs ls h hI hl
      rw [f_La_lay_L26] at h
      refine lv_iload hx hb d_La_lay_26 (lv_at hl 4 rfl) ?_
      refine lv_aload_n hx hb d_La_lay_28 rfl (lv_at hl 0 rfl) ?_
      obtain ⟨v15, e16, h⟩ := gb h
      refine gw_getI hx hb hT hown hK hI (ci := 2) rfl i_2 1 (by decide) wd_182 (fun _ h9 => h9) e16 d_La_lay_29 ?_
      refine lv_icmp_ge (tgt := 63) hx hb d_La_lay_32 (by decide) (fun c17 => ?_) (fun c17 => ?_)
      · skip
        have h := git c17 h
        exact hK63 w H locs ls h hI (lv_sub hl [] rfl)
      · skip
        have h := gie c17 h
        refine lv_aload_n hx hb d_La_lay_35 rfl (lv_at hl 0 rfl) ?_
        obtain ⟨v18, e19, h⟩ := gb h
        refine gw_getA hx hb hT hown hK hI (ci := 2) rfl i_2 0 (by decide) wd_180 (fun _ h9 => h9) e19 d_La_lay_36 ?_
        refine lv_iload hx hb d_La_lay_39 (lv_at hl 4 rfl) ?_
        obtain ⟨v20, e21, h⟩ := gb h
        refine gw_aldA hx hb hK hI e21 d_La_lay_41 ?_
        refine lv_aload hx hb d_La_lay_42 (lv_at hl 3 rfl) ?_
        refine lv_iload hx hb d_La_lay_44 (lv_at hl 4 rfl) ?_
        obtain ⟨q24, e25, h⟩ := gb h
        obtain ⟨u22, e23⟩ := gsome h
        refine gw_callA e23 h (gw_runV (As := [.int z14]) (rest := [.ref v20]) hx hb hml hown hT hK hZ hA hI (ci := 1) rfl e25 (m_AL_get l hst D g0 v3 z14 w u22 e23) ce_AL_get wd_342 wd_323 ⟨by decide, by decide⟩ rfl rfl hl.1 rfl (lv_room (Nat.le_of_ble_eq_true rfl)) d_La_lay_46 ⟨(show 0 + 0 ≤ 0 by omega), (show 0 + 0 ≤ 0 by omega)⟩) hI hA hexc (show 0 + 0 ≤ 0 by omega) (show 0 + 0 ≤ 0 by omega) (fun v26 w H locs h hI => ?_)
        obtain ⟨q28, e27, h⟩ := gb h
        refine gw_cast hx hb hT hown hK hI wd_122 (ci := 3) rfl wd_1124 e27 d_La_lay_49 ?_
        refine lv_aload_n hx hb d_La_lay_52 rfl (lv_at hl 1 rfl) ?_
        refine lv_lload_n hx hb d_La_lay_53 rfl (lv_at hl 2 rfl) ?_
        obtain ⟨q31, e32, h⟩ := gb h
        obtain ⟨u29, e30⟩ := gsome h
        refine gw_callV e30 h (gw_runV (As := [.ref v26, .ref a1, .long p2]) (rest := []) hx hb hml hown hT hK hZ hA hI (ci := 3) rfl e32 (m_So_layAs l hst D g0 v20 v26 a1 p2 w u29 e30) ce_So_layAs wd_343 wd_345 ⟨by decide, by decide⟩ rfl rfl hl.1 rfl (lv_room (Nat.le_of_ble_eq_true rfl)) d_La_lay_54 ⟨(show 0 + 0 ≤ 0 by omega), (show 0 + 0 ≤ 0 by omega)⟩) hI hA hexc (show 0 + 0 ≤ 0 by omega) (show 0 + 0 ≤ 0 by omega) (fun v33 w H locs h hI => ?_)
        refine lv_iinc (v := z14 + 1) (lv' := [(5, .int (z14 + 1)), (0, .ref a0), (1, .ref a1), (2, .long p2), (4, .ref v3)]) hx hb d_La_lay_57 hl (k := 4) rfl rfl (by decide) rfl (fun ls hl => ?_)
        refine lv_goto (tgt := 26) hx hb d_La_lay_60 (by decide) ?_
        exact ih _ w H locs ls h hI (lv_sub hl [1, 2, 3, 4, 0] rfl)
  exact hL26 64 _ w H locs ls h hI (lv_sub hl [2, 3, 4, 1, 0] rfl)

abbrev b_Me_gap : ByteArray := prog_5_method_3_code
def y_Me_gap : MethodName := ⟨"BodySolids$Meeting", "gap", "(JJJJ)J"⟩
theorem d_Me_gap_0 : decode b_Me_gap 0 = .ok (.lload 4, 2) := by decide +kernel
theorem d_Me_gap_2 : decode b_Me_gap 2 = .ok (.lload_n 2, 1) := by decide +kernel
theorem d_Me_gap_3 : decode b_Me_gap 3 = .ok (.lsub, 1) := by decide +kernel
theorem d_Me_gap_4 : decode b_Me_gap 4 = .ok (.lload_n 0, 1) := by decide +kernel
theorem d_Me_gap_5 : decode b_Me_gap 5 = .ok (.lload 6, 2) := by decide +kernel
theorem d_Me_gap_7 : decode b_Me_gap 7 = .ok (.lsub, 1) := by decide +kernel
theorem d_Me_gap_8 : decode b_Me_gap 8 = .ok (.invokestatic 68, 3) := by decide +kernel
theorem d_Me_gap_11 : decode b_Me_gap 11 = .ok (.lreturn, 1) := by decide +kernel
abbrev rm_Me_gap : Room := { frames := 1, cells := 0, slots := 0, locals := 23 }
theorem ce_Me_gap : gCe y_Me_gap (.code y_Me_gap b_Me_gap 8 (some .long)) 8 4 true := gCe.code wd_378 wd_69 wd_377 (by decide) (by decide +kernel)
def f_Me_gap (g0 : gG) (p0 : Int64) (p1 : Int64) (p2 : Int64) (p3 : Int64) (w : gW) : gX Int64 := gbind (f_Ma_max2 g0 (p2 - p1) (p0 - p3) w) fun v3 w => some (.inr v3, w)
set_option maxHeartbeats 4000000 in
set_option maxRecDepth 100000 in
theorem m_Me_gap (l : Launch) (hst : l.stackTraces = false) (D : gD) (g0 : gG) (p0 : Int64) (p1 : Int64) (p2 : Int64) (p3 : Int64) (w : gW) (r : (String ⊕ Int64) × gW) (h : f_Me_gap g0 p0 p1 p2 p3 w = some r) : gMet l y_Me_gap (.code y_Me_gap b_Me_gap 8 (some .long)) rm_Me_gap D g0 [.long p0, .long p1, .long p2, .long p3] w (goJ r) := by
  refine gw_ofJ (by decide +kernel) (Nat.le_of_ble_eq_true rfl) ?_
  intro p e s m below meth c ls args A Q hx hb hml hown hlocks hin hnt hT hK hZ hA hret hexc hthr hI hl
  obtain ⟨H, hH⟩ : ∃ H, H = s.heap := ⟨_, rfl⟩
  rw [← hH] at hI ⊢
  obtain ⟨locs, hlocs⟩ : ∃ z : List Loc, z = [] := ⟨_, rfl⟩
  rw [← hlocs] at hI ⊢
  have hl : lv_has ls 8 [(0, .long p0), (2, .long p1), (4, .long p2), (6, .long p3)] := hl
  unfold f_Me_gap at h
  refine lv_lload hx hb d_Me_gap_0 (lv_at hl 2 rfl) ?_
  refine lv_lload_n hx hb d_Me_gap_2 rfl (lv_at hl 1 rfl) ?_
  refine lv_lsub hx hb d_Me_gap_3 ?_
  refine lv_lload_n hx hb d_Me_gap_4 rfl (lv_at hl 0 rfl) ?_
  refine lv_lload hx hb d_Me_gap_5 (lv_at hl 3 rfl) ?_
  refine lv_lsub hx hb d_Me_gap_7 ?_
  obtain ⟨u1, e2⟩ := gsome h
  refine gw_callJ e2 h (gw_runS (As := [.long (p2 - p1), .long (p0 - p3)]) (rest := []) hx hb hml hown hT hK hZ hA hI (m_Ma_max2 l hst D g0 (p2 - p1) (p0 - p3) w u1 e2) ce_Ma_max2 wd_379 ⟨by decide, by decide⟩ rfl rfl hl.1 rfl (lv_room (Nat.le_of_ble_eq_true rfl)) d_Me_gap_8 ⟨(show 0 + 0 ≤ 0 by omega), (show 0 + 0 ≤ 0 by omega)⟩) hI hA hexc (show 0 + 0 ≤ 0 by omega) (show 0 + 0 ≤ 0 by omega) (fun v3 w H locs h hI => ?_)
  exact W.widen (show 0 ≤ 0 by omega) (show 0 ≤ 0 by omega) (hret _ _ (Option.some.inj h).symm _ _ _ _ d_Me_gap_11 hI)

abbrev b_Me_sign : ByteArray := prog_5_method_4_code
def y_Me_sign : MethodName := ⟨"BodySolids$Meeting", "sign", "(J)I"⟩
theorem d_Me_sign_0 : decode b_Me_sign 0 = .ok (.lload_n 0, 1) := by decide +kernel
theorem d_Me_sign_1 : decode b_Me_sign 1 = .ok (.lconst 0, 1) := by decide +kernel
theorem d_Me_sign_2 : decode b_Me_sign 2 = .ok (.lcmp, 1) := by decide +kernel
theorem d_Me_sign_3 : decode b_Me_sign 3 = .ok (.ifCond .le 7, 3) := by decide +kernel
theorem d_Me_sign_6 : decode b_Me_sign 6 = .ok (.iconst 1, 1) := by decide +kernel
theorem d_Me_sign_7 : decode b_Me_sign 7 = .ok (.goto 14, 3) := by decide +kernel
theorem d_Me_sign_10 : decode b_Me_sign 10 = .ok (.lload_n 0, 1) := by decide +kernel
theorem d_Me_sign_11 : decode b_Me_sign 11 = .ok (.lconst 0, 1) := by decide +kernel
theorem d_Me_sign_12 : decode b_Me_sign 12 = .ok (.lcmp, 1) := by decide +kernel
theorem d_Me_sign_13 : decode b_Me_sign 13 = .ok (.ifCond .ge 7, 3) := by decide +kernel
theorem d_Me_sign_16 : decode b_Me_sign 16 = .ok (.iconst (-1), 1) := by decide +kernel
theorem d_Me_sign_17 : decode b_Me_sign 17 = .ok (.goto 4, 3) := by decide +kernel
theorem d_Me_sign_20 : decode b_Me_sign 20 = .ok (.iconst 0, 1) := by decide +kernel
theorem d_Me_sign_21 : decode b_Me_sign 21 = .ok (.ireturn, 1) := by decide +kernel
abbrev rm_Me_sign : Room := { frames := 0, cells := 0, slots := 0, locals := 0 }
theorem ce_Me_sign : gCe y_Me_sign (.code y_Me_sign b_Me_sign 2 (some .int)) 2 1 true := gCe.code wd_385 wd_69 wd_384 (by decide) (by decide +kernel)
def f_Me_sign (g0 : gG) (p0 : Int64) (w : gW) : gX Int32 := gjoin (fun K21 => if p0 ≤ 0 then (if 0 ≤ p0 then (K21 0 w) else (K21 (-1) w)) else (K21 1 w)) (fun (y1 : Int32) (w : gW) => some (.inr y1, w))
set_option maxHeartbeats 4000000 in
set_option maxRecDepth 100000 in
theorem m_Me_sign (l : Launch) (hst : l.stackTraces = false) (D : gD) (g0 : gG) (p0 : Int64) (w : gW) (r : (String ⊕ Int32) × gW) (h : f_Me_sign g0 p0 w = some r) : gMet l y_Me_sign (.code y_Me_sign b_Me_sign 2 (some .int)) rm_Me_sign D g0 [.long p0] w (goI r) := by
  refine gw_ofI (by decide +kernel) (Nat.le_of_ble_eq_true rfl) ?_
  intro p e s m below meth c ls args A Q hx hb hml hown hlocks hin hnt hT hK hZ hA hret hexc hthr hI hl
  obtain ⟨H, hH⟩ : ∃ H, H = s.heap := ⟨_, rfl⟩
  rw [← hH] at hI ⊢
  obtain ⟨locs, hlocs⟩ : ∃ z : List Loc, z = [] := ⟨_, rfl⟩
  rw [← hlocs] at hI ⊢
  have hl : lv_has ls 2 [(0, .long p0)] := hl
  unfold f_Me_sign at h
  refine lv_lload_n hx hb d_Me_sign_0 rfl (lv_at hl 0 rfl) ?_
  refine lv_lconst (v := 0) hx hb d_Me_sign_1 (by decide) ?_
  refine W.lcmp hx hb d_Me_sign_2 ?_
  obtain ⟨K21, eK21, h⟩ := gj h
  have hK21 : ∀ (y1 : Int32) (w : gW) (H : Heap) (locs : List Loc) (ls : Array Slot), K21 y1 w = some r → gI D s A w H locs → lv_has ls 2 [] → W p l e rm_Me_sign s m args below meth c H locs 0 0 Q (F0 m 21 ls [.int y1]) := by
    intro y1 w H locs ls h hI hl
    have h := gk2 eK21 h
    exact W.widen (show 0 ≤ 0 by omega) (show 0 ≤ 0 by omega) (hret _ _ (Option.some.inj h).symm _ _ _ _ d_Me_sign_21 hI)
  refine lv_if_le (tgt := 10) hx hb d_Me_sign_3 (by decide) (fun c2 => ?_) (fun c2 => ?_)
  · have c2 := (lg_cmp_le _ _).mp c2
    have h := git c2 h
    refine lv_lload_n hx hb d_Me_sign_10 rfl (lv_at hl 0 rfl) ?_
    refine lv_lconst (v := 0) hx hb d_Me_sign_11 (by decide) ?_
    refine W.lcmp hx hb d_Me_sign_12 ?_
    refine lv_if_ge (tgt := 20) hx hb d_Me_sign_13 (by decide) (fun c3 => ?_) (fun c3 => ?_)
    · have c3 := (lg_cmp_ge _ _).mp c3
      have h := git c3 h
      refine lv_iconst (v := 0) hx hb d_Me_sign_20 (by decide) ?_
      exact hK21 _ w H locs ls h hI (lv_sub hl [] rfl)
    · have c3 := mt (lg_cmp_ge _ _).mpr c3
      have h := gie c3 h
      refine lv_iconst (v := -1) hx hb d_Me_sign_16 (by decide) ?_
      refine lv_goto (tgt := 21) hx hb d_Me_sign_17 (by decide) ?_
      exact hK21 _ w H locs ls h hI (lv_sub hl [] rfl)
  · have c2 := mt (lg_cmp_le _ _).mpr c2
    have h := gie c2 h
    refine lv_iconst (v := 1) hx hb d_Me_sign_6 (by decide) ?_
    refine lv_goto (tgt := 21) hx hb d_Me_sign_7 (by decide) ?_
    exact hK21 _ w H locs ls h hI (lv_sub hl [] rfl)

abbrev b_Me_partedBySides : ByteArray := prog_5_method_7_code
def y_Me_partedBySides : MethodName := ⟨"BodySolids$Meeting", "partedBySides", "(LBodySolids$Solid;LBodySolids$Solid;)I"⟩
theorem d_Me_partedBySides_0 : decode b_Me_partedBySides 0 = .ok (.iconst (-1), 1) := by decide +kernel
theorem d_Me_partedBySides_1 : decode b_Me_partedBySides 1 = .ok (.istore_n 2, 1) := by decide +kernel
theorem d_Me_partedBySides_2 : decode b_Me_partedBySides 2 = .ok (.iconst 0, 1) := by decide +kernel
theorem d_Me_partedBySides_3 : decode b_Me_partedBySides 3 = .ok (.istore_n 3, 1) := by decide +kernel
theorem d_Me_partedBySides_4 : decode b_Me_partedBySides 4 = .ok (.iload_n 3, 1) := by decide +kernel
theorem d_Me_partedBySides_5 : decode b_Me_partedBySides 5 = .ok (.aload_n 0, 1) := by decide +kernel
theorem d_Me_partedBySides_6 : decode b_Me_partedBySides 6 = .ok (.getfield 78, 3) := by decide +kernel
theorem d_Me_partedBySides_9 : decode b_Me_partedBySides 9 = .ok (.if_icmp .ge 148, 3) := by decide +kernel
theorem d_Me_partedBySides_12 : decode b_Me_partedBySides 12 = .ok (.iload_n 2, 1) := by decide +kernel
theorem d_Me_partedBySides_13 : decode b_Me_partedBySides 13 = .ok (.iconst 1, 1) := by decide +kernel
theorem d_Me_partedBySides_14 : decode b_Me_partedBySides 14 = .ok (.if_icmp .eq 143, 3) := by decide +kernel
theorem d_Me_partedBySides_17 : decode b_Me_partedBySides 17 = .ok (.iload_n 3, 1) := by decide +kernel
theorem d_Me_partedBySides_18 : decode b_Me_partedBySides 18 = .ok (.iconst 1, 1) := by decide +kernel
theorem d_Me_partedBySides_19 : decode b_Me_partedBySides 19 = .ok (.iadd, 1) := by decide +kernel
theorem d_Me_partedBySides_20 : decode b_Me_partedBySides 20 = .ok (.aload_n 0, 1) := by decide +kernel
theorem d_Me_partedBySides_21 : decode b_Me_partedBySides 21 = .ok (.getfield 78, 3) := by decide +kernel
theorem d_Me_partedBySides_24 : decode b_Me_partedBySides 24 = .ok (.if_icmp .ge 9, 3) := by decide +kernel
theorem d_Me_partedBySides_27 : decode b_Me_partedBySides 27 = .ok (.iload_n 3, 1) := by decide +kernel
theorem d_Me_partedBySides_28 : decode b_Me_partedBySides 28 = .ok (.iconst 1, 1) := by decide +kernel
theorem d_Me_partedBySides_29 : decode b_Me_partedBySides 29 = .ok (.iadd, 1) := by decide +kernel
theorem d_Me_partedBySides_30 : decode b_Me_partedBySides 30 = .ok (.goto 4, 3) := by decide +kernel
theorem d_Me_partedBySides_33 : decode b_Me_partedBySides 33 = .ok (.iconst 0, 1) := by decide +kernel
theorem d_Me_partedBySides_34 : decode b_Me_partedBySides 34 = .ok (.istore 4, 2) := by decide +kernel
theorem d_Me_partedBySides_36 : decode b_Me_partedBySides 36 = .ok (.aload_n 0, 1) := by decide +kernel
theorem d_Me_partedBySides_37 : decode b_Me_partedBySides 37 = .ok (.getfield 81, 3) := by decide +kernel
theorem d_Me_partedBySides_40 : decode b_Me_partedBySides 40 = .ok (.iload 4, 2) := by decide +kernel
theorem d_Me_partedBySides_42 : decode b_Me_partedBySides 42 = .ok (.laload, 1) := by decide +kernel
theorem d_Me_partedBySides_43 : decode b_Me_partedBySides 43 = .ok (.aload_n 0, 1) := by decide +kernel
theorem d_Me_partedBySides_44 : decode b_Me_partedBySides 44 = .ok (.getfield 81, 3) := by decide +kernel
theorem d_Me_partedBySides_47 : decode b_Me_partedBySides 47 = .ok (.iload_n 3, 1) := by decide +kernel
theorem d_Me_partedBySides_48 : decode b_Me_partedBySides 48 = .ok (.laload, 1) := by decide +kernel
theorem d_Me_partedBySides_49 : decode b_Me_partedBySides 49 = .ok (.lsub, 1) := by decide +kernel
theorem d_Me_partedBySides_50 : decode b_Me_partedBySides 50 = .ok (.lstore 5, 2) := by decide +kernel
theorem d_Me_partedBySides_52 : decode b_Me_partedBySides 52 = .ok (.aload_n 0, 1) := by decide +kernel
theorem d_Me_partedBySides_53 : decode b_Me_partedBySides 53 = .ok (.getfield 85, 3) := by decide +kernel
theorem d_Me_partedBySides_56 : decode b_Me_partedBySides 56 = .ok (.iload 4, 2) := by decide +kernel
theorem d_Me_partedBySides_58 : decode b_Me_partedBySides 58 = .ok (.laload, 1) := by decide +kernel
theorem d_Me_partedBySides_59 : decode b_Me_partedBySides 59 = .ok (.aload_n 0, 1) := by decide +kernel
theorem d_Me_partedBySides_60 : decode b_Me_partedBySides 60 = .ok (.getfield 85, 3) := by decide +kernel
theorem d_Me_partedBySides_63 : decode b_Me_partedBySides 63 = .ok (.iload_n 3, 1) := by decide +kernel
theorem d_Me_partedBySides_64 : decode b_Me_partedBySides 64 = .ok (.laload, 1) := by decide +kernel
theorem d_Me_partedBySides_65 : decode b_Me_partedBySides 65 = .ok (.lsub, 1) := by decide +kernel
theorem d_Me_partedBySides_66 : decode b_Me_partedBySides 66 = .ok (.lstore 7, 2) := by decide +kernel
theorem d_Me_partedBySides_68 : decode b_Me_partedBySides 68 = .ok (.iconst 1, 1) := by decide +kernel
theorem d_Me_partedBySides_69 : decode b_Me_partedBySides 69 = .ok (.istore 9, 2) := by decide +kernel
theorem d_Me_partedBySides_71 : decode b_Me_partedBySides 71 = .ok (.iconst 0, 1) := by decide +kernel
theorem d_Me_partedBySides_72 : decode b_Me_partedBySides 72 = .ok (.istore 10, 2) := by decide +kernel
theorem d_Me_partedBySides_74 : decode b_Me_partedBySides 74 = .ok (.iload 10, 2) := by decide +kernel
theorem d_Me_partedBySides_76 : decode b_Me_partedBySides 76 = .ok (.aload_n 1, 1) := by decide +kernel
theorem d_Me_partedBySides_77 : decode b_Me_partedBySides 77 = .ok (.getfield 78, 3) := by decide +kernel
theorem d_Me_partedBySides_80 : decode b_Me_partedBySides 80 = .ok (.if_icmp .ge 64, 3) := by decide +kernel
theorem d_Me_partedBySides_83 : decode b_Me_partedBySides 83 = .ok (.iload 9, 2) := by decide +kernel
theorem d_Me_partedBySides_85 : decode b_Me_partedBySides 85 = .ok (.iconst (-1), 1) := by decide +kernel
theorem d_Me_partedBySides_86 : decode b_Me_partedBySides 86 = .ok (.if_icmp .eq 58, 3) := by decide +kernel
theorem d_Me_partedBySides_89 : decode b_Me_partedBySides 89 = .ok (.lload 7, 2) := by decide +kernel
theorem d_Me_partedBySides_91 : decode b_Me_partedBySides 91 = .ok (.aload_n 1, 1) := by decide +kernel
theorem d_Me_partedBySides_92 : decode b_Me_partedBySides 92 = .ok (.getfield 81, 3) := by decide +kernel
theorem d_Me_partedBySides_95 : decode b_Me_partedBySides 95 = .ok (.iload 10, 2) := by decide +kernel
theorem d_Me_partedBySides_97 : decode b_Me_partedBySides 97 = .ok (.laload, 1) := by decide +kernel
theorem d_Me_partedBySides_98 : decode b_Me_partedBySides 98 = .ok (.aload_n 0, 1) := by decide +kernel
theorem d_Me_partedBySides_99 : decode b_Me_partedBySides 99 = .ok (.getfield 81, 3) := by decide +kernel
theorem d_Me_partedBySides_102 : decode b_Me_partedBySides 102 = .ok (.iload_n 3, 1) := by decide +kernel
theorem d_Me_partedBySides_103 : decode b_Me_partedBySides 103 = .ok (.laload, 1) := by decide +kernel
theorem d_Me_partedBySides_104 : decode b_Me_partedBySides 104 = .ok (.lsub, 1) := by decide +kernel
theorem d_Me_partedBySides_105 : decode b_Me_partedBySides 105 = .ok (.lmul, 1) := by decide +kernel
theorem d_Me_partedBySides_106 : decode b_Me_partedBySides 106 = .ok (.lload 5, 2) := by decide +kernel
theorem d_Me_partedBySides_108 : decode b_Me_partedBySides 108 = .ok (.aload_n 1, 1) := by decide +kernel
theorem d_Me_partedBySides_109 : decode b_Me_partedBySides 109 = .ok (.getfield 85, 3) := by decide +kernel
theorem d_Me_partedBySides_112 : decode b_Me_partedBySides 112 = .ok (.iload 10, 2) := by decide +kernel
theorem d_Me_partedBySides_114 : decode b_Me_partedBySides 114 = .ok (.laload, 1) := by decide +kernel
theorem d_Me_partedBySides_115 : decode b_Me_partedBySides 115 = .ok (.aload_n 0, 1) := by decide +kernel
theorem d_Me_partedBySides_116 : decode b_Me_partedBySides 116 = .ok (.getfield 85, 3) := by decide +kernel
theorem d_Me_partedBySides_119 : decode b_Me_partedBySides 119 = .ok (.iload_n 3, 1) := by decide +kernel
theorem d_Me_partedBySides_120 : decode b_Me_partedBySides 120 = .ok (.laload, 1) := by decide +kernel
theorem d_Me_partedBySides_121 : decode b_Me_partedBySides 121 = .ok (.lsub, 1) := by decide +kernel
theorem d_Me_partedBySides_122 : decode b_Me_partedBySides 122 = .ok (.lmul, 1) := by decide +kernel
theorem d_Me_partedBySides_123 : decode b_Me_partedBySides 123 = .ok (.lsub, 1) := by decide +kernel
theorem d_Me_partedBySides_124 : decode b_Me_partedBySides 124 = .ok (.lstore 11, 2) := by decide +kernel
theorem d_Me_partedBySides_126 : decode b_Me_partedBySides 126 = .ok (.iload 9, 2) := by decide +kernel
theorem d_Me_partedBySides_128 : decode b_Me_partedBySides 128 = .ok (.lload 11, 2) := by decide +kernel
theorem d_Me_partedBySides_130 : decode b_Me_partedBySides 130 = .ok (.invokestatic 50, 3) := by decide +kernel
theorem d_Me_partedBySides_133 : decode b_Me_partedBySides 133 = .ok (.invokestatic 88, 3) := by decide +kernel
theorem d_Me_partedBySides_136 : decode b_Me_partedBySides 136 = .ok (.istore 9, 2) := by decide +kernel
theorem d_Me_partedBySides_138 : decode b_Me_partedBySides 138 = .ok (.iinc 10 1, 3) := by decide +kernel
theorem d_Me_partedBySides_141 : decode b_Me_partedBySides 141 = .ok (.goto (-67), 3) := by decide +kernel
theorem d_Me_partedBySides_144 : decode b_Me_partedBySides 144 = .ok (.iload_n 2, 1) := by decide +kernel
theorem d_Me_partedBySides_145 : decode b_Me_partedBySides 145 = .ok (.iload 9, 2) := by decide +kernel
theorem d_Me_partedBySides_147 : decode b_Me_partedBySides 147 = .ok (.invokestatic 54, 3) := by decide +kernel
theorem d_Me_partedBySides_150 : decode b_Me_partedBySides 150 = .ok (.istore_n 2, 1) := by decide +kernel
theorem d_Me_partedBySides_151 : decode b_Me_partedBySides 151 = .ok (.iinc 3 1, 3) := by decide +kernel
theorem d_Me_partedBySides_154 : decode b_Me_partedBySides 154 = .ok (.goto (-150), 3) := by decide +kernel
theorem d_Me_partedBySides_157 : decode b_Me_partedBySides 157 = .ok (.iload_n 2, 1) := by decide +kernel
theorem d_Me_partedBySides_158 : decode b_Me_partedBySides 158 = .ok (.ireturn, 1) := by decide +kernel
abbrev rm_Me_partedBySides : Room := { frames := 1, cells := 0, slots := 0, locals := 21 }
theorem ce_Me_partedBySides : gCe y_Me_partedBySides (.code y_Me_partedBySides b_Me_partedBySides 13 (some .int)) 13 2 true := gCe.code wd_388 wd_69 wd_387 (by decide) (by decide +kernel)
def f_Me_partedBySides_L74 (g0 : gG) (c0 : Nat) (c1 : Nat) (c2 : Int32) (c3 : Int32) (c5 : Int64) (c7 : Int64) (K144 : Int32 → gW → gX Int32) : Nat → Int32 → Int32 → gW → gX Int32
  | 0, _, _, _ => none
  | n + 1, z9, z10, w => (gfI w c1 3 5).bind fun v29 => if v29 ≤ z10 then (K144 z9 w) else (if z9 = (-1) then (K144 z9 w) else ((gfA w c1 3 3).bind fun v33 => (gaJ w v33 z10).bind fun v35 => (gfA w c0 3 3).bind fun v37 => (gaJ w v37 c3).bind fun v39 => (gfA w c1 3 4).bind fun v41 => (gaJ w v41 z10).bind fun v43 => (gfA w c0 3 4).bind fun v45 => (gaJ w v45 c3).bind fun v47 => gbind (f_Me_sign g0 ((c7 * (v35 - v39)) - (c5 * (v43 - v47))) w) fun v51 w => gbind (f_Ma_min g0 z9 v51 w) fun v54 w => f_Me_partedBySides_L74 g0 c0 c1 c2 c3 c5 c7 K144 n v54 (z10 + 1) w))
def f_Me_partedBySides_L4 (g0 : gG) (c0 : Nat) (c1 : Nat) (K157 : Int32 → gW → gX Int32) : Nat → Int32 → Int32 → gW → gX Int32
  | 0, _, _, _ => none
  | n + 1, z2, z3, w => (gfI w c0 3 5).bind fun v2 => if v2 ≤ z3 then (K157 z2 w) else (if z2 = 1 then (K157 z2 w) else ((gfI w c0 3 5).bind fun v6 => gjoin (fun K34 => if v6 ≤ (z3 + 1) then (K34 0 w) else (K34 (z3 + 1) w)) (fun (y8 : Int32) (w : gW) => (gfA w c0 3 3).bind fun v9 => (gaJ w v9 y8).bind fun v11 => (gfA w c0 3 3).bind fun v13 => (gaJ w v13 z3).bind fun v15 => (gfA w c0 3 4).bind fun v17 => (gaJ w v17 y8).bind fun v19 => (gfA w c0 3 4).bind fun v21 => (gaJ w v21 z3).bind fun v23 => gjoin (fun K144 => f_Me_partedBySides_L74 g0 c0 c1 z2 z3 (v11 - v15) (v19 - v23) K144 64 1 0 w) (fun (x25 : Int32) (w : gW) => gbind (f_Ma_max g0 z2 x25 w) fun v28 w => f_Me_partedBySides_L4 g0 c0 c1 K157 n v28 (z3 + 1) w))))
def f_Me_partedBySides (g0 : gG) (a0 : Nat) (a1 : Nat) (w : gW) : gX Int32 := gjoin (fun K157 => f_Me_partedBySides_L4 g0 a0 a1 K157 64 (-1) 0 w) (fun (x1 : Int32) (w : gW) => some (.inr x1, w))
set_option maxHeartbeats 4000000 in
set_option maxRecDepth 100000 in
theorem m_Me_partedBySides (l : Launch) (hst : l.stackTraces = false) (D : gD) (g0 : gG) (a0 : Nat) (a1 : Nat) (w : gW) (r : (String ⊕ Int32) × gW) (h : f_Me_partedBySides g0 a0 a1 w = some r) : gMet l y_Me_partedBySides (.code y_Me_partedBySides b_Me_partedBySides 13 (some .int)) rm_Me_partedBySides D g0 [.ref a0, .ref a1] w (goI r) := by
  refine gw_ofI (by decide +kernel) (Nat.le_of_ble_eq_true rfl) ?_
  intro p e s m below meth c ls args A Q hx hb hml hown hlocks hin hnt hT hK hZ hA hret hexc hthr hI hl
  obtain ⟨H, hH⟩ : ∃ H, H = s.heap := ⟨_, rfl⟩
  rw [← hH] at hI ⊢
  obtain ⟨locs, hlocs⟩ : ∃ z : List Loc, z = [] := ⟨_, rfl⟩
  rw [← hlocs] at hI ⊢
  have hl : lv_has ls 13 [(0, .ref a0), (1, .ref a1)] := hl
  unfold f_Me_partedBySides at h
  refine lv_iconst (v := -1) hx hb d_Me_partedBySides_0 (by decide) ?_
  refine lv_istore_n (lv' := [(2, .int (-1)), (0, .ref a0), (1, .ref a1)]) hx hb d_Me_partedBySides_1 rfl hl (by decide) rfl (fun ls hl => ?_)
  refine lv_iconst (v := 0) hx hb d_Me_partedBySides_2 (by decide) ?_
  refine lv_istore_n (lv' := [(3, .int 0), (2, .int (-1)), (0, .ref a0), (1, .ref a1)]) hx hb d_Me_partedBySides_3 rfl hl (by decide) rfl (fun ls hl => ?_)
  obtain ⟨K157, eK157, h⟩ := gj h
  have hK157 : ∀ (x1 : Int32) (w : gW) (H : Heap) (locs : List Loc) (ls : Array Slot), K157 x1 w = some r → gI D s A w H locs → lv_has ls 13 [(2, .int x1)] → W p l e rm_Me_partedBySides s m args below meth c H locs 0 0 Q (F0 m 157 ls []) := by
    intro x1 w H locs ls h hI hl
    have h := gk2 eK157 h
    refine lv_iload_n hx hb d_Me_partedBySides_157 rfl (lv_at hl 0 rfl) ?_
    exact W.widen (show 0 ≤ 0 by omega) (show 0 ≤ 0 by omega) (hret _ _ (Option.some.inj h).symm _ _ _ _ d_Me_partedBySides_158 hI)
  have hL4 : ∀ (n : Nat), ∀ (z2 : Int32) (z3 : Int32) (w : gW) (H : Heap) (locs : List Loc) (ls : Array Slot), f_Me_partedBySides_L4 g0 a0 a1 K157 n z2 z3 w = some r → gI D s A w H locs → lv_has ls 13 [(0, .ref a0), (1, .ref a1), (2, .int z2), (3, .int z3)] → W p l e rm_Me_partedBySides s m args below meth c H locs 0 0 Q (F0 m 4 ls []) := by
    intro n
    induction n with
    | zero => intro z2 z3 w H locs ls h hI hl; exact absurd h (by simp [f_Me_partedBySides_L4])
    | succ n ih =>
      intro z2 z3 w H locs ls h hI hl
      rw [f_Me_partedBySides_L4] at h
      refine lv_iload_n hx hb d_Me_partedBySides_4 rfl (lv_at hl 3 rfl) ?_
      refine lv_aload_n hx hb d_Me_partedBySides_5 rfl (lv_at hl 0 rfl) ?_
      obtain ⟨v4, e5, h⟩ := gb h
      refine gw_getI hx hb hT hown hK hI (ci := 3) rfl i_3 5 (by decide) wd_140 (fun _ h9 => h9) e5 d_Me_partedBySides_6 ?_
      refine lv_icmp_ge (tgt := 157) hx hb d_Me_partedBySides_9 (by decide) (fun c6 => ?_) (fun c6 => ?_)
      · skip
        have h := git c6 h
        exact hK157 _ w H locs ls h hI (lv_sub hl [2] rfl)
      · skip
        have h := gie c6 h
        refine lv_iload_n hx hb d_Me_partedBySides_12 rfl (lv_at hl 2 rfl) ?_
        refine lv_iconst (v := 1) hx hb d_Me_partedBySides_13 (by decide) ?_
        refine lv_icmp_eq (tgt := 157) hx hb d_Me_partedBySides_14 (by decide) (fun c7 => ?_) (fun c7 => ?_)
        · skip
          have h := git c7 h
          exact hK157 _ w H locs ls h hI (lv_sub hl [2] rfl)
        · skip
          have h := gie c7 h
          refine lv_iload_n hx hb d_Me_partedBySides_17 rfl (lv_at hl 3 rfl) ?_
          refine lv_iconst (v := 1) hx hb d_Me_partedBySides_18 (by decide) ?_
          refine lv_iadd hx hb d_Me_partedBySides_19 ?_
          refine lv_aload_n hx hb d_Me_partedBySides_20 rfl (lv_at hl 0 rfl) ?_
          obtain ⟨v8, e9, h⟩ := gb h
          refine gw_getI hx hb hT hown hK hI (ci := 3) rfl i_3 5 (by decide) wd_140 (fun _ h9 => h9) e9 d_Me_partedBySides_21 ?_
          obtain ⟨K34, eK34, h⟩ := gj h
          have hK34 : ∀ (y10 : Int32) (w : gW) (H : Heap) (locs : List Loc) (ls : Array Slot), K34 y10 w = some r → gI D s A w H locs → lv_has ls 13 [(0, .ref a0), (1, .ref a1), (2, .int z2), (3, .int z3)] → W p l e rm_Me_partedBySides s m args below meth c H locs 0 0 Q (F0 m 34 ls [.int y10]) := by
            intro y10 w H locs ls h hI hl
            have h := gk2 eK34 h
            refine lv_istore (lv' := [(4, .int y10), (0, .ref a0), (1, .ref a1), (2, .int z2), (3, .int z3)]) hx hb d_Me_partedBySides_34 hl (by decide) rfl (fun ls hl => ?_)
            refine lv_aload_n hx hb d_Me_partedBySides_36 rfl (lv_at hl 1 rfl) ?_
            obtain ⟨v11, e12, h⟩ := gb h
            refine gw_getA hx hb hT hown hK hI (ci := 3) rfl i_3 3 (by decide) wd_136 (fun _ h9 => h9) e12 d_Me_partedBySides_37 ?_
            refine lv_iload hx hb d_Me_partedBySides_40 (lv_at hl 0 rfl) ?_
            obtain ⟨v13, e14, h⟩ := gb h
            refine gw_aldJ hx hb hK hI e14 d_Me_partedBySides_42 ?_
            refine lv_aload_n hx hb d_Me_partedBySides_43 rfl (lv_at hl 1 rfl) ?_
            obtain ⟨v15, e16, h⟩ := gb h
            refine gw_getA hx hb hT hown hK hI (ci := 3) rfl i_3 3 (by decide) wd_136 (fun _ h9 => h9) e16 d_Me_partedBySides_44 ?_
            refine lv_iload_n hx hb d_Me_partedBySides_47 rfl (lv_at hl 4 rfl) ?_
            obtain ⟨v17, e18, h⟩ := gb h
            refine gw_aldJ hx hb hK hI e18 d_Me_partedBySides_48 ?_
            refine lv_lsub hx hb d_Me_partedBySides_49 ?_
            refine lv_lstore (lv' := [(5, .long (v13 - v17)), (4, .int y10), (0, .ref a0), (1, .ref a1), (2, .int z2), (3, .int z3)]) hx hb d_Me_partedBySides_50 hl (by decide) rfl (fun ls hl => ?_)
            refine lv_aload_n hx hb d_Me_partedBySides_52 rfl (lv_at hl 2 rfl) ?_
            obtain ⟨v19, e20, h⟩ := gb h
            refine gw_getA hx hb hT hown hK hI (ci := 3) rfl i_3 4 (by decide) wd_138 (fun _ h9 => h9) e20 d_Me_partedBySides_53 ?_
            refine lv_iload hx hb d_Me_partedBySides_56 (lv_at hl 1 rfl) ?_
            obtain ⟨v21, e22, h⟩ := gb h
            refine gw_aldJ hx hb hK hI e22 d_Me_partedBySides_58 ?_
            refine lv_aload_n hx hb d_Me_partedBySides_59 rfl (lv_at hl 2 rfl) ?_
            obtain ⟨v23, e24, h⟩ := gb h
            refine gw_getA hx hb hT hown hK hI (ci := 3) rfl i_3 4 (by decide) wd_138 (fun _ h9 => h9) e24 d_Me_partedBySides_60 ?_
            refine lv_iload_n hx hb d_Me_partedBySides_63 rfl (lv_at hl 5 rfl) ?_
            obtain ⟨v25, e26, h⟩ := gb h
            refine gw_aldJ hx hb hK hI e26 d_Me_partedBySides_64 ?_
            refine lv_lsub hx hb d_Me_partedBySides_65 ?_
            refine lv_lstore (lv' := [(7, .long (v21 - v25)), (5, .long (v13 - v17)), (4, .int y10), (0, .ref a0), (1, .ref a1), (2, .int z2), (3, .int z3)]) hx hb d_Me_partedBySides_66 hl (by decide) rfl (fun ls hl => ?_)
            refine lv_iconst (v := 1) hx hb d_Me_partedBySides_68 (by decide) ?_
            refine lv_istore (lv' := [(9, .int 1), (7, .long (v21 - v25)), (5, .long (v13 - v17)), (4, .int y10), (0, .ref a0), (1, .ref a1), (2, .int z2), (3, .int z3)]) hx hb d_Me_partedBySides_69 hl (by decide) rfl (fun ls hl => ?_)
            refine lv_iconst (v := 0) hx hb d_Me_partedBySides_71 (by decide) ?_
            refine lv_istore (lv' := [(10, .int 0), (9, .int 1), (7, .long (v21 - v25)), (5, .long (v13 - v17)), (4, .int y10), (0, .ref a0), (1, .ref a1), (2, .int z2), (3, .int z3)]) hx hb d_Me_partedBySides_72 hl (by decide) rfl (fun ls hl => ?_)
            obtain ⟨K144, eK144, h⟩ := gj h
            have hK144 : ∀ (x27 : Int32) (w : gW) (H : Heap) (locs : List Loc) (ls : Array Slot), K144 x27 w = some r → gI D s A w H locs → lv_has ls 13 [(0, .ref a0), (1, .ref a1), (2, .int z2), (3, .int z3), (9, .int x27)] → W p l e rm_Me_partedBySides s m args below meth c H locs 0 0 Q (F0 m 144 ls []) := by
              intro x27 w H locs ls h hI hl
              have h := gk2 eK144 h
              refine lv_iload_n hx hb d_Me_partedBySides_144 rfl (lv_at hl 2 rfl) ?_
              refine lv_iload hx hb d_Me_partedBySides_145 (lv_at hl 4 rfl) ?_
              obtain ⟨u28, e29⟩ := gsome h
              refine gw_callI e29 h (gw_runS (As := [.int z2, .int x27]) (rest := []) hx hb hml hown hT hK hZ hA hI (m_Ma_max l hst D g0 z2 x27 w u28 e29) ce_Ma_max wd_390 ⟨by decide, by decide⟩ rfl rfl hl.1 rfl (lv_room (Nat.le_of_ble_eq_true rfl)) d_Me_partedBySides_147 ⟨(show 0 + 0 ≤ 0 by omega), (show 0 + 0 ≤ 0 by omega)⟩) hI hA hexc (show 0 + 0 ≤ 0 by omega) (show 0 + 0 ≤ 0 by omega) (fun v30 w H locs h hI => ?_)
              refine lv_istore_n (lv' := [(2, .int v30), (0, .ref a0), (1, .ref a1), (3, .int z3), (9, .int x27)]) hx hb d_Me_partedBySides_150 rfl hl (by decide) rfl (fun ls hl => ?_)
              refine lv_iinc (v := z3 + 1) (lv' := [(3, .int (z3 + 1)), (2, .int v30), (0, .ref a0), (1, .ref a1), (9, .int x27)]) hx hb d_Me_partedBySides_151 hl (k := 3) rfl rfl (by decide) rfl (fun ls hl => ?_)
              refine lv_goto (tgt := 4) hx hb d_Me_partedBySides_154 (by decide) ?_
              exact ih _ _ w H locs ls h hI (lv_sub hl [2, 3, 1, 0] rfl)
            have hL74 : ∀ (n : Nat), ∀ (z31 : Int32) (z32 : Int32) (w : gW) (H : Heap) (locs : List Loc) (ls : Array Slot), f_Me_partedBySides_L74 g0 a0 a1 z2 z3 (v13 - v17) (v21 - v25) K144 n z31 z32 w = some r → gI D s A w H locs → lv_has ls 13 [(0, .ref a0), (1, .ref a1), (2, .int z2), (3, .int z3), (5, .long (v13 - v17)), (7, .long (v21 - v25)), (9, .int z31), (10, .int z32)] → W p l e rm_Me_partedBySides s m args below meth c H locs 0 0 Q (F0 m 74 ls []) := by
              intro n
              induction n with
              | zero => intro z31 z32 w H locs ls h hI hl; exact absurd h (by simp [f_Me_partedBySides_L74])
              | succ n ih =>
                intro z31 z32 w H locs ls h hI hl
                rw [f_Me_partedBySides_L74] at h
                refine lv_iload hx hb d_Me_partedBySides_74 (lv_at hl 7 rfl) ?_
                refine lv_aload_n hx hb d_Me_partedBySides_76 rfl (lv_at hl 1 rfl) ?_
                obtain ⟨v33, e34, h⟩ := gb h
                refine gw_getI hx hb hT hown hK hI (ci := 3) rfl i_3 5 (by decide) wd_140 (fun _ h9 => h9) e34 d_Me_partedBySides_77 ?_
                refine lv_icmp_ge (tgt := 144) hx hb d_Me_partedBySides_80 (by decide) (fun c35 => ?_) (fun c35 => ?_)
                · skip
                  have h := git c35 h
                  exact hK144 _ w H locs ls h hI (lv_sub hl [0, 1, 2, 3, 6] rfl)
                · skip
                  have h := gie c35 h
                  refine lv_iload hx hb d_Me_partedBySides_83 (lv_at hl 6 rfl) ?_
                  refine lv_iconst (v := -1) hx hb d_Me_partedBySides_85 (by decide) ?_
                  refine lv_icmp_eq (tgt := 144) hx hb d_Me_partedBySides_86 (by decide) (fun c36 => ?_) (fun c36 => ?_)
                  · skip
                    have h := git c36 h
                    exact hK144 _ w H locs ls h hI (lv_sub hl [0, 1, 2, 3, 6] rfl)
                  · skip
                    have h := gie c36 h
                    refine lv_lload hx hb d_Me_partedBySides_89 (lv_at hl 5 rfl) ?_
                    refine lv_aload_n hx hb d_Me_partedBySides_91 rfl (lv_at hl 1 rfl) ?_
                    obtain ⟨v37, e38, h⟩ := gb h
                    refine gw_getA hx hb hT hown hK hI (ci := 3) rfl i_3 3 (by decide) wd_136 (fun _ h9 => h9) e38 d_Me_partedBySides_92 ?_
                    refine lv_iload hx hb d_Me_partedBySides_95 (lv_at hl 7 rfl) ?_
                    obtain ⟨v39, e40, h⟩ := gb h
                    refine gw_aldJ hx hb hK hI e40 d_Me_partedBySides_97 ?_
                    refine lv_aload_n hx hb d_Me_partedBySides_98 rfl (lv_at hl 0 rfl) ?_
                    obtain ⟨v41, e42, h⟩ := gb h
                    refine gw_getA hx hb hT hown hK hI (ci := 3) rfl i_3 3 (by decide) wd_136 (fun _ h9 => h9) e42 d_Me_partedBySides_99 ?_
                    refine lv_iload_n hx hb d_Me_partedBySides_102 rfl (lv_at hl 3 rfl) ?_
                    obtain ⟨v43, e44, h⟩ := gb h
                    refine gw_aldJ hx hb hK hI e44 d_Me_partedBySides_103 ?_
                    refine lv_lsub hx hb d_Me_partedBySides_104 ?_
                    refine lv_lmul hx hb d_Me_partedBySides_105 ?_
                    refine lv_lload hx hb d_Me_partedBySides_106 (lv_at hl 4 rfl) ?_
                    refine lv_aload_n hx hb d_Me_partedBySides_108 rfl (lv_at hl 1 rfl) ?_
                    obtain ⟨v45, e46, h⟩ := gb h
                    refine gw_getA hx hb hT hown hK hI (ci := 3) rfl i_3 4 (by decide) wd_138 (fun _ h9 => h9) e46 d_Me_partedBySides_109 ?_
                    refine lv_iload hx hb d_Me_partedBySides_112 (lv_at hl 7 rfl) ?_
                    obtain ⟨v47, e48, h⟩ := gb h
                    refine gw_aldJ hx hb hK hI e48 d_Me_partedBySides_114 ?_
                    refine lv_aload_n hx hb d_Me_partedBySides_115 rfl (lv_at hl 0 rfl) ?_
                    obtain ⟨v49, e50, h⟩ := gb h
                    refine gw_getA hx hb hT hown hK hI (ci := 3) rfl i_3 4 (by decide) wd_138 (fun _ h9 => h9) e50 d_Me_partedBySides_116 ?_
                    refine lv_iload_n hx hb d_Me_partedBySides_119 rfl (lv_at hl 3 rfl) ?_
                    obtain ⟨v51, e52, h⟩ := gb h
                    refine gw_aldJ hx hb hK hI e52 d_Me_partedBySides_120 ?_
                    refine lv_lsub hx hb d_Me_partedBySides_121 ?_
                    refine lv_lmul hx hb d_Me_partedBySides_122 ?_
                    refine lv_lsub hx hb d_Me_partedBySides_123 ?_
                    refine lv_lstore (lv' := [(11, .long (((v21 - v25) * (v39 - v43)) - ((v13 - v17) * (v47 - v51)))), (0, .ref a0), (1, .ref a1), (2, .int z2), (3, .int z3), (5, .long (v13 - v17)), (7, .long (v21 - v25)), (9, .int z31), (10, .int z32)]) hx hb d_Me_partedBySides_124 hl (by decide) rfl (fun ls hl => ?_)
                    refine lv_iload hx hb d_Me_partedBySides_126 (lv_at hl 7 rfl) ?_
                    refine lv_lload hx hb d_Me_partedBySides_128 (lv_at hl 0 rfl) ?_
                    obtain ⟨u53, e54⟩ := gsome h
                    refine gw_callI e54 h (gw_runS (As := [.long (((v21 - v25) * (v39 - v43)) - ((v13 - v17) * (v47 - v51)))]) (rest := [.int z31]) hx hb hml hown hT hK hZ hA hI (m_Me_sign l hst D g0 (((v21 - v25) * (v39 - v43)) - ((v13 - v17) * (v47 - v51))) w u53 e54) ce_Me_sign wd_383 ⟨by decide, by decide⟩ rfl rfl hl.1 rfl (lv_room (Nat.le_of_ble_eq_true rfl)) d_Me_partedBySides_130 ⟨(show 0 + 0 ≤ 0 by omega), (show 0 + 0 ≤ 0 by omega)⟩) hI hA hexc (show 0 + 0 ≤ 0 by omega) (show 0 + 0 ≤ 0 by omega) (fun v55 w H locs h hI => ?_)
                    obtain ⟨u56, e57⟩ := gsome h
                    refine gw_callI e57 h (gw_runS (As := [.int z31, .int v55]) (rest := []) hx hb hml hown hT hK hZ hA hI (m_Ma_min l hst D g0 z31 v55 w u56 e57) ce_Ma_min wd_389 ⟨by decide, by decide⟩ rfl rfl hl.1 rfl (lv_room (Nat.le_of_ble_eq_true rfl)) d_Me_partedBySides_133 ⟨(show 0 + 0 ≤ 0 by omega), (show 0 + 0 ≤ 0 by omega)⟩) hI hA hexc (show 0 + 0 ≤ 0 by omega) (show 0 + 0 ≤ 0 by omega) (fun v58 w H locs h hI => ?_)
                    refine lv_istore (lv' := [(9, .int v58), (11, .long (((v21 - v25) * (v39 - v43)) - ((v13 - v17) * (v47 - v51)))), (0, .ref a0), (1, .ref a1), (2, .int z2), (3, .int z3), (5, .long (v13 - v17)), (7, .long (v21 - v25)), (10, .int z32)]) hx hb d_Me_partedBySides_136 hl (by decide) rfl (fun ls hl => ?_)
                    refine lv_iinc (v := z32 + 1) (lv' := [(10, .int (z32 + 1)), (9, .int v58), (11, .long (((v21 - v25) * (v39 - v43)) - ((v13 - v17) * (v47 - v51)))), (0, .ref a0), (1, .ref a1), (2, .int z2), (3, .int z3), (5, .long (v13 - v17)), (7, .long (v21 - v25))]) hx hb d_Me_partedBySides_138 hl (k := 8) rfl rfl (by decide) rfl (fun ls hl => ?_)
                    refine lv_goto (tgt := 74) hx hb d_Me_partedBySides_141 (by decide) ?_
                    exact ih _ _ w H locs ls h hI (lv_sub hl [3, 4, 5, 6, 7, 8, 1, 0] rfl)
            exact hL74 64 _ _ w H locs ls h hI (lv_sub hl [5, 6, 7, 8, 3, 2, 1, 0] rfl)
          refine lv_icmp_ge (tgt := 33) hx hb d_Me_partedBySides_24 (by decide) (fun c59 => ?_) (fun c59 => ?_)
          · skip
            have h := git c59 h
            refine lv_iconst (v := 0) hx hb d_Me_partedBySides_33 (by decide) ?_
            exact hK34 _ w H locs ls h hI (lv_sub hl [0, 1, 2, 3] rfl)
          · skip
            have h := gie c59 h
            refine lv_iload_n hx hb d_Me_partedBySides_27 rfl (lv_at hl 3 rfl) ?_
            refine lv_iconst (v := 1) hx hb d_Me_partedBySides_28 (by decide) ?_
            refine lv_iadd hx hb d_Me_partedBySides_29 ?_
            refine lv_goto (tgt := 34) hx hb d_Me_partedBySides_30 (by decide) ?_
            exact hK34 _ w H locs ls h hI (lv_sub hl [0, 1, 2, 3] rfl)
  exact hL4 64 _ _ w H locs ls h hI (lv_sub hl [2, 3, 1, 0] rfl)

abbrev b_Me_outlines : ByteArray := prog_5_method_6_code
def y_Me_outlines : MethodName := ⟨"BodySolids$Meeting", "outlines", "(LBodySolids$Solid;LBodySolids$Solid;)I"⟩
theorem d_Me_outlines_0 : decode b_Me_outlines 0 = .ok (.aload_n 0, 1) := by decide +kernel
theorem d_Me_outlines_1 : decode b_Me_outlines 1 = .ok (.getfield 18, 3) := by decide +kernel
theorem d_Me_outlines_4 : decode b_Me_outlines 4 = .ok (.aload_n 0, 1) := by decide +kernel
theorem d_Me_outlines_5 : decode b_Me_outlines 5 = .ok (.getfield 21, 3) := by decide +kernel
theorem d_Me_outlines_8 : decode b_Me_outlines 8 = .ok (.aload_n 1, 1) := by decide +kernel
theorem d_Me_outlines_9 : decode b_Me_outlines 9 = .ok (.getfield 18, 3) := by decide +kernel
theorem d_Me_outlines_12 : decode b_Me_outlines 12 = .ok (.aload_n 1, 1) := by decide +kernel
theorem d_Me_outlines_13 : decode b_Me_outlines 13 = .ok (.getfield 21, 3) := by decide +kernel
theorem d_Me_outlines_16 : decode b_Me_outlines 16 = .ok (.invokestatic 24, 3) := by decide +kernel
theorem d_Me_outlines_19 : decode b_Me_outlines 19 = .ok (.lstore_n 2, 1) := by decide +kernel
theorem d_Me_outlines_20 : decode b_Me_outlines 20 = .ok (.aload_n 0, 1) := by decide +kernel
theorem d_Me_outlines_21 : decode b_Me_outlines 21 = .ok (.getfield 30, 3) := by decide +kernel
theorem d_Me_outlines_24 : decode b_Me_outlines 24 = .ok (.aload_n 0, 1) := by decide +kernel
theorem d_Me_outlines_25 : decode b_Me_outlines 25 = .ok (.getfield 33, 3) := by decide +kernel
theorem d_Me_outlines_28 : decode b_Me_outlines 28 = .ok (.aload_n 1, 1) := by decide +kernel
theorem d_Me_outlines_29 : decode b_Me_outlines 29 = .ok (.getfield 30, 3) := by decide +kernel
theorem d_Me_outlines_32 : decode b_Me_outlines 32 = .ok (.aload_n 1, 1) := by decide +kernel
theorem d_Me_outlines_33 : decode b_Me_outlines 33 = .ok (.getfield 33, 3) := by decide +kernel
theorem d_Me_outlines_36 : decode b_Me_outlines 36 = .ok (.invokestatic 24, 3) := by decide +kernel
theorem d_Me_outlines_39 : decode b_Me_outlines 39 = .ok (.lstore 4, 2) := by decide +kernel
theorem d_Me_outlines_41 : decode b_Me_outlines 41 = .ok (.lload_n 2, 1) := by decide +kernel
theorem d_Me_outlines_42 : decode b_Me_outlines 42 = .ok (.lload 4, 2) := by decide +kernel
theorem d_Me_outlines_44 : decode b_Me_outlines 44 = .ok (.invokestatic 68, 3) := by decide +kernel
theorem d_Me_outlines_47 : decode b_Me_outlines 47 = .ok (.invokestatic 50, 3) := by decide +kernel
theorem d_Me_outlines_50 : decode b_Me_outlines 50 = .ok (.istore 6, 2) := by decide +kernel
theorem d_Me_outlines_52 : decode b_Me_outlines 52 = .ok (.aload_n 0, 1) := by decide +kernel
theorem d_Me_outlines_53 : decode b_Me_outlines 53 = .ok (.getfield 71, 3) := by decide +kernel
theorem d_Me_outlines_56 : decode b_Me_outlines 56 = .ok (.iconst 2, 1) := by decide +kernel
theorem d_Me_outlines_57 : decode b_Me_outlines 57 = .ok (.if_icmp .ne 21, 3) := by decide +kernel
theorem d_Me_outlines_60 : decode b_Me_outlines 60 = .ok (.iload 6, 2) := by decide +kernel
theorem d_Me_outlines_62 : decode b_Me_outlines 62 = .ok (.iconst 1, 1) := by decide +kernel
theorem d_Me_outlines_63 : decode b_Me_outlines 63 = .ok (.if_icmp .eq 15, 3) := by decide +kernel
theorem d_Me_outlines_66 : decode b_Me_outlines 66 = .ok (.iload 6, 2) := by decide +kernel
theorem d_Me_outlines_68 : decode b_Me_outlines 68 = .ok (.aload_n 0, 1) := by decide +kernel
theorem d_Me_outlines_69 : decode b_Me_outlines 69 = .ok (.aload_n 1, 1) := by decide +kernel
theorem d_Me_outlines_70 : decode b_Me_outlines 70 = .ok (.invokestatic 75, 3) := by decide +kernel
theorem d_Me_outlines_73 : decode b_Me_outlines 73 = .ok (.invokestatic 54, 3) := by decide +kernel
theorem d_Me_outlines_76 : decode b_Me_outlines 76 = .ok (.istore 6, 2) := by decide +kernel
theorem d_Me_outlines_78 : decode b_Me_outlines 78 = .ok (.aload_n 1, 1) := by decide +kernel
theorem d_Me_outlines_79 : decode b_Me_outlines 79 = .ok (.getfield 71, 3) := by decide +kernel
theorem d_Me_outlines_82 : decode b_Me_outlines 82 = .ok (.iconst 2, 1) := by decide +kernel
theorem d_Me_outlines_83 : decode b_Me_outlines 83 = .ok (.if_icmp .ne 21, 3) := by decide +kernel
theorem d_Me_outlines_86 : decode b_Me_outlines 86 = .ok (.iload 6, 2) := by decide +kernel
theorem d_Me_outlines_88 : decode b_Me_outlines 88 = .ok (.iconst 1, 1) := by decide +kernel
theorem d_Me_outlines_89 : decode b_Me_outlines 89 = .ok (.if_icmp .eq 15, 3) := by decide +kernel
theorem d_Me_outlines_92 : decode b_Me_outlines 92 = .ok (.iload 6, 2) := by decide +kernel
theorem d_Me_outlines_94 : decode b_Me_outlines 94 = .ok (.aload_n 1, 1) := by decide +kernel
theorem d_Me_outlines_95 : decode b_Me_outlines 95 = .ok (.aload_n 0, 1) := by decide +kernel
theorem d_Me_outlines_96 : decode b_Me_outlines 96 = .ok (.invokestatic 75, 3) := by decide +kernel
theorem d_Me_outlines_99 : decode b_Me_outlines 99 = .ok (.invokestatic 54, 3) := by decide +kernel
theorem d_Me_outlines_102 : decode b_Me_outlines 102 = .ok (.istore 6, 2) := by decide +kernel
theorem d_Me_outlines_104 : decode b_Me_outlines 104 = .ok (.iload 6, 2) := by decide +kernel
theorem d_Me_outlines_106 : decode b_Me_outlines 106 = .ok (.ireturn, 1) := by decide +kernel
abbrev rm_Me_outlines : Room := { frames := 2, cells := 0, slots := 0, locals := 53 }
theorem ce_Me_outlines : gCe y_Me_outlines (.code y_Me_outlines b_Me_outlines 7 (some .int)) 7 2 true := gCe.code wd_382 wd_69 wd_381 (by decide) (by decide +kernel)
def f_Me_outlines (g0 : gG) (a0 : Nat) (a1 : Nat) (w : gW) : gX Int32 := (gfJ w a0 3 6).bind fun v1 => (gfJ w a0 3 9).bind fun v3 => (gfJ w a1 3 6).bind fun v5 => (gfJ w a1 3 9).bind fun v7 => gbind (f_Me_gap g0 v1 v3 v5 v7 w) fun v11 w => (gfJ w a0 3 7).bind fun v12 => (gfJ w a0 3 10).bind fun v14 => (gfJ w a1 3 7).bind fun v16 => (gfJ w a1 3 10).bind fun v18 => gbind (f_Me_gap g0 v12 v14 v16 v18 w) fun v22 w => gbind (f_Ma_max2 g0 v11 v22 w) fun v25 w => gbind (f_Me_sign g0 v25 w) fun v28 w => (gfI w a0 3 0).bind fun v29 => gjoin (fun K78 => if v29 = 2 then (if v28 = 1 then (K78 v28 w) else (gbind (f_Me_partedBySides g0 a0 a1 w) fun v47 w => gbind (f_Ma_max g0 v28 v47 w) fun v50 w => K78 v50 w)) else (K78 v28 w)) (fun (x31 : Int32) (w : gW) => (gfI w a1 3 0).bind fun v32 => gjoin (fun K104 => if v32 = 2 then (if x31 = 1 then (K104 x31 w) else (gbind (f_Me_partedBySides g0 a1 a0 w) fun v39 w => gbind (f_Ma_max g0 x31 v39 w) fun v42 w => K104 v42 w)) else (K104 x31 w)) (fun (x34 : Int32) (w : gW) => some (.inr x34, w)))
set_option maxHeartbeats 4000000 in
set_option maxRecDepth 100000 in
theorem m_Me_outlines (l : Launch) (hst : l.stackTraces = false) (D : gD) (g0 : gG) (a0 : Nat) (a1 : Nat) (w : gW) (r : (String ⊕ Int32) × gW) (h : f_Me_outlines g0 a0 a1 w = some r) : gMet l y_Me_outlines (.code y_Me_outlines b_Me_outlines 7 (some .int)) rm_Me_outlines D g0 [.ref a0, .ref a1] w (goI r) := by
  refine gw_ofI (by decide +kernel) (Nat.le_of_ble_eq_true rfl) ?_
  intro p e s m below meth c ls args A Q hx hb hml hown hlocks hin hnt hT hK hZ hA hret hexc hthr hI hl
  obtain ⟨H, hH⟩ : ∃ H, H = s.heap := ⟨_, rfl⟩
  rw [← hH] at hI ⊢
  obtain ⟨locs, hlocs⟩ : ∃ z : List Loc, z = [] := ⟨_, rfl⟩
  rw [← hlocs] at hI ⊢
  have hl : lv_has ls 7 [(0, .ref a0), (1, .ref a1)] := hl
  unfold f_Me_outlines at h
  refine lv_aload_n hx hb d_Me_outlines_0 rfl (lv_at hl 0 rfl) ?_
  obtain ⟨v1, e2, h⟩ := gb h
  refine gw_getJ hx hb hT hown hK hI (ci := 3) rfl i_3 6 (by decide) wd_141 (fun _ h9 => h9) e2 d_Me_outlines_1 ?_
  refine lv_aload_n hx hb d_Me_outlines_4 rfl (lv_at hl 0 rfl) ?_
  obtain ⟨v3, e4, h⟩ := gb h
  refine gw_getJ hx hb hT hown hK hI (ci := 3) rfl i_3 9 (by decide) wd_147 (fun _ h9 => h9) e4 d_Me_outlines_5 ?_
  refine lv_aload_n hx hb d_Me_outlines_8 rfl (lv_at hl 1 rfl) ?_
  obtain ⟨v5, e6, h⟩ := gb h
  refine gw_getJ hx hb hT hown hK hI (ci := 3) rfl i_3 6 (by decide) wd_141 (fun _ h9 => h9) e6 d_Me_outlines_9 ?_
  refine lv_aload_n hx hb d_Me_outlines_12 rfl (lv_at hl 1 rfl) ?_
  obtain ⟨v7, e8, h⟩ := gb h
  refine gw_getJ hx hb hT hown hK hI (ci := 3) rfl i_3 9 (by decide) wd_147 (fun _ h9 => h9) e8 d_Me_outlines_13 ?_
  obtain ⟨u9, e10⟩ := gsome h
  refine gw_callJ e10 h (gw_runS (As := [.long v1, .long v3, .long v5, .long v7]) (rest := []) hx hb hml hown hT hK hZ hA hI (m_Me_gap l hst D g0 v1 v3 v5 v7 w u9 e10) ce_Me_gap wd_376 ⟨by decide, by decide⟩ rfl rfl hl.1 rfl (lv_room (Nat.le_of_ble_eq_true rfl)) d_Me_outlines_16 ⟨(show 0 + 0 ≤ 0 by omega), (show 0 + 0 ≤ 0 by omega)⟩) hI hA hexc (show 0 + 0 ≤ 0 by omega) (show 0 + 0 ≤ 0 by omega) (fun v11 w H locs h hI => ?_)
  refine lv_lstore_n (lv' := [(2, .long v11), (0, .ref a0), (1, .ref a1)]) hx hb d_Me_outlines_19 rfl hl (by decide) rfl (fun ls hl => ?_)
  refine lv_aload_n hx hb d_Me_outlines_20 rfl (lv_at hl 1 rfl) ?_
  obtain ⟨v12, e13, h⟩ := gb h
  refine gw_getJ hx hb hT hown hK hI (ci := 3) rfl i_3 7 (by decide) wd_143 (fun _ h9 => h9) e13 d_Me_outlines_21 ?_
  refine lv_aload_n hx hb d_Me_outlines_24 rfl (lv_at hl 1 rfl) ?_
  obtain ⟨v14, e15, h⟩ := gb h
  refine gw_getJ hx hb hT hown hK hI (ci := 3) rfl i_3 10 (by decide) wd_149 (fun _ h9 => h9) e15 d_Me_outlines_25 ?_
  refine lv_aload_n hx hb d_Me_outlines_28 rfl (lv_at hl 2 rfl) ?_
  obtain ⟨v16, e17, h⟩ := gb h
  refine gw_getJ hx hb hT hown hK hI (ci := 3) rfl i_3 7 (by decide) wd_143 (fun _ h9 => h9) e17 d_Me_outlines_29 ?_
  refine lv_aload_n hx hb d_Me_outlines_32 rfl (lv_at hl 2 rfl) ?_
  obtain ⟨v18, e19, h⟩ := gb h
  refine gw_getJ hx hb hT hown hK hI (ci := 3) rfl i_3 10 (by decide) wd_149 (fun _ h9 => h9) e19 d_Me_outlines_33 ?_
  obtain ⟨u20, e21⟩ := gsome h
  refine gw_callJ e21 h (gw_runS (As := [.long v12, .long v14, .long v16, .long v18]) (rest := []) hx hb hml hown hT hK hZ hA hI (m_Me_gap l hst D g0 v12 v14 v16 v18 w u20 e21) ce_Me_gap wd_376 ⟨by decide, by decide⟩ rfl rfl hl.1 rfl (lv_room (Nat.le_of_ble_eq_true rfl)) d_Me_outlines_36 ⟨(show 0 + 0 ≤ 0 by omega), (show 0 + 0 ≤ 0 by omega)⟩) hI hA hexc (show 0 + 0 ≤ 0 by omega) (show 0 + 0 ≤ 0 by omega) (fun v22 w H locs h hI => ?_)
  refine lv_lstore (lv' := [(4, .long v22), (2, .long v11), (0, .ref a0), (1, .ref a1)]) hx hb d_Me_outlines_39 hl (by decide) rfl (fun ls hl => ?_)
  refine lv_lload_n hx hb d_Me_outlines_41 rfl (lv_at hl 1 rfl) ?_
  refine lv_lload hx hb d_Me_outlines_42 (lv_at hl 0 rfl) ?_
  obtain ⟨u23, e24⟩ := gsome h
  refine gw_callJ e24 h (gw_runS (As := [.long v11, .long v22]) (rest := []) hx hb hml hown hT hK hZ hA hI (m_Ma_max2 l hst D g0 v11 v22 w u23 e24) ce_Ma_max2 wd_379 ⟨by decide, by decide⟩ rfl rfl hl.1 rfl (lv_room (Nat.le_of_ble_eq_true rfl)) d_Me_outlines_44 ⟨(show 0 + 0 ≤ 0 by omega), (show 0 + 0 ≤ 0 by omega)⟩) hI hA hexc (show 0 + 0 ≤ 0 by omega) (show 0 + 0 ≤ 0 by omega) (fun v25 w H locs h hI => ?_)
  obtain ⟨u26, e27⟩ := gsome h
  refine gw_callI e27 h (gw_runS (As := [.long v25]) (rest := []) hx hb hml hown hT hK hZ hA hI (m_Me_sign l hst D g0 v25 w u26 e27) ce_Me_sign wd_383 ⟨by decide, by decide⟩ rfl rfl hl.1 rfl (lv_room (Nat.le_of_ble_eq_true rfl)) d_Me_outlines_47 ⟨(show 0 + 0 ≤ 0 by omega), (show 0 + 0 ≤ 0 by omega)⟩) hI hA hexc (show 0 + 0 ≤ 0 by omega) (show 0 + 0 ≤ 0 by omega) (fun v28 w H locs h hI => ?_)
  refine lv_istore (lv' := [(6, .int v28), (4, .long v22), (2, .long v11), (0, .ref a0), (1, .ref a1)]) hx hb d_Me_outlines_50 hl (by decide) rfl (fun ls hl => ?_)
  refine lv_aload_n hx hb d_Me_outlines_52 rfl (lv_at hl 3 rfl) ?_
  obtain ⟨v29, e30, h⟩ := gb h
  refine gw_getI hx hb hT hown hK hI (ci := 3) rfl i_3 0 (by decide) wd_130 (fun _ h9 => h9) e30 d_Me_outlines_53 ?_
  refine lv_iconst (v := 2) hx hb d_Me_outlines_56 (by decide) ?_
  obtain ⟨K78, eK78, h⟩ := gj h
  have hK78 : ∀ (x31 : Int32) (w : gW) (H : Heap) (locs : List Loc) (ls : Array Slot), K78 x31 w = some r → gI D s A w H locs → lv_has ls 7 [(0, .ref a0), (1, .ref a1), (6, .int x31)] → W p l e rm_Me_outlines s m args below meth c H locs 0 0 Q (F0 m 78 ls []) := by
    intro x31 w H locs ls h hI hl
    have h := gk2 eK78 h
    refine lv_aload_n hx hb d_Me_outlines_78 rfl (lv_at hl 1 rfl) ?_
    obtain ⟨v32, e33, h⟩ := gb h
    refine gw_getI hx hb hT hown hK hI (ci := 3) rfl i_3 0 (by decide) wd_130 (fun _ h9 => h9) e33 d_Me_outlines_79 ?_
    refine lv_iconst (v := 2) hx hb d_Me_outlines_82 (by decide) ?_
    obtain ⟨K104, eK104, h⟩ := gj h
    have hK104 : ∀ (x34 : Int32) (w : gW) (H : Heap) (locs : List Loc) (ls : Array Slot), K104 x34 w = some r → gI D s A w H locs → lv_has ls 7 [(6, .int x34)] → W p l e rm_Me_outlines s m args below meth c H locs 0 0 Q (F0 m 104 ls []) := by
      intro x34 w H locs ls h hI hl
      have h := gk2 eK104 h
      refine lv_iload hx hb d_Me_outlines_104 (lv_at hl 0 rfl) ?_
      exact W.widen (show 0 ≤ 0 by omega) (show 0 ≤ 0 by omega) (hret _ _ (Option.some.inj h).symm _ _ _ _ d_Me_outlines_106 hI)
    refine lv_icmp_ne (tgt := 104) hx hb d_Me_outlines_83 (by decide) (fun c35 => ?_) (fun c35 => ?_)
    · skip
      have h := gie c35 h
      exact hK104 _ w H locs ls h hI (lv_sub hl [2] rfl)
    · skip
      have h := git c35 h
      refine lv_iload hx hb d_Me_outlines_86 (lv_at hl 2 rfl) ?_
      refine lv_iconst (v := 1) hx hb d_Me_outlines_88 (by decide) ?_
      refine lv_icmp_eq (tgt := 104) hx hb d_Me_outlines_89 (by decide) (fun c36 => ?_) (fun c36 => ?_)
      · skip
        have h := git c36 h
        exact hK104 _ w H locs ls h hI (lv_sub hl [2] rfl)
      · skip
        have h := gie c36 h
        refine lv_iload hx hb d_Me_outlines_92 (lv_at hl 2 rfl) ?_
        refine lv_aload_n hx hb d_Me_outlines_94 rfl (lv_at hl 1 rfl) ?_
        refine lv_aload_n hx hb d_Me_outlines_95 rfl (lv_at hl 0 rfl) ?_
        obtain ⟨u37, e38⟩ := gsome h
        refine gw_callI e38 h (gw_runS (As := [.ref a1, .ref a0]) (rest := [.int x31]) hx hb hml hown hT hK hZ hA hI (m_Me_partedBySides l hst D g0 a1 a0 w u37 e38) ce_Me_partedBySides wd_386 ⟨by decide, by decide⟩ rfl rfl hl.1 rfl (lv_room (Nat.le_of_ble_eq_true rfl)) d_Me_outlines_96 ⟨(show 0 + 0 ≤ 0 by omega), (show 0 + 0 ≤ 0 by omega)⟩) hI hA hexc (show 0 + 0 ≤ 0 by omega) (show 0 + 0 ≤ 0 by omega) (fun v39 w H locs h hI => ?_)
        obtain ⟨u40, e41⟩ := gsome h
        refine gw_callI e41 h (gw_runS (As := [.int x31, .int v39]) (rest := []) hx hb hml hown hT hK hZ hA hI (m_Ma_max l hst D g0 x31 v39 w u40 e41) ce_Ma_max wd_390 ⟨by decide, by decide⟩ rfl rfl hl.1 rfl (lv_room (Nat.le_of_ble_eq_true rfl)) d_Me_outlines_99 ⟨(show 0 + 0 ≤ 0 by omega), (show 0 + 0 ≤ 0 by omega)⟩) hI hA hexc (show 0 + 0 ≤ 0 by omega) (show 0 + 0 ≤ 0 by omega) (fun v42 w H locs h hI => ?_)
        refine lv_istore (lv' := [(6, .int v42), (0, .ref a0), (1, .ref a1)]) hx hb d_Me_outlines_102 hl (by decide) rfl (fun ls hl => ?_)
        exact hK104 _ w H locs ls h hI (lv_sub hl [0] rfl)
  refine lv_icmp_ne (tgt := 78) hx hb d_Me_outlines_57 (by decide) (fun c43 => ?_) (fun c43 => ?_)
  · skip
    have h := gie c43 h
    exact hK78 _ w H locs ls h hI (lv_sub hl [3, 4, 0] rfl)
  · skip
    have h := git c43 h
    refine lv_iload hx hb d_Me_outlines_60 (lv_at hl 0 rfl) ?_
    refine lv_iconst (v := 1) hx hb d_Me_outlines_62 (by decide) ?_
    refine lv_icmp_eq (tgt := 78) hx hb d_Me_outlines_63 (by decide) (fun c44 => ?_) (fun c44 => ?_)
    · skip
      have h := git c44 h
      exact hK78 _ w H locs ls h hI (lv_sub hl [3, 4, 0] rfl)
    · skip
      have h := gie c44 h
      refine lv_iload hx hb d_Me_outlines_66 (lv_at hl 0 rfl) ?_
      refine lv_aload_n hx hb d_Me_outlines_68 rfl (lv_at hl 3 rfl) ?_
      refine lv_aload_n hx hb d_Me_outlines_69 rfl (lv_at hl 4 rfl) ?_
      obtain ⟨u45, e46⟩ := gsome h
      refine gw_callI e46 h (gw_runS (As := [.ref a0, .ref a1]) (rest := [.int v28]) hx hb hml hown hT hK hZ hA hI (m_Me_partedBySides l hst D g0 a0 a1 w u45 e46) ce_Me_partedBySides wd_386 ⟨by decide, by decide⟩ rfl rfl hl.1 rfl (lv_room (Nat.le_of_ble_eq_true rfl)) d_Me_outlines_70 ⟨(show 0 + 0 ≤ 0 by omega), (show 0 + 0 ≤ 0 by omega)⟩) hI hA hexc (show 0 + 0 ≤ 0 by omega) (show 0 + 0 ≤ 0 by omega) (fun v47 w H locs h hI => ?_)
      obtain ⟨u48, e49⟩ := gsome h
      refine gw_callI e49 h (gw_runS (As := [.int v28, .int v47]) (rest := []) hx hb hml hown hT hK hZ hA hI (m_Ma_max l hst D g0 v28 v47 w u48 e49) ce_Ma_max wd_390 ⟨by decide, by decide⟩ rfl rfl hl.1 rfl (lv_room (Nat.le_of_ble_eq_true rfl)) d_Me_outlines_73 ⟨(show 0 + 0 ≤ 0 by omega), (show 0 + 0 ≤ 0 by omega)⟩) hI hA hexc (show 0 + 0 ≤ 0 by omega) (show 0 + 0 ≤ 0 by omega) (fun v50 w H locs h hI => ?_)
      refine lv_istore (lv' := [(6, .int v50), (4, .long v22), (2, .long v11), (0, .ref a0), (1, .ref a1)]) hx hb d_Me_outlines_76 hl (by decide) rfl (fun ls hl => ?_)
      exact hK78 _ w H locs ls h hI (lv_sub hl [3, 4, 0] rfl)

abbrev b_Me_squareIfAbove : ByteArray := prog_5_method_5_code
def y_Me_squareIfAbove : MethodName := ⟨"BodySolids$Meeting", "squareIfAbove", "(J)J"⟩
theorem d_Me_squareIfAbove_0 : decode b_Me_squareIfAbove 0 = .ok (.lload_n 0, 1) := by decide +kernel
theorem d_Me_squareIfAbove_1 : decode b_Me_squareIfAbove 1 = .ok (.lconst 0, 1) := by decide +kernel
theorem d_Me_squareIfAbove_2 : decode b_Me_squareIfAbove 2 = .ok (.lcmp, 1) := by decide +kernel
theorem d_Me_squareIfAbove_3 : decode b_Me_squareIfAbove 3 = .ok (.ifCond .le 9, 3) := by decide +kernel
theorem d_Me_squareIfAbove_6 : decode b_Me_squareIfAbove 6 = .ok (.lload_n 0, 1) := by decide +kernel
theorem d_Me_squareIfAbove_7 : decode b_Me_squareIfAbove 7 = .ok (.lload_n 0, 1) := by decide +kernel
theorem d_Me_squareIfAbove_8 : decode b_Me_squareIfAbove 8 = .ok (.lmul, 1) := by decide +kernel
theorem d_Me_squareIfAbove_9 : decode b_Me_squareIfAbove 9 = .ok (.goto 4, 3) := by decide +kernel
theorem d_Me_squareIfAbove_12 : decode b_Me_squareIfAbove 12 = .ok (.lconst 0, 1) := by decide +kernel
theorem d_Me_squareIfAbove_13 : decode b_Me_squareIfAbove 13 = .ok (.lreturn, 1) := by decide +kernel
abbrev rm_Me_squareIfAbove : Room := { frames := 0, cells := 0, slots := 0, locals := 0 }
theorem ce_Me_squareIfAbove : gCe y_Me_squareIfAbove (.code y_Me_squareIfAbove b_Me_squareIfAbove 2 (some .long)) 2 1 true := gCe.code wd_399 wd_69 wd_398 (by decide) (by decide +kernel)
def f_Me_squareIfAbove (g0 : gG) (p0 : Int64) (w : gW) : gX Int64 := gjoin (fun K13 => if p0 ≤ 0 then (K13 0 w) else (K13 (p0 * p0) w)) (fun (y1 : Int64) (w : gW) => some (.inr y1, w))
set_option maxHeartbeats 4000000 in
set_option maxRecDepth 100000 in
theorem m_Me_squareIfAbove (l : Launch) (hst : l.stackTraces = false) (D : gD) (g0 : gG) (p0 : Int64) (w : gW) (r : (String ⊕ Int64) × gW) (h : f_Me_squareIfAbove g0 p0 w = some r) : gMet l y_Me_squareIfAbove (.code y_Me_squareIfAbove b_Me_squareIfAbove 2 (some .long)) rm_Me_squareIfAbove D g0 [.long p0] w (goJ r) := by
  refine gw_ofJ (by decide +kernel) (Nat.le_of_ble_eq_true rfl) ?_
  intro p e s m below meth c ls args A Q hx hb hml hown hlocks hin hnt hT hK hZ hA hret hexc hthr hI hl
  obtain ⟨H, hH⟩ : ∃ H, H = s.heap := ⟨_, rfl⟩
  rw [← hH] at hI ⊢
  obtain ⟨locs, hlocs⟩ : ∃ z : List Loc, z = [] := ⟨_, rfl⟩
  rw [← hlocs] at hI ⊢
  have hl : lv_has ls 2 [(0, .long p0)] := hl
  unfold f_Me_squareIfAbove at h
  refine lv_lload_n hx hb d_Me_squareIfAbove_0 rfl (lv_at hl 0 rfl) ?_
  refine lv_lconst (v := 0) hx hb d_Me_squareIfAbove_1 (by decide) ?_
  refine W.lcmp hx hb d_Me_squareIfAbove_2 ?_
  obtain ⟨K13, eK13, h⟩ := gj h
  have hK13 : ∀ (y1 : Int64) (w : gW) (H : Heap) (locs : List Loc) (ls : Array Slot), K13 y1 w = some r → gI D s A w H locs → lv_has ls 2 [] → W p l e rm_Me_squareIfAbove s m args below meth c H locs 0 0 Q (F0 m 13 ls [.long y1]) := by
    intro y1 w H locs ls h hI hl
    have h := gk2 eK13 h
    exact W.widen (show 0 ≤ 0 by omega) (show 0 ≤ 0 by omega) (hret _ _ (Option.some.inj h).symm _ _ _ _ d_Me_squareIfAbove_13 hI)
  refine lv_if_le (tgt := 12) hx hb d_Me_squareIfAbove_3 (by decide) (fun c2 => ?_) (fun c2 => ?_)
  · have c2 := (lg_cmp_le _ _).mp c2
    have h := git c2 h
    refine lv_lconst (v := 0) hx hb d_Me_squareIfAbove_12 (by decide) ?_
    exact hK13 _ w H locs ls h hI (lv_sub hl [] rfl)
  · have c2 := mt (lg_cmp_le _ _).mpr c2
    have h := gie c2 h
    refine lv_lload_n hx hb d_Me_squareIfAbove_6 rfl (lv_at hl 0 rfl) ?_
    refine lv_lload_n hx hb d_Me_squareIfAbove_7 rfl (lv_at hl 0 rfl) ?_
    refine lv_lmul hx hb d_Me_squareIfAbove_8 ?_
    refine lv_goto (tgt := 13) hx hb d_Me_squareIfAbove_9 (by decide) ?_
    exact hK13 _ w H locs ls h hI (lv_sub hl [] rfl)

abbrev b_Me_cornersDistance : ByteArray := prog_5_method_9_code
def y_Me_cornersDistance : MethodName := ⟨"BodySolids$Meeting", "cornersDistance", "(LBodySolids$Solid;LBodySolids$Solid;J)I"⟩
theorem d_Me_cornersDistance_0 : decode b_Me_cornersDistance 0 = .ok (.iconst 1, 1) := by decide +kernel
theorem d_Me_cornersDistance_1 : decode b_Me_cornersDistance 1 = .ok (.istore 4, 2) := by decide +kernel
theorem d_Me_cornersDistance_3 : decode b_Me_cornersDistance 3 = .ok (.iconst 0, 1) := by decide +kernel
theorem d_Me_cornersDistance_4 : decode b_Me_cornersDistance 4 = .ok (.istore 5, 2) := by decide +kernel
theorem d_Me_cornersDistance_6 : decode b_Me_cornersDistance 6 = .ok (.iload 5, 2) := by decide +kernel
theorem d_Me_cornersDistance_8 : decode b_Me_cornersDistance 8 = .ok (.aload_n 0, 1) := by decide +kernel
theorem d_Me_cornersDistance_9 : decode b_Me_cornersDistance 9 = .ok (.getfield 78, 3) := by decide +kernel
theorem d_Me_cornersDistance_12 : decode b_Me_cornersDistance 12 = .ok (.if_icmp .ge 86, 3) := by decide +kernel
theorem d_Me_cornersDistance_15 : decode b_Me_cornersDistance 15 = .ok (.aload_n 0, 1) := by decide +kernel
theorem d_Me_cornersDistance_16 : decode b_Me_cornersDistance 16 = .ok (.getfield 81, 3) := by decide +kernel
theorem d_Me_cornersDistance_19 : decode b_Me_cornersDistance 19 = .ok (.iload 5, 2) := by decide +kernel
theorem d_Me_cornersDistance_21 : decode b_Me_cornersDistance 21 = .ok (.laload, 1) := by decide +kernel
theorem d_Me_cornersDistance_22 : decode b_Me_cornersDistance 22 = .ok (.aload_n 0, 1) := by decide +kernel
theorem d_Me_cornersDistance_23 : decode b_Me_cornersDistance 23 = .ok (.getfield 81, 3) := by decide +kernel
theorem d_Me_cornersDistance_26 : decode b_Me_cornersDistance 26 = .ok (.iload 5, 2) := by decide +kernel
theorem d_Me_cornersDistance_28 : decode b_Me_cornersDistance 28 = .ok (.laload, 1) := by decide +kernel
theorem d_Me_cornersDistance_29 : decode b_Me_cornersDistance 29 = .ok (.aload_n 1, 1) := by decide +kernel
theorem d_Me_cornersDistance_30 : decode b_Me_cornersDistance 30 = .ok (.getfield 18, 3) := by decide +kernel
theorem d_Me_cornersDistance_33 : decode b_Me_cornersDistance 33 = .ok (.aload_n 1, 1) := by decide +kernel
theorem d_Me_cornersDistance_34 : decode b_Me_cornersDistance 34 = .ok (.getfield 21, 3) := by decide +kernel
theorem d_Me_cornersDistance_37 : decode b_Me_cornersDistance 37 = .ok (.invokestatic 24, 3) := by decide +kernel
theorem d_Me_cornersDistance_40 : decode b_Me_cornersDistance 40 = .ok (.lstore 6, 2) := by decide +kernel
theorem d_Me_cornersDistance_42 : decode b_Me_cornersDistance 42 = .ok (.aload_n 0, 1) := by decide +kernel
theorem d_Me_cornersDistance_43 : decode b_Me_cornersDistance 43 = .ok (.getfield 85, 3) := by decide +kernel
theorem d_Me_cornersDistance_46 : decode b_Me_cornersDistance 46 = .ok (.iload 5, 2) := by decide +kernel
theorem d_Me_cornersDistance_48 : decode b_Me_cornersDistance 48 = .ok (.laload, 1) := by decide +kernel
theorem d_Me_cornersDistance_49 : decode b_Me_cornersDistance 49 = .ok (.aload_n 0, 1) := by decide +kernel
theorem d_Me_cornersDistance_50 : decode b_Me_cornersDistance 50 = .ok (.getfield 85, 3) := by decide +kernel
theorem d_Me_cornersDistance_53 : decode b_Me_cornersDistance 53 = .ok (.iload 5, 2) := by decide +kernel
theorem d_Me_cornersDistance_55 : decode b_Me_cornersDistance 55 = .ok (.laload, 1) := by decide +kernel
theorem d_Me_cornersDistance_56 : decode b_Me_cornersDistance 56 = .ok (.aload_n 1, 1) := by decide +kernel
theorem d_Me_cornersDistance_57 : decode b_Me_cornersDistance 57 = .ok (.getfield 30, 3) := by decide +kernel
theorem d_Me_cornersDistance_60 : decode b_Me_cornersDistance 60 = .ok (.aload_n 1, 1) := by decide +kernel
theorem d_Me_cornersDistance_61 : decode b_Me_cornersDistance 61 = .ok (.getfield 33, 3) := by decide +kernel
theorem d_Me_cornersDistance_64 : decode b_Me_cornersDistance 64 = .ok (.invokestatic 24, 3) := by decide +kernel
theorem d_Me_cornersDistance_67 : decode b_Me_cornersDistance 67 = .ok (.lstore 8, 2) := by decide +kernel
theorem d_Me_cornersDistance_69 : decode b_Me_cornersDistance 69 = .ok (.iload 4, 2) := by decide +kernel
theorem d_Me_cornersDistance_71 : decode b_Me_cornersDistance 71 = .ok (.lload 6, 2) := by decide +kernel
theorem d_Me_cornersDistance_73 : decode b_Me_cornersDistance 73 = .ok (.invokestatic 60, 3) := by decide +kernel
theorem d_Me_cornersDistance_76 : decode b_Me_cornersDistance 76 = .ok (.lload 8, 2) := by decide +kernel
theorem d_Me_cornersDistance_78 : decode b_Me_cornersDistance 78 = .ok (.invokestatic 60, 3) := by decide +kernel
theorem d_Me_cornersDistance_81 : decode b_Me_cornersDistance 81 = .ok (.ladd, 1) := by decide +kernel
theorem d_Me_cornersDistance_82 : decode b_Me_cornersDistance 82 = .ok (.lload_n 2, 1) := by decide +kernel
theorem d_Me_cornersDistance_83 : decode b_Me_cornersDistance 83 = .ok (.lsub, 1) := by decide +kernel
theorem d_Me_cornersDistance_84 : decode b_Me_cornersDistance 84 = .ok (.invokestatic 50, 3) := by decide +kernel
theorem d_Me_cornersDistance_87 : decode b_Me_cornersDistance 87 = .ok (.invokestatic 88, 3) := by decide +kernel
theorem d_Me_cornersDistance_90 : decode b_Me_cornersDistance 90 = .ok (.istore 4, 2) := by decide +kernel
theorem d_Me_cornersDistance_92 : decode b_Me_cornersDistance 92 = .ok (.iinc 5 1, 3) := by decide +kernel
theorem d_Me_cornersDistance_95 : decode b_Me_cornersDistance 95 = .ok (.goto (-89), 3) := by decide +kernel
theorem d_Me_cornersDistance_98 : decode b_Me_cornersDistance 98 = .ok (.iload 4, 2) := by decide +kernel
theorem d_Me_cornersDistance_100 : decode b_Me_cornersDistance 100 = .ok (.ireturn, 1) := by decide +kernel
abbrev rm_Me_cornersDistance : Room := { frames := 2, cells := 0, slots := 0, locals := 50 }
theorem ce_Me_cornersDistance : gCe y_Me_cornersDistance (.code y_Me_cornersDistance b_Me_cornersDistance 10 (some .int)) 10 3 true := gCe.code wd_396 wd_69 wd_395 (by decide) (by decide +kernel)
def f_Me_cornersDistance_L6 (g0 : gG) (c0 : Nat) (c1 : Nat) (c2 : Int64) (K98 : Int32 → gW → gX Int32) : Nat → Int32 → Int32 → gW → gX Int32
  | 0, _, _, _ => none
  | n + 1, z4, z5, w => (gfI w c0 3 5).bind fun v2 => if v2 ≤ z5 then (K98 z4 w) else ((gfA w c0 3 3).bind fun v5 => (gaJ w v5 z5).bind fun v7 => (gfA w c0 3 3).bind fun v9 => (gaJ w v9 z5).bind fun v11 => (gfJ w c1 3 6).bind fun v13 => (gfJ w c1 3 9).bind fun v15 => gbind (f_Me_gap g0 v7 v11 v13 v15 w) fun v19 w => (gfA w c0 3 4).bind fun v20 => (gaJ w v20 z5).bind fun v22 => (gfA w c0 3 4).bind fun v24 => (gaJ w v24 z5).bind fun v26 => (gfJ w c1 3 7).bind fun v28 => (gfJ w c1 3 10).bind fun v30 => gbind (f_Me_gap g0 v22 v26 v28 v30 w) fun v34 w => gbind (f_Me_squareIfAbove g0 v19 w) fun v37 w => gbind (f_Me_squareIfAbove g0 v34 w) fun v40 w => gbind (f_Me_sign g0 ((v37 + v40) - c2) w) fun v43 w => gbind (f_Ma_min g0 z4 v43 w) fun v46 w => f_Me_cornersDistance_L6 g0 c0 c1 c2 K98 n v46 (z5 + 1) w)
def f_Me_cornersDistance (g0 : gG) (a0 : Nat) (a1 : Nat) (p2 : Int64) (w : gW) : gX Int32 := gjoin (fun K98 => f_Me_cornersDistance_L6 g0 a0 a1 p2 K98 64 1 0 w) (fun (x1 : Int32) (w : gW) => some (.inr x1, w))
set_option maxHeartbeats 4000000 in
set_option maxRecDepth 100000 in
theorem m_Me_cornersDistance (l : Launch) (hst : l.stackTraces = false) (D : gD) (g0 : gG) (a0 : Nat) (a1 : Nat) (p2 : Int64) (w : gW) (r : (String ⊕ Int32) × gW) (h : f_Me_cornersDistance g0 a0 a1 p2 w = some r) : gMet l y_Me_cornersDistance (.code y_Me_cornersDistance b_Me_cornersDistance 10 (some .int)) rm_Me_cornersDistance D g0 [.ref a0, .ref a1, .long p2] w (goI r) := by
  refine gw_ofI (by decide +kernel) (Nat.le_of_ble_eq_true rfl) ?_
  intro p e s m below meth c ls args A Q hx hb hml hown hlocks hin hnt hT hK hZ hA hret hexc hthr hI hl
  obtain ⟨H, hH⟩ : ∃ H, H = s.heap := ⟨_, rfl⟩
  rw [← hH] at hI ⊢
  obtain ⟨locs, hlocs⟩ : ∃ z : List Loc, z = [] := ⟨_, rfl⟩
  rw [← hlocs] at hI ⊢
  have hl : lv_has ls 10 [(0, .ref a0), (1, .ref a1), (2, .long p2)] := hl
  unfold f_Me_cornersDistance at h
  refine lv_iconst (v := 1) hx hb d_Me_cornersDistance_0 (by decide) ?_
  refine lv_istore (lv' := [(4, .int 1), (0, .ref a0), (1, .ref a1), (2, .long p2)]) hx hb d_Me_cornersDistance_1 hl (by decide) rfl (fun ls hl => ?_)
  refine lv_iconst (v := 0) hx hb d_Me_cornersDistance_3 (by decide) ?_
  refine lv_istore (lv' := [(5, .int 0), (4, .int 1), (0, .ref a0), (1, .ref a1), (2, .long p2)]) hx hb d_Me_cornersDistance_4 hl (by decide) rfl (fun ls hl => ?_)
  obtain ⟨K98, eK98, h⟩ := gj h
  have hK98 : ∀ (x1 : Int32) (w : gW) (H : Heap) (locs : List Loc) (ls : Array Slot), K98 x1 w = some r → gI D s A w H locs → lv_has ls 10 [(4, .int x1)] → W p l e rm_Me_cornersDistance s m args below meth c H locs 0 0 Q (F0 m 98 ls []) := by
    intro x1 w H locs ls h hI hl
    have h := gk2 eK98 h
    refine lv_iload hx hb d_Me_cornersDistance_98 (lv_at hl 0 rfl) ?_
    exact W.widen (show 0 ≤ 0 by omega) (show 0 ≤ 0 by omega) (hret _ _ (Option.some.inj h).symm _ _ _ _ d_Me_cornersDistance_100 hI)
  have hL6 : ∀ (n : Nat), ∀ (z2 : Int32) (z3 : Int32) (w : gW) (H : Heap) (locs : List Loc) (ls : Array Slot), f_Me_cornersDistance_L6 g0 a0 a1 p2 K98 n z2 z3 w = some r → gI D s A w H locs → lv_has ls 10 [(0, .ref a0), (1, .ref a1), (2, .long p2), (4, .int z2), (5, .int z3)] → W p l e rm_Me_cornersDistance s m args below meth c H locs 0 0 Q (F0 m 6 ls []) := by
    intro n
    induction n with
    | zero => intro z2 z3 w H locs ls h hI hl; exact absurd h (by simp [f_Me_cornersDistance_L6])
    | succ n ih =>
      intro z2 z3 w H locs ls h hI hl
      rw [f_Me_cornersDistance_L6] at h
      refine lv_iload hx hb d_Me_cornersDistance_6 (lv_at hl 4 rfl) ?_
      refine lv_aload_n hx hb d_Me_cornersDistance_8 rfl (lv_at hl 0 rfl) ?_
      obtain ⟨v4, e5, h⟩ := gb h
      refine gw_getI hx hb hT hown hK hI (ci := 3) rfl i_3 5 (by decide) wd_140 (fun _ h9 => h9) e5 d_Me_cornersDistance_9 ?_
      refine lv_icmp_ge (tgt := 98) hx hb d_Me_cornersDistance_12 (by decide) (fun c6 => ?_) (fun c6 => ?_)
      · skip
        have h := git c6 h
        exact hK98 _ w H locs ls h hI (lv_sub hl [3] rfl)
      · skip
        have h := gie c6 h
        refine lv_aload_n hx hb d_Me_cornersDistance_15 rfl (lv_at hl 0 rfl) ?_
        obtain ⟨v7, e8, h⟩ := gb h
        refine gw_getA hx hb hT hown hK hI (ci := 3) rfl i_3 3 (by decide) wd_136 (fun _ h9 => h9) e8 d_Me_cornersDistance_16 ?_
        refine lv_iload hx hb d_Me_cornersDistance_19 (lv_at hl 4 rfl) ?_
        obtain ⟨v9, e10, h⟩ := gb h
        refine gw_aldJ hx hb hK hI e10 d_Me_cornersDistance_21 ?_
        refine lv_aload_n hx hb d_Me_cornersDistance_22 rfl (lv_at hl 0 rfl) ?_
        obtain ⟨v11, e12, h⟩ := gb h
        refine gw_getA hx hb hT hown hK hI (ci := 3) rfl i_3 3 (by decide) wd_136 (fun _ h9 => h9) e12 d_Me_cornersDistance_23 ?_
        refine lv_iload hx hb d_Me_cornersDistance_26 (lv_at hl 4 rfl) ?_
        obtain ⟨v13, e14, h⟩ := gb h
        refine gw_aldJ hx hb hK hI e14 d_Me_cornersDistance_28 ?_
        refine lv_aload_n hx hb d_Me_cornersDistance_29 rfl (lv_at hl 1 rfl) ?_
        obtain ⟨v15, e16, h⟩ := gb h
        refine gw_getJ hx hb hT hown hK hI (ci := 3) rfl i_3 6 (by decide) wd_141 (fun _ h9 => h9) e16 d_Me_cornersDistance_30 ?_
        refine lv_aload_n hx hb d_Me_cornersDistance_33 rfl (lv_at hl 1 rfl) ?_
        obtain ⟨v17, e18, h⟩ := gb h
        refine gw_getJ hx hb hT hown hK hI (ci := 3) rfl i_3 9 (by decide) wd_147 (fun _ h9 => h9) e18 d_Me_cornersDistance_34 ?_
        obtain ⟨u19, e20⟩ := gsome h
        refine gw_callJ e20 h (gw_runS (As := [.long v9, .long v13, .long v15, .long v17]) (rest := []) hx hb hml hown hT hK hZ hA hI (m_Me_gap l hst D g0 v9 v13 v15 v17 w u19 e20) ce_Me_gap wd_376 ⟨by decide, by decide⟩ rfl rfl hl.1 rfl (lv_room (Nat.le_of_ble_eq_true rfl)) d_Me_cornersDistance_37 ⟨(show 0 + 0 ≤ 0 by omega), (show 0 + 0 ≤ 0 by omega)⟩) hI hA hexc (show 0 + 0 ≤ 0 by omega) (show 0 + 0 ≤ 0 by omega) (fun v21 w H locs h hI => ?_)
        refine lv_lstore (lv' := [(6, .long v21), (0, .ref a0), (1, .ref a1), (2, .long p2), (4, .int z2), (5, .int z3)]) hx hb d_Me_cornersDistance_40 hl (by decide) rfl (fun ls hl => ?_)
        refine lv_aload_n hx hb d_Me_cornersDistance_42 rfl (lv_at hl 1 rfl) ?_
        obtain ⟨v22, e23, h⟩ := gb h
        refine gw_getA hx hb hT hown hK hI (ci := 3) rfl i_3 4 (by decide) wd_138 (fun _ h9 => h9) e23 d_Me_cornersDistance_43 ?_
        refine lv_iload hx hb d_Me_cornersDistance_46 (lv_at hl 5 rfl) ?_
        obtain ⟨v24, e25, h⟩ := gb h
        refine gw_aldJ hx hb hK hI e25 d_Me_cornersDistance_48 ?_
        refine lv_aload_n hx hb d_Me_cornersDistance_49 rfl (lv_at hl 1 rfl) ?_
        obtain ⟨v26, e27, h⟩ := gb h
        refine gw_getA hx hb hT hown hK hI (ci := 3) rfl i_3 4 (by decide) wd_138 (fun _ h9 => h9) e27 d_Me_cornersDistance_50 ?_
        refine lv_iload hx hb d_Me_cornersDistance_53 (lv_at hl 5 rfl) ?_
        obtain ⟨v28, e29, h⟩ := gb h
        refine gw_aldJ hx hb hK hI e29 d_Me_cornersDistance_55 ?_
        refine lv_aload_n hx hb d_Me_cornersDistance_56 rfl (lv_at hl 2 rfl) ?_
        obtain ⟨v30, e31, h⟩ := gb h
        refine gw_getJ hx hb hT hown hK hI (ci := 3) rfl i_3 7 (by decide) wd_143 (fun _ h9 => h9) e31 d_Me_cornersDistance_57 ?_
        refine lv_aload_n hx hb d_Me_cornersDistance_60 rfl (lv_at hl 2 rfl) ?_
        obtain ⟨v32, e33, h⟩ := gb h
        refine gw_getJ hx hb hT hown hK hI (ci := 3) rfl i_3 10 (by decide) wd_149 (fun _ h9 => h9) e33 d_Me_cornersDistance_61 ?_
        obtain ⟨u34, e35⟩ := gsome h
        refine gw_callJ e35 h (gw_runS (As := [.long v24, .long v28, .long v30, .long v32]) (rest := []) hx hb hml hown hT hK hZ hA hI (m_Me_gap l hst D g0 v24 v28 v30 v32 w u34 e35) ce_Me_gap wd_376 ⟨by decide, by decide⟩ rfl rfl hl.1 rfl (lv_room (Nat.le_of_ble_eq_true rfl)) d_Me_cornersDistance_64 ⟨(show 0 + 0 ≤ 0 by omega), (show 0 + 0 ≤ 0 by omega)⟩) hI hA hexc (show 0 + 0 ≤ 0 by omega) (show 0 + 0 ≤ 0 by omega) (fun v36 w H locs h hI => ?_)
        refine lv_lstore (lv' := [(8, .long v36), (6, .long v21), (0, .ref a0), (1, .ref a1), (2, .long p2), (4, .int z2), (5, .int z3)]) hx hb d_Me_cornersDistance_67 hl (by decide) rfl (fun ls hl => ?_)
        refine lv_iload hx hb d_Me_cornersDistance_69 (lv_at hl 5 rfl) ?_
        refine lv_lload hx hb d_Me_cornersDistance_71 (lv_at hl 1 rfl) ?_
        obtain ⟨u37, e38⟩ := gsome h
        refine gw_callJ e38 h (gw_runS (As := [.long v21]) (rest := [.int z2]) hx hb hml hown hT hK hZ hA hI (m_Me_squareIfAbove l hst D g0 v21 w u37 e38) ce_Me_squareIfAbove wd_397 ⟨by decide, by decide⟩ rfl rfl hl.1 rfl (lv_room (Nat.le_of_ble_eq_true rfl)) d_Me_cornersDistance_73 ⟨(show 0 + 0 ≤ 0 by omega), (show 0 + 0 ≤ 0 by omega)⟩) hI hA hexc (show 0 + 0 ≤ 0 by omega) (show 0 + 0 ≤ 0 by omega) (fun v39 w H locs h hI => ?_)
        refine lv_lload hx hb d_Me_cornersDistance_76 (lv_at hl 0 rfl) ?_
        obtain ⟨u40, e41⟩ := gsome h
        refine gw_callJ e41 h (gw_runS (As := [.long v36]) (rest := [.long v39, .int z2]) hx hb hml hown hT hK hZ hA hI (m_Me_squareIfAbove l hst D g0 v36 w u40 e41) ce_Me_squareIfAbove wd_397 ⟨by decide, by decide⟩ rfl rfl hl.1 rfl (lv_room (Nat.le_of_ble_eq_true rfl)) d_Me_cornersDistance_78 ⟨(show 0 + 0 ≤ 0 by omega), (show 0 + 0 ≤ 0 by omega)⟩) hI hA hexc (show 0 + 0 ≤ 0 by omega) (show 0 + 0 ≤ 0 by omega) (fun v42 w H locs h hI => ?_)
        refine lv_ladd hx hb d_Me_cornersDistance_81 ?_
        refine lv_lload_n hx hb d_Me_cornersDistance_82 rfl (lv_at hl 4 rfl) ?_
        refine lv_lsub hx hb d_Me_cornersDistance_83 ?_
        obtain ⟨u43, e44⟩ := gsome h
        refine gw_callI e44 h (gw_runS (As := [.long ((v39 + v42) - p2)]) (rest := [.int z2]) hx hb hml hown hT hK hZ hA hI (m_Me_sign l hst D g0 ((v39 + v42) - p2) w u43 e44) ce_Me_sign wd_383 ⟨by decide, by decide⟩ rfl rfl hl.1 rfl (lv_room (Nat.le_of_ble_eq_true rfl)) d_Me_cornersDistance_84 ⟨(show 0 + 0 ≤ 0 by omega), (show 0 + 0 ≤ 0 by omega)⟩) hI hA hexc (show 0 + 0 ≤ 0 by omega) (show 0 + 0 ≤ 0 by omega) (fun v45 w H locs h hI => ?_)
        obtain ⟨u46, e47⟩ := gsome h
        refine gw_callI e47 h (gw_runS (As := [.int z2, .int v45]) (rest := []) hx hb hml hown hT hK hZ hA hI (m_Ma_min l hst D g0 z2 v45 w u46 e47) ce_Ma_min wd_389 ⟨by decide, by decide⟩ rfl rfl hl.1 rfl (lv_room (Nat.le_of_ble_eq_true rfl)) d_Me_cornersDistance_87 ⟨(show 0 + 0 ≤ 0 by omega), (show 0 + 0 ≤ 0 by omega)⟩) hI hA hexc (show 0 + 0 ≤ 0 by omega) (show 0 + 0 ≤ 0 by omega) (fun v48 w H locs h hI => ?_)
        refine lv_istore (lv' := [(4, .int v48), (8, .long v36), (6, .long v21), (0, .ref a0), (1, .ref a1), (2, .long p2), (5, .int z3)]) hx hb d_Me_cornersDistance_90 hl (by decide) rfl (fun ls hl => ?_)
        refine lv_iinc (v := z3 + 1) (lv' := [(5, .int (z3 + 1)), (4, .int v48), (8, .long v36), (6, .long v21), (0, .ref a0), (1, .ref a1), (2, .long p2)]) hx hb d_Me_cornersDistance_92 hl (k := 6) rfl rfl (by decide) rfl (fun ls hl => ?_)
        refine lv_goto (tgt := 6) hx hb d_Me_cornersDistance_95 (by decide) ?_
        exact ih _ _ w H locs ls h hI (lv_sub hl [4, 5, 6, 1, 0] rfl)
  exact hL6 64 _ _ w H locs ls h hI (lv_sub hl [2, 3, 4, 1, 0] rfl)
