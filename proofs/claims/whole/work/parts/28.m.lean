abbrev b_M_fromPolygon : ByteArray := prog_9_method_40_code
def y_M_fromPolygon : MethodName := ⟨"BodySolidsModel", "fromPolygon", "(IJJJ)I"⟩
theorem d_M_fromPolygon_0 : decode b_M_fromPolygon 0 = .ok (.aload_n 0, 1) := by decide +kernel
theorem d_M_fromPolygon_1 : decode b_M_fromPolygon 1 = .ok (.iload_n 1, 1) := by decide +kernel
theorem d_M_fromPolygon_2 : decode b_M_fromPolygon 2 = .ok (.lload_n 2, 1) := by decide +kernel
theorem d_M_fromPolygon_3 : decode b_M_fromPolygon 3 = .ok (.lload 4, 2) := by decide +kernel
theorem d_M_fromPolygon_5 : decode b_M_fromPolygon 5 = .ok (.invokevirtual 198, 3) := by decide +kernel
theorem d_M_fromPolygon_8 : decode b_M_fromPolygon 8 = .ok (.ifCond .eq 11, 3) := by decide +kernel
theorem d_M_fromPolygon_11 : decode b_M_fromPolygon 11 = .ok (.lconst 0, 1) := by decide +kernel
theorem d_M_fromPolygon_12 : decode b_M_fromPolygon 12 = .ok (.lload 6, 2) := by decide +kernel
theorem d_M_fromPolygon_14 : decode b_M_fromPolygon 14 = .ok (.lsub, 1) := by decide +kernel
theorem d_M_fromPolygon_15 : decode b_M_fromPolygon 15 = .ok (.invokestatic 186, 3) := by decide +kernel
theorem d_M_fromPolygon_18 : decode b_M_fromPolygon 18 = .ok (.ireturn, 1) := by decide +kernel
theorem d_M_fromPolygon_19 : decode b_M_fromPolygon 19 = .ok (.iconst 0, 1) := by decide +kernel
theorem d_M_fromPolygon_20 : decode b_M_fromPolygon 20 = .ok (.istore 8, 2) := by decide +kernel
theorem d_M_fromPolygon_22 : decode b_M_fromPolygon 22 = .ok (.iconst 0, 1) := by decide +kernel
theorem d_M_fromPolygon_23 : decode b_M_fromPolygon 23 = .ok (.istore 9, 2) := by decide +kernel
theorem d_M_fromPolygon_25 : decode b_M_fromPolygon 25 = .ok (.iload 9, 2) := by decide +kernel
theorem d_M_fromPolygon_27 : decode b_M_fromPolygon 27 = .ok (.aload_n 0, 1) := by decide +kernel
theorem d_M_fromPolygon_28 : decode b_M_fromPolygon 28 = .ok (.getfield 56, 3) := by decide +kernel
theorem d_M_fromPolygon_31 : decode b_M_fromPolygon 31 = .ok (.iload_n 1, 1) := by decide +kernel
theorem d_M_fromPolygon_32 : decode b_M_fromPolygon 32 = .ok (.iaload, 1) := by decide +kernel
theorem d_M_fromPolygon_33 : decode b_M_fromPolygon 33 = .ok (.if_icmp .ge 96, 3) := by decide +kernel
theorem d_M_fromPolygon_36 : decode b_M_fromPolygon 36 = .ok (.iload 9, 2) := by decide +kernel
theorem d_M_fromPolygon_38 : decode b_M_fromPolygon 38 = .ok (.iconst 1, 1) := by decide +kernel
theorem d_M_fromPolygon_39 : decode b_M_fromPolygon 39 = .ok (.iadd, 1) := by decide +kernel
theorem d_M_fromPolygon_40 : decode b_M_fromPolygon 40 = .ok (.aload_n 0, 1) := by decide +kernel
theorem d_M_fromPolygon_41 : decode b_M_fromPolygon 41 = .ok (.getfield 56, 3) := by decide +kernel
theorem d_M_fromPolygon_44 : decode b_M_fromPolygon 44 = .ok (.iload_n 1, 1) := by decide +kernel
theorem d_M_fromPolygon_45 : decode b_M_fromPolygon 45 = .ok (.iaload, 1) := by decide +kernel
theorem d_M_fromPolygon_46 : decode b_M_fromPolygon 46 = .ok (.irem, 1) := by decide +kernel
theorem d_M_fromPolygon_47 : decode b_M_fromPolygon 47 = .ok (.istore 10, 2) := by decide +kernel
theorem d_M_fromPolygon_49 : decode b_M_fromPolygon 49 = .ok (.lload_n 2, 1) := by decide +kernel
theorem d_M_fromPolygon_50 : decode b_M_fromPolygon 50 = .ok (.lload 4, 2) := by decide +kernel
theorem d_M_fromPolygon_52 : decode b_M_fromPolygon 52 = .ok (.aload_n 0, 1) := by decide +kernel
theorem d_M_fromPolygon_53 : decode b_M_fromPolygon 53 = .ok (.getfield 59, 3) := by decide +kernel
theorem d_M_fromPolygon_56 : decode b_M_fromPolygon 56 = .ok (.bipush 8, 2) := by decide +kernel
theorem d_M_fromPolygon_58 : decode b_M_fromPolygon 58 = .ok (.iload_n 1, 1) := by decide +kernel
theorem d_M_fromPolygon_59 : decode b_M_fromPolygon 59 = .ok (.imul, 1) := by decide +kernel
theorem d_M_fromPolygon_60 : decode b_M_fromPolygon 60 = .ok (.iload 9, 2) := by decide +kernel
theorem d_M_fromPolygon_62 : decode b_M_fromPolygon 62 = .ok (.iadd, 1) := by decide +kernel
theorem d_M_fromPolygon_63 : decode b_M_fromPolygon 63 = .ok (.laload, 1) := by decide +kernel
theorem d_M_fromPolygon_64 : decode b_M_fromPolygon 64 = .ok (.aload_n 0, 1) := by decide +kernel
theorem d_M_fromPolygon_65 : decode b_M_fromPolygon 65 = .ok (.getfield 62, 3) := by decide +kernel
theorem d_M_fromPolygon_68 : decode b_M_fromPolygon 68 = .ok (.bipush 8, 2) := by decide +kernel
theorem d_M_fromPolygon_70 : decode b_M_fromPolygon 70 = .ok (.iload_n 1, 1) := by decide +kernel
theorem d_M_fromPolygon_71 : decode b_M_fromPolygon 71 = .ok (.imul, 1) := by decide +kernel
theorem d_M_fromPolygon_72 : decode b_M_fromPolygon 72 = .ok (.iload 9, 2) := by decide +kernel
theorem d_M_fromPolygon_74 : decode b_M_fromPolygon 74 = .ok (.iadd, 1) := by decide +kernel
theorem d_M_fromPolygon_75 : decode b_M_fromPolygon 75 = .ok (.laload, 1) := by decide +kernel
theorem d_M_fromPolygon_76 : decode b_M_fromPolygon 76 = .ok (.aload_n 0, 1) := by decide +kernel
theorem d_M_fromPolygon_77 : decode b_M_fromPolygon 77 = .ok (.getfield 59, 3) := by decide +kernel
theorem d_M_fromPolygon_80 : decode b_M_fromPolygon 80 = .ok (.bipush 8, 2) := by decide +kernel
theorem d_M_fromPolygon_82 : decode b_M_fromPolygon 82 = .ok (.iload_n 1, 1) := by decide +kernel
theorem d_M_fromPolygon_83 : decode b_M_fromPolygon 83 = .ok (.imul, 1) := by decide +kernel
theorem d_M_fromPolygon_84 : decode b_M_fromPolygon 84 = .ok (.iload 10, 2) := by decide +kernel
theorem d_M_fromPolygon_86 : decode b_M_fromPolygon 86 = .ok (.iadd, 1) := by decide +kernel
theorem d_M_fromPolygon_87 : decode b_M_fromPolygon 87 = .ok (.laload, 1) := by decide +kernel
theorem d_M_fromPolygon_88 : decode b_M_fromPolygon 88 = .ok (.aload_n 0, 1) := by decide +kernel
theorem d_M_fromPolygon_89 : decode b_M_fromPolygon 89 = .ok (.getfield 62, 3) := by decide +kernel
theorem d_M_fromPolygon_92 : decode b_M_fromPolygon 92 = .ok (.bipush 8, 2) := by decide +kernel
theorem d_M_fromPolygon_94 : decode b_M_fromPolygon 94 = .ok (.iload_n 1, 1) := by decide +kernel
theorem d_M_fromPolygon_95 : decode b_M_fromPolygon 95 = .ok (.imul, 1) := by decide +kernel
theorem d_M_fromPolygon_96 : decode b_M_fromPolygon 96 = .ok (.iload 10, 2) := by decide +kernel
theorem d_M_fromPolygon_98 : decode b_M_fromPolygon 98 = .ok (.iadd, 1) := by decide +kernel
theorem d_M_fromPolygon_99 : decode b_M_fromPolygon 99 = .ok (.laload, 1) := by decide +kernel
theorem d_M_fromPolygon_100 : decode b_M_fromPolygon 100 = .ok (.lload 6, 2) := by decide +kernel
theorem d_M_fromPolygon_102 : decode b_M_fromPolygon 102 = .ok (.invokestatic 202, 3) := by decide +kernel
theorem d_M_fromPolygon_105 : decode b_M_fromPolygon 105 = .ok (.istore 11, 2) := by decide +kernel
theorem d_M_fromPolygon_107 : decode b_M_fromPolygon 107 = .ok (.iload 11, 2) := by decide +kernel
theorem d_M_fromPolygon_109 : decode b_M_fromPolygon 109 = .ok (.iload 8, 2) := by decide +kernel
theorem d_M_fromPolygon_111 : decode b_M_fromPolygon 111 = .ok (.if_icmp .le 8, 3) := by decide +kernel
theorem d_M_fromPolygon_114 : decode b_M_fromPolygon 114 = .ok (.iload 11, 2) := by decide +kernel
theorem d_M_fromPolygon_116 : decode b_M_fromPolygon 116 = .ok (.goto 5, 3) := by decide +kernel
theorem d_M_fromPolygon_119 : decode b_M_fromPolygon 119 = .ok (.iload 8, 2) := by decide +kernel
theorem d_M_fromPolygon_121 : decode b_M_fromPolygon 121 = .ok (.istore 8, 2) := by decide +kernel
theorem d_M_fromPolygon_123 : decode b_M_fromPolygon 123 = .ok (.iinc 9 1, 3) := by decide +kernel
theorem d_M_fromPolygon_126 : decode b_M_fromPolygon 126 = .ok (.goto (-101), 3) := by decide +kernel
theorem d_M_fromPolygon_129 : decode b_M_fromPolygon 129 = .ok (.iload 8, 2) := by decide +kernel
theorem d_M_fromPolygon_131 : decode b_M_fromPolygon 131 = .ok (.ireturn, 1) := by decide +kernel
abbrev rm_M_fromPolygon : Room := { frames := 2, cells := 0, slots := 0, locals := 70 }
theorem ce_M_fromPolygon : gCe y_M_fromPolygon (.code y_M_fromPolygon b_M_fromPolygon 12 (some .int)) 12 4 false := gCe.code wd_1043 wd_57 wd_1042 (by decide) (by decide +kernel)
def f_M_fromPolygon_L25 (g0 : gG) (c0 : Nat) (c1 : Int32) (c2 : Int64) (c4 : Int64) (c6 : Int64) (K129 : Int32 → gW → gX Int32) : Nat → Int32 → Int32 → gW → gX Int32
  | 0, _, _, _ => none
  | n + 1, z8, z9, w => (gfA w c0 7 21).bind fun v8 => (gaI w v8 c1).bind fun v10 => if v10 ≤ z9 then (K129 z8 w) else ((gfA w c0 7 21).bind fun v13 => (gaI w v13 c1).bind fun v15 => gguard (¬ v15 = 0) ((gfA w c0 7 22).bind fun v18 => (gaJ w v18 ((8 * c1) + z9)).bind fun v20 => (gfA w c0 7 23).bind fun v22 => (gaJ w v22 ((8 * c1) + z9)).bind fun v24 => (gfA w c0 7 22).bind fun v26 => (gaJ w v26 ((8 * c1) + ((z9 + 1) - (z9 + 1) / v15 * v15))).bind fun v28 => (gfA w c0 7 23).bind fun v30 => (gaJ w v30 ((8 * c1) + ((z9 + 1) - (z9 + 1) / v15 * v15))).bind fun v32 => gbind (f_M_fromPiece g0 c2 c4 v20 v24 v28 v32 c6 w) fun v36 w => gjoin (fun K121 => if v36 ≤ z8 then (K121 z8 w) else (K121 v36 w)) (fun (y37 : Int32) (w : gW) => f_M_fromPolygon_L25 g0 c0 c1 c2 c4 c6 K129 n y37 (z9 + 1) w)))
def f_M_fromPolygon (g0 : gG) (a0 : Nat) (p1 : Int32) (p2 : Int64) (p3 : Int64) (p4 : Int64) (w : gW) : gX Int32 := (gck w a0 7).bind fun _ => gbind (f_M_isIn g0 a0 p1 p2 p3 w) fun v5 w => if v5 = 0 then (gjoin (fun K129 => f_M_fromPolygon_L25 g0 a0 p1 p2 p3 p4 K129 64 0 0 w) (fun (x7 : Int32) (w : gW) => some (.inr x7, w))) else (gbind (f_M_common g0 (0 - p4) w) fun v43 w => some (.inr v43, w))
set_option maxHeartbeats 4000000 in
set_option maxRecDepth 100000 in
theorem m_M_fromPolygon (l : Launch) (hst : l.stackTraces = false) (D : gD) (g0 : gG) (a0 : Nat) (p1 : Int32) (p2 : Int64) (p3 : Int64) (p4 : Int64) (w : gW) (r : (String ⊕ Int32) × gW) (h : f_M_fromPolygon g0 a0 p1 p2 p3 p4 w = some r) : gMet l y_M_fromPolygon (.code y_M_fromPolygon b_M_fromPolygon 12 (some .int)) rm_M_fromPolygon D g0 [.ref a0, .int p1, .long p2, .long p3, .long p4] w (goI r) := by
  refine gw_ofI (by decide +kernel) (Nat.le_of_ble_eq_true rfl) ?_
  intro p e s m below meth c ls args A Q hx hb hml hown hlocks hin hnt hT hK hZ hA hret hexc hthr hI hl
  obtain ⟨H, hH⟩ : ∃ H, H = s.heap := ⟨_, rfl⟩
  rw [← hH] at hI ⊢
  obtain ⟨locs, hlocs⟩ : ∃ z : List Loc, z = [] := ⟨_, rfl⟩
  rw [← hlocs] at hI ⊢
  have hl : lv_has ls 12 [(0, .ref a0), (1, .int p1), (2, .long p2), (4, .long p3), (6, .long p4)] := hl
  unfold f_M_fromPolygon at h
  refine lv_aload_n hx hb d_M_fromPolygon_0 rfl (lv_at hl 0 rfl) ?_
  refine lv_iload_n hx hb d_M_fromPolygon_1 rfl (lv_at hl 1 rfl) ?_
  refine lv_lload_n hx hb d_M_fromPolygon_2 rfl (lv_at hl 2 rfl) ?_
  refine lv_lload hx hb d_M_fromPolygon_3 (lv_at hl 3 rfl) ?_
  obtain ⟨q3, e4, h⟩ := gb h
  obtain ⟨u1, e2⟩ := gsome h
  refine gw_callI e2 h (gw_runV (As := [.int p1, .long p2, .long p3]) (rest := []) hx hb hml hown hT hK hZ hA hI (ci := 7) rfl e4 (m_M_isIn l hst D g0 a0 p1 p2 p3 w u1 e2) ce_M_isIn wd_1044 wd_40 ⟨by decide, by decide⟩ rfl rfl hl.1 rfl (lv_room (Nat.le_of_ble_eq_true rfl)) d_M_fromPolygon_5 ⟨(show 0 + 0 ≤ 0 by omega), (show 0 + 0 ≤ 0 by omega)⟩) hI hA hexc (show 0 + 0 ≤ 0 by omega) (show 0 + 0 ≤ 0 by omega) (fun v5 w H locs h hI => ?_)
  refine lv_if_eq (tgt := 19) hx hb d_M_fromPolygon_8 (by decide) (fun c6 => ?_) (fun c6 => ?_)
  · skip
    have h := git c6 h
    refine lv_iconst (v := 0) hx hb d_M_fromPolygon_19 (by decide) ?_
    refine lv_istore (lv' := [(8, .int 0), (0, .ref a0), (1, .int p1), (2, .long p2), (4, .long p3), (6, .long p4)]) hx hb d_M_fromPolygon_20 hl (by decide) rfl (fun ls hl => ?_)
    refine lv_iconst (v := 0) hx hb d_M_fromPolygon_22 (by decide) ?_
    refine lv_istore (lv' := [(9, .int 0), (8, .int 0), (0, .ref a0), (1, .int p1), (2, .long p2), (4, .long p3), (6, .long p4)]) hx hb d_M_fromPolygon_23 hl (by decide) rfl (fun ls hl => ?_)
    obtain ⟨K129, eK129, h⟩ := gj h
    have hK129 : ∀ (x7 : Int32) (w : gW) (H : Heap) (locs : List Loc) (ls : Array Slot), K129 x7 w = some r → gI D s A w H locs → lv_has ls 12 [(8, .int x7)] → W p l e rm_M_fromPolygon s m args below meth c H locs 0 0 Q (F0 m 129 ls []) := by
      intro x7 w H locs ls h hI hl
      have h := gk2 eK129 h
      refine lv_iload hx hb d_M_fromPolygon_129 (lv_at hl 0 rfl) ?_
      exact W.widen (show 0 ≤ 0 by omega) (show 0 ≤ 0 by omega) (hret _ _ (Option.some.inj h).symm _ _ _ _ d_M_fromPolygon_131 hI)
    have hL25 : ∀ (n : Nat), ∀ (z8 : Int32) (z9 : Int32) (w : gW) (H : Heap) (locs : List Loc) (ls : Array Slot), f_M_fromPolygon_L25 g0 a0 p1 p2 p3 p4 K129 n z8 z9 w = some r → gI D s A w H locs → lv_has ls 12 [(0, .ref a0), (1, .int p1), (2, .long p2), (4, .long p3), (6, .long p4), (8, .int z8), (9, .int z9)] → W p l e rm_M_fromPolygon s m args below meth c H locs 0 0 Q (F0 m 25 ls []) := by
      intro n
      induction n with
      | zero => intro z8 z9 w H locs ls h hI hl; exact absurd h (by simp [f_M_fromPolygon_L25])
      | succ n ih =>
        intro z8 z9 w H locs ls h hI hl
        rw [f_M_fromPolygon_L25] at h
        refine lv_iload hx hb d_M_fromPolygon_25 (lv_at hl 6 rfl) ?_
        refine lv_aload_n hx hb d_M_fromPolygon_27 rfl (lv_at hl 0 rfl) ?_
        obtain ⟨v10, e11, h⟩ := gb h
        refine gw_getA hx hb hT hown hK hI (ci := 7) rfl i_7 21 (by decide) wd_807 (fun _ h9 => h9) e11 d_M_fromPolygon_28 ?_
        refine lv_iload_n hx hb d_M_fromPolygon_31 rfl (lv_at hl 1 rfl) ?_
        obtain ⟨v12, e13, h⟩ := gb h
        refine gw_aldI hx hb hK hI e13 d_M_fromPolygon_32 ?_
        refine lv_icmp_ge (tgt := 129) hx hb d_M_fromPolygon_33 (by decide) (fun c14 => ?_) (fun c14 => ?_)
        · skip
          have h := git c14 h
          exact hK129 _ w H locs ls h hI (lv_sub hl [5] rfl)
        · skip
          have h := gie c14 h
          refine lv_iload hx hb d_M_fromPolygon_36 (lv_at hl 6 rfl) ?_
          refine lv_iconst (v := 1) hx hb d_M_fromPolygon_38 (by decide) ?_
          refine lv_iadd hx hb d_M_fromPolygon_39 ?_
          refine lv_aload_n hx hb d_M_fromPolygon_40 rfl (lv_at hl 0 rfl) ?_
          obtain ⟨v15, e16, h⟩ := gb h
          refine gw_getA hx hb hT hown hK hI (ci := 7) rfl i_7 21 (by decide) wd_807 (fun _ h9 => h9) e16 d_M_fromPolygon_41 ?_
          refine lv_iload_n hx hb d_M_fromPolygon_44 rfl (lv_at hl 1 rfl) ?_
          obtain ⟨v17, e18, h⟩ := gb h
          refine gw_aldI hx hb hK hI e18 d_M_fromPolygon_45 ?_
          obtain ⟨g19, h⟩ := gif h
          refine lv_irem hx hb d_M_fromPolygon_46 g19 ?_
          refine lv_istore (lv' := [(10, .int ((z9 + 1) - (z9 + 1) / v17 * v17)), (0, .ref a0), (1, .int p1), (2, .long p2), (4, .long p3), (6, .long p4), (8, .int z8), (9, .int z9)]) hx hb d_M_fromPolygon_47 hl (by decide) rfl (fun ls hl => ?_)
          refine lv_lload_n hx hb d_M_fromPolygon_49 rfl (lv_at hl 3 rfl) ?_
          refine lv_lload hx hb d_M_fromPolygon_50 (lv_at hl 4 rfl) ?_
          refine lv_aload_n hx hb d_M_fromPolygon_52 rfl (lv_at hl 1 rfl) ?_
          obtain ⟨v20, e21, h⟩ := gb h
          refine gw_getA hx hb hT hown hK hI (ci := 7) rfl i_7 22 (by decide) wd_808 (fun _ h9 => h9) e21 d_M_fromPolygon_53 ?_
          refine lv_bipush (v := 8) hx hb d_M_fromPolygon_56 (by decide) ?_
          refine lv_iload_n hx hb d_M_fromPolygon_58 rfl (lv_at hl 2 rfl) ?_
          refine lv_imul hx hb d_M_fromPolygon_59 ?_
          refine lv_iload hx hb d_M_fromPolygon_60 (lv_at hl 7 rfl) ?_
          refine lv_iadd hx hb d_M_fromPolygon_62 ?_
          obtain ⟨v22, e23, h⟩ := gb h
          refine gw_aldJ hx hb hK hI e23 d_M_fromPolygon_63 ?_
          refine lv_aload_n hx hb d_M_fromPolygon_64 rfl (lv_at hl 1 rfl) ?_
          obtain ⟨v24, e25, h⟩ := gb h
          refine gw_getA hx hb hT hown hK hI (ci := 7) rfl i_7 23 (by decide) wd_809 (fun _ h9 => h9) e25 d_M_fromPolygon_65 ?_
          refine lv_bipush (v := 8) hx hb d_M_fromPolygon_68 (by decide) ?_
          refine lv_iload_n hx hb d_M_fromPolygon_70 rfl (lv_at hl 2 rfl) ?_
          refine lv_imul hx hb d_M_fromPolygon_71 ?_
          refine lv_iload hx hb d_M_fromPolygon_72 (lv_at hl 7 rfl) ?_
          refine lv_iadd hx hb d_M_fromPolygon_74 ?_
          obtain ⟨v26, e27, h⟩ := gb h
          refine gw_aldJ hx hb hK hI e27 d_M_fromPolygon_75 ?_
          refine lv_aload_n hx hb d_M_fromPolygon_76 rfl (lv_at hl 1 rfl) ?_
          obtain ⟨v28, e29, h⟩ := gb h
          refine gw_getA hx hb hT hown hK hI (ci := 7) rfl i_7 22 (by decide) wd_808 (fun _ h9 => h9) e29 d_M_fromPolygon_77 ?_
          refine lv_bipush (v := 8) hx hb d_M_fromPolygon_80 (by decide) ?_
          refine lv_iload_n hx hb d_M_fromPolygon_82 rfl (lv_at hl 2 rfl) ?_
          refine lv_imul hx hb d_M_fromPolygon_83 ?_
          refine lv_iload hx hb d_M_fromPolygon_84 (lv_at hl 0 rfl) ?_
          refine lv_iadd hx hb d_M_fromPolygon_86 ?_
          obtain ⟨v30, e31, h⟩ := gb h
          refine gw_aldJ hx hb hK hI e31 d_M_fromPolygon_87 ?_
          refine lv_aload_n hx hb d_M_fromPolygon_88 rfl (lv_at hl 1 rfl) ?_
          obtain ⟨v32, e33, h⟩ := gb h
          refine gw_getA hx hb hT hown hK hI (ci := 7) rfl i_7 23 (by decide) wd_809 (fun _ h9 => h9) e33 d_M_fromPolygon_89 ?_
          refine lv_bipush (v := 8) hx hb d_M_fromPolygon_92 (by decide) ?_
          refine lv_iload_n hx hb d_M_fromPolygon_94 rfl (lv_at hl 2 rfl) ?_
          refine lv_imul hx hb d_M_fromPolygon_95 ?_
          refine lv_iload hx hb d_M_fromPolygon_96 (lv_at hl 0 rfl) ?_
          refine lv_iadd hx hb d_M_fromPolygon_98 ?_
          obtain ⟨v34, e35, h⟩ := gb h
          refine gw_aldJ hx hb hK hI e35 d_M_fromPolygon_99 ?_
          refine lv_lload hx hb d_M_fromPolygon_100 (lv_at hl 5 rfl) ?_
          obtain ⟨u36, e37⟩ := gsome h
          refine gw_callI e37 h (gw_runS (As := [.long p2, .long p3, .long v22, .long v26, .long v30, .long v34, .long p4]) (rest := []) hx hb hml hown hT hK hZ hA hI (m_M_fromPiece l hst D g0 p2 p3 v22 v26 v30 v34 p4 w u36 e37) ce_M_fromPiece wd_1048 ⟨by decide, by decide⟩ rfl rfl hl.1 rfl (lv_room (Nat.le_of_ble_eq_true rfl)) d_M_fromPolygon_102 ⟨(show 0 + 0 ≤ 0 by omega), (show 0 + 0 ≤ 0 by omega)⟩) hI hA hexc (show 0 + 0 ≤ 0 by omega) (show 0 + 0 ≤ 0 by omega) (fun v38 w H locs h hI => ?_)
          refine lv_istore (lv' := [(11, .int v38), (10, .int ((z9 + 1) - (z9 + 1) / v17 * v17)), (0, .ref a0), (1, .int p1), (2, .long p2), (4, .long p3), (6, .long p4), (8, .int z8), (9, .int z9)]) hx hb d_M_fromPolygon_105 hl (by decide) rfl (fun ls hl => ?_)
          refine lv_iload hx hb d_M_fromPolygon_107 (lv_at hl 0 rfl) ?_
          refine lv_iload hx hb d_M_fromPolygon_109 (lv_at hl 7 rfl) ?_
          obtain ⟨K121, eK121, h⟩ := gj h
          have hK121 : ∀ (y39 : Int32) (w : gW) (H : Heap) (locs : List Loc) (ls : Array Slot), K121 y39 w = some r → gI D s A w H locs → lv_has ls 12 [(0, .ref a0), (1, .int p1), (2, .long p2), (4, .long p3), (6, .long p4), (9, .int z9)] → W p l e rm_M_fromPolygon s m args below meth c H locs 0 0 Q (F0 m 121 ls [.int y39]) := by
            intro y39 w H locs ls h hI hl
            have h := gk2 eK121 h
            refine lv_istore (lv' := [(8, .int y39), (0, .ref a0), (1, .int p1), (2, .long p2), (4, .long p3), (6, .long p4), (9, .int z9)]) hx hb d_M_fromPolygon_121 hl (by decide) rfl (fun ls hl => ?_)
            refine lv_iinc (v := z9 + 1) (lv' := [(9, .int (z9 + 1)), (8, .int y39), (0, .ref a0), (1, .int p1), (2, .long p2), (4, .long p3), (6, .long p4)]) hx hb d_M_fromPolygon_123 hl (k := 6) rfl rfl (by decide) rfl (fun ls hl => ?_)
            refine lv_goto (tgt := 25) hx hb d_M_fromPolygon_126 (by decide) ?_
            exact ih _ _ w H locs ls h hI (lv_sub hl [2, 3, 4, 5, 6, 1, 0] rfl)
          refine lv_icmp_le (tgt := 119) hx hb d_M_fromPolygon_111 (by decide) (fun c40 => ?_) (fun c40 => ?_)
          · skip
            have h := git c40 h
            refine lv_iload hx hb d_M_fromPolygon_119 (lv_at hl 7 rfl) ?_
            exact hK121 _ w H locs ls h hI (lv_sub hl [2, 3, 4, 5, 6, 8] rfl)
          · skip
            have h := gie c40 h
            refine lv_iload hx hb d_M_fromPolygon_114 (lv_at hl 0 rfl) ?_
            refine lv_goto (tgt := 121) hx hb d_M_fromPolygon_116 (by decide) ?_
            exact hK121 _ w H locs ls h hI (lv_sub hl [2, 3, 4, 5, 6, 8] rfl)
    exact hL25 64 _ _ w H locs ls h hI (lv_sub hl [2, 3, 4, 5, 6, 1, 0] rfl)
  · skip
    have h := gie c6 h
    refine lv_lconst (v := 0) hx hb d_M_fromPolygon_11 (by decide) ?_
    refine lv_lload hx hb d_M_fromPolygon_12 (lv_at hl 4 rfl) ?_
    refine lv_lsub hx hb d_M_fromPolygon_14 ?_
    obtain ⟨u41, e42⟩ := gsome h
    refine gw_callI e42 h (gw_runS (As := [.long (0 - p4)]) (rest := []) hx hb hml hown hT hK hZ hA hI (m_M_common l hst D g0 (0 - p4) w u41 e42) ce_M_common wd_1028 ⟨by decide, by decide⟩ rfl rfl hl.1 rfl (lv_room (Nat.le_of_ble_eq_true rfl)) d_M_fromPolygon_15 ⟨(show 0 + 0 ≤ 0 by omega), (show 0 + 0 ≤ 0 by omega)⟩) hI hA hexc (show 0 + 0 ≤ 0 by omega) (show 0 + 0 ≤ 0 by omega) (fun v43 w H locs h hI => ?_)
    exact W.widen (show 0 ≤ 0 by omega) (show 0 ≤ 0 by omega) (hret _ _ (Option.some.inj h).symm _ _ _ _ d_M_fromPolygon_18 hI)

abbrev b_M_bases : ByteArray := prog_9_method_50_code
def y_M_bases : MethodName := ⟨"BodySolidsModel", "bases", "()I"⟩
theorem d_M_bases_0 : decode b_M_bases 0 = .ok (.aload_n 0, 1) := by decide +kernel
theorem d_M_bases_1 : decode b_M_bases 1 = .ok (.getfield 53, 3) := by decide +kernel
theorem d_M_bases_4 : decode b_M_bases 4 = .ok (.iconst 0, 1) := by decide +kernel
theorem d_M_bases_5 : decode b_M_bases 5 = .ok (.iaload, 1) := by decide +kernel
theorem d_M_bases_6 : decode b_M_bases 6 = .ok (.iconst 2, 1) := by decide +kernel
theorem d_M_bases_7 : decode b_M_bases 7 = .ok (.if_icmp .ne 18, 3) := by decide +kernel
theorem d_M_bases_10 : decode b_M_bases 10 = .ok (.aload_n 0, 1) := by decide +kernel
theorem d_M_bases_11 : decode b_M_bases 11 = .ok (.getfield 53, 3) := by decide +kernel
theorem d_M_bases_14 : decode b_M_bases 14 = .ok (.iconst 1, 1) := by decide +kernel
theorem d_M_bases_15 : decode b_M_bases 15 = .ok (.iaload, 1) := by decide +kernel
theorem d_M_bases_16 : decode b_M_bases 16 = .ok (.iconst 2, 1) := by decide +kernel
theorem d_M_bases_17 : decode b_M_bases 17 = .ok (.if_icmp .ne 8, 3) := by decide +kernel
theorem d_M_bases_20 : decode b_M_bases 20 = .ok (.aload_n 0, 1) := by decide +kernel
theorem d_M_bases_21 : decode b_M_bases 21 = .ok (.invokevirtual 235, 3) := by decide +kernel
theorem d_M_bases_24 : decode b_M_bases 24 = .ok (.ireturn, 1) := by decide +kernel
theorem d_M_bases_25 : decode b_M_bases 25 = .ok (.aload_n 0, 1) := by decide +kernel
theorem d_M_bases_26 : decode b_M_bases 26 = .ok (.getfield 53, 3) := by decide +kernel
theorem d_M_bases_29 : decode b_M_bases 29 = .ok (.iconst 0, 1) := by decide +kernel
theorem d_M_bases_30 : decode b_M_bases 30 = .ok (.iaload, 1) := by decide +kernel
theorem d_M_bases_31 : decode b_M_bases 31 = .ok (.iconst 2, 1) := by decide +kernel
theorem d_M_bases_32 : decode b_M_bases 32 = .ok (.if_icmp .ne 36, 3) := by decide +kernel
theorem d_M_bases_35 : decode b_M_bases 35 = .ok (.aload_n 0, 1) := by decide +kernel
theorem d_M_bases_36 : decode b_M_bases 36 = .ok (.iconst 0, 1) := by decide +kernel
theorem d_M_bases_37 : decode b_M_bases 37 = .ok (.aload_n 0, 1) := by decide +kernel
theorem d_M_bases_38 : decode b_M_bases 38 = .ok (.getfield 59, 3) := by decide +kernel
theorem d_M_bases_41 : decode b_M_bases 41 = .ok (.bipush 8, 2) := by decide +kernel
theorem d_M_bases_43 : decode b_M_bases 43 = .ok (.laload, 1) := by decide +kernel
theorem d_M_bases_44 : decode b_M_bases 44 = .ok (.aload_n 0, 1) := by decide +kernel
theorem d_M_bases_45 : decode b_M_bases 45 = .ok (.getfield 62, 3) := by decide +kernel
theorem d_M_bases_48 : decode b_M_bases 48 = .ok (.bipush 8, 2) := by decide +kernel
theorem d_M_bases_50 : decode b_M_bases 50 = .ok (.laload, 1) := by decide +kernel
theorem d_M_bases_51 : decode b_M_bases 51 = .ok (.aload_n 0, 1) := by decide +kernel
theorem d_M_bases_52 : decode b_M_bases 52 = .ok (.getfield 65, 3) := by decide +kernel
theorem d_M_bases_55 : decode b_M_bases 55 = .ok (.iconst 1, 1) := by decide +kernel
theorem d_M_bases_56 : decode b_M_bases 56 = .ok (.laload, 1) := by decide +kernel
theorem d_M_bases_57 : decode b_M_bases 57 = .ok (.aload_n 0, 1) := by decide +kernel
theorem d_M_bases_58 : decode b_M_bases 58 = .ok (.getfield 65, 3) := by decide +kernel
theorem d_M_bases_61 : decode b_M_bases 61 = .ok (.iconst 1, 1) := by decide +kernel
theorem d_M_bases_62 : decode b_M_bases 62 = .ok (.laload, 1) := by decide +kernel
theorem d_M_bases_63 : decode b_M_bases 63 = .ok (.lmul, 1) := by decide +kernel
theorem d_M_bases_64 : decode b_M_bases 64 = .ok (.invokevirtual 208, 3) := by decide +kernel
theorem d_M_bases_67 : decode b_M_bases 67 = .ok (.ireturn, 1) := by decide +kernel
theorem d_M_bases_68 : decode b_M_bases 68 = .ok (.aload_n 0, 1) := by decide +kernel
theorem d_M_bases_69 : decode b_M_bases 69 = .ok (.getfield 53, 3) := by decide +kernel
theorem d_M_bases_72 : decode b_M_bases 72 = .ok (.iconst 1, 1) := by decide +kernel
theorem d_M_bases_73 : decode b_M_bases 73 = .ok (.iaload, 1) := by decide +kernel
theorem d_M_bases_74 : decode b_M_bases 74 = .ok (.iconst 2, 1) := by decide +kernel
theorem d_M_bases_75 : decode b_M_bases 75 = .ok (.if_icmp .ne 34, 3) := by decide +kernel
theorem d_M_bases_78 : decode b_M_bases 78 = .ok (.aload_n 0, 1) := by decide +kernel
theorem d_M_bases_79 : decode b_M_bases 79 = .ok (.iconst 1, 1) := by decide +kernel
theorem d_M_bases_80 : decode b_M_bases 80 = .ok (.aload_n 0, 1) := by decide +kernel
theorem d_M_bases_81 : decode b_M_bases 81 = .ok (.getfield 59, 3) := by decide +kernel
theorem d_M_bases_84 : decode b_M_bases 84 = .ok (.iconst 0, 1) := by decide +kernel
theorem d_M_bases_85 : decode b_M_bases 85 = .ok (.laload, 1) := by decide +kernel
theorem d_M_bases_86 : decode b_M_bases 86 = .ok (.aload_n 0, 1) := by decide +kernel
theorem d_M_bases_87 : decode b_M_bases 87 = .ok (.getfield 62, 3) := by decide +kernel
theorem d_M_bases_90 : decode b_M_bases 90 = .ok (.iconst 0, 1) := by decide +kernel
theorem d_M_bases_91 : decode b_M_bases 91 = .ok (.laload, 1) := by decide +kernel
theorem d_M_bases_92 : decode b_M_bases 92 = .ok (.aload_n 0, 1) := by decide +kernel
theorem d_M_bases_93 : decode b_M_bases 93 = .ok (.getfield 65, 3) := by decide +kernel
theorem d_M_bases_96 : decode b_M_bases 96 = .ok (.iconst 0, 1) := by decide +kernel
theorem d_M_bases_97 : decode b_M_bases 97 = .ok (.laload, 1) := by decide +kernel
theorem d_M_bases_98 : decode b_M_bases 98 = .ok (.aload_n 0, 1) := by decide +kernel
theorem d_M_bases_99 : decode b_M_bases 99 = .ok (.getfield 65, 3) := by decide +kernel
theorem d_M_bases_102 : decode b_M_bases 102 = .ok (.iconst 0, 1) := by decide +kernel
theorem d_M_bases_103 : decode b_M_bases 103 = .ok (.laload, 1) := by decide +kernel
theorem d_M_bases_104 : decode b_M_bases 104 = .ok (.lmul, 1) := by decide +kernel
theorem d_M_bases_105 : decode b_M_bases 105 = .ok (.invokevirtual 208, 3) := by decide +kernel
theorem d_M_bases_108 : decode b_M_bases 108 = .ok (.ireturn, 1) := by decide +kernel
theorem d_M_bases_109 : decode b_M_bases 109 = .ok (.aload_n 0, 1) := by decide +kernel
theorem d_M_bases_110 : decode b_M_bases 110 = .ok (.getfield 65, 3) := by decide +kernel
theorem d_M_bases_113 : decode b_M_bases 113 = .ok (.iconst 0, 1) := by decide +kernel
theorem d_M_bases_114 : decode b_M_bases 114 = .ok (.laload, 1) := by decide +kernel
theorem d_M_bases_115 : decode b_M_bases 115 = .ok (.aload_n 0, 1) := by decide +kernel
theorem d_M_bases_116 : decode b_M_bases 116 = .ok (.getfield 65, 3) := by decide +kernel
theorem d_M_bases_119 : decode b_M_bases 119 = .ok (.iconst 1, 1) := by decide +kernel
theorem d_M_bases_120 : decode b_M_bases 120 = .ok (.laload, 1) := by decide +kernel
theorem d_M_bases_121 : decode b_M_bases 121 = .ok (.ladd, 1) := by decide +kernel
theorem d_M_bases_122 : decode b_M_bases 122 = .ok (.lstore_n 1, 1) := by decide +kernel
theorem d_M_bases_123 : decode b_M_bases 123 = .ok (.aload_n 0, 1) := by decide +kernel
theorem d_M_bases_124 : decode b_M_bases 124 = .ok (.getfield 59, 3) := by decide +kernel
theorem d_M_bases_127 : decode b_M_bases 127 = .ok (.iconst 0, 1) := by decide +kernel
theorem d_M_bases_128 : decode b_M_bases 128 = .ok (.laload, 1) := by decide +kernel
theorem d_M_bases_129 : decode b_M_bases 129 = .ok (.aload_n 0, 1) := by decide +kernel
theorem d_M_bases_130 : decode b_M_bases 130 = .ok (.getfield 59, 3) := by decide +kernel
theorem d_M_bases_133 : decode b_M_bases 133 = .ok (.bipush 8, 2) := by decide +kernel
theorem d_M_bases_135 : decode b_M_bases 135 = .ok (.laload, 1) := by decide +kernel
theorem d_M_bases_136 : decode b_M_bases 136 = .ok (.lsub, 1) := by decide +kernel
theorem d_M_bases_137 : decode b_M_bases 137 = .ok (.aload_n 0, 1) := by decide +kernel
theorem d_M_bases_138 : decode b_M_bases 138 = .ok (.getfield 62, 3) := by decide +kernel
theorem d_M_bases_141 : decode b_M_bases 141 = .ok (.iconst 0, 1) := by decide +kernel
theorem d_M_bases_142 : decode b_M_bases 142 = .ok (.laload, 1) := by decide +kernel
theorem d_M_bases_143 : decode b_M_bases 143 = .ok (.aload_n 0, 1) := by decide +kernel
theorem d_M_bases_144 : decode b_M_bases 144 = .ok (.getfield 62, 3) := by decide +kernel
theorem d_M_bases_147 : decode b_M_bases 147 = .ok (.bipush 8, 2) := by decide +kernel
theorem d_M_bases_149 : decode b_M_bases 149 = .ok (.laload, 1) := by decide +kernel
theorem d_M_bases_150 : decode b_M_bases 150 = .ok (.lsub, 1) := by decide +kernel
theorem d_M_bases_151 : decode b_M_bases 151 = .ok (.invokestatic 194, 3) := by decide +kernel
theorem d_M_bases_154 : decode b_M_bases 154 = .ok (.lload_n 1, 1) := by decide +kernel
theorem d_M_bases_155 : decode b_M_bases 155 = .ok (.lload_n 1, 1) := by decide +kernel
theorem d_M_bases_156 : decode b_M_bases 156 = .ok (.lmul, 1) := by decide +kernel
theorem d_M_bases_157 : decode b_M_bases 157 = .ok (.lsub, 1) := by decide +kernel
theorem d_M_bases_158 : decode b_M_bases 158 = .ok (.invokestatic 186, 3) := by decide +kernel
theorem d_M_bases_161 : decode b_M_bases 161 = .ok (.ireturn, 1) := by decide +kernel
abbrev rm_M_bases : Room := { frames := 3, cells := 0, slots := 0, locals := 101 }
theorem ce_M_bases : gCe y_M_bases (.code y_M_bases b_M_bases 3 (some .int)) 3 0 false := gCe.code wd_1058 wd_57 wd_1057 (by decide) (by decide +kernel)
def f_M_bases (g0 : gG) (a0 : Nat) (w : gW) : gX Int32 := (gfA w a0 7 20).bind fun v1 => (gaI w v1 0).bind fun v3 => gjoin (fun K25 => if v3 = 2 then ((gfA w a0 7 20).bind fun v88 => (gaI w v88 1).bind fun v90 => if v90 = 2 then ((gck w a0 7).bind fun _ => gbind (f_M_polygons g0 a0 w) fun v97 w => some (.inr v97, w)) else (K25 w)) else (K25 w)) (fun (w : gW) => (gfA w a0 7 20).bind fun v5 => (gaI w v5 0).bind fun v7 => if v7 = 2 then ((gfA w a0 7 22).bind fun v66 => (gaJ w v66 8).bind fun v68 => (gfA w a0 7 23).bind fun v70 => (gaJ w v70 8).bind fun v72 => (gfA w a0 7 24).bind fun v74 => (gaJ w v74 1).bind fun v76 => (gfA w a0 7 24).bind fun v78 => (gaJ w v78 1).bind fun v80 => (gck w a0 7).bind fun _ => gbind (f_M_fromPolygon g0 a0 0 v68 v72 (v76 * v80) w) fun v86 w => some (.inr v86, w)) else ((gfA w a0 7 20).bind fun v10 => (gaI w v10 1).bind fun v12 => if v12 = 2 then ((gfA w a0 7 22).bind fun v45 => (gaJ w v45 0).bind fun v47 => (gfA w a0 7 23).bind fun v49 => (gaJ w v49 0).bind fun v51 => (gfA w a0 7 24).bind fun v53 => (gaJ w v53 0).bind fun v55 => (gfA w a0 7 24).bind fun v57 => (gaJ w v57 0).bind fun v59 => (gck w a0 7).bind fun _ => gbind (f_M_fromPolygon g0 a0 1 v47 v51 (v55 * v59) w) fun v65 w => some (.inr v65, w)) else ((gfA w a0 7 24).bind fun v15 => (gaJ w v15 0).bind fun v17 => (gfA w a0 7 24).bind fun v19 => (gaJ w v19 1).bind fun v21 => (gfA w a0 7 22).bind fun v23 => (gaJ w v23 0).bind fun v25 => (gfA w a0 7 22).bind fun v27 => (gaJ w v27 8).bind fun v29 => (gfA w a0 7 23).bind fun v31 => (gaJ w v31 0).bind fun v33 => (gfA w a0 7 23).bind fun v35 => (gaJ w v35 8).bind fun v37 => gbind (f_M_square g0 (v25 - v29) (v33 - v37) w) fun v41 w => gbind (f_M_common g0 (v41 - ((v17 + v21) * (v17 + v21))) w) fun v44 w => some (.inr v44, w))))
set_option maxHeartbeats 4000000 in
set_option maxRecDepth 100000 in
theorem m_M_bases (l : Launch) (hst : l.stackTraces = false) (D : gD) (g0 : gG) (a0 : Nat) (w : gW) (r : (String ⊕ Int32) × gW) (h : f_M_bases g0 a0 w = some r) : gMet l y_M_bases (.code y_M_bases b_M_bases 3 (some .int)) rm_M_bases D g0 [.ref a0] w (goI r) := by
  refine gw_ofI (by decide +kernel) (Nat.le_of_ble_eq_true rfl) ?_
  intro p e s m below meth c ls args A Q hx hb hml hown hlocks hin hnt hT hK hZ hA hret hexc hthr hI hl
  obtain ⟨H, hH⟩ : ∃ H, H = s.heap := ⟨_, rfl⟩
  rw [← hH] at hI ⊢
  obtain ⟨locs, hlocs⟩ : ∃ z : List Loc, z = [] := ⟨_, rfl⟩
  rw [← hlocs] at hI ⊢
  have hl : lv_has ls 3 [(0, .ref a0)] := hl
  unfold f_M_bases at h
  refine lv_aload_n hx hb d_M_bases_0 rfl (lv_at hl 0 rfl) ?_
  obtain ⟨v1, e2, h⟩ := gb h
  refine gw_getA hx hb hT hown hK hI (ci := 7) rfl i_7 20 (by decide) wd_806 (fun _ h9 => h9) e2 d_M_bases_1 ?_
  refine lv_iconst (v := 0) hx hb d_M_bases_4 (by decide) ?_
  obtain ⟨v3, e4, h⟩ := gb h
  refine gw_aldI hx hb hK hI e4 d_M_bases_5 ?_
  refine lv_iconst (v := 2) hx hb d_M_bases_6 (by decide) ?_
  obtain ⟨K25, eK25, h⟩ := gj h
  have hK25 : ∀ (w : gW) (H : Heap) (locs : List Loc) (ls : Array Slot), K25 w = some r → gI D s A w H locs → lv_has ls 3 [(0, .ref a0)] → W p l e rm_M_bases s m args below meth c H locs 0 0 Q (F0 m 25 ls []) := by
    intro w H locs ls h hI hl
    have h := gk1 eK25 h
    refine lv_aload_n hx hb d_M_bases_25 rfl (lv_at hl 0 rfl) ?_
    obtain ⟨v5, e6, h⟩ := gb h
    refine gw_getA hx hb hT hown hK hI (ci := 7) rfl i_7 20 (by decide) wd_806 (fun _ h9 => h9) e6 d_M_bases_26 ?_
    refine lv_iconst (v := 0) hx hb d_M_bases_29 (by decide) ?_
    obtain ⟨v7, e8, h⟩ := gb h
    refine gw_aldI hx hb hK hI e8 d_M_bases_30 ?_
    refine lv_iconst (v := 2) hx hb d_M_bases_31 (by decide) ?_
    refine lv_icmp_ne (tgt := 68) hx hb d_M_bases_32 (by decide) (fun c9 => ?_) (fun c9 => ?_)
    · skip
      have h := gie c9 h
      refine lv_aload_n hx hb d_M_bases_68 rfl (lv_at hl 0 rfl) ?_
      obtain ⟨v10, e11, h⟩ := gb h
      refine gw_getA hx hb hT hown hK hI (ci := 7) rfl i_7 20 (by decide) wd_806 (fun _ h9 => h9) e11 d_M_bases_69 ?_
      refine lv_iconst (v := 1) hx hb d_M_bases_72 (by decide) ?_
      obtain ⟨v12, e13, h⟩ := gb h
      refine gw_aldI hx hb hK hI e13 d_M_bases_73 ?_
      refine lv_iconst (v := 2) hx hb d_M_bases_74 (by decide) ?_
      refine lv_icmp_ne (tgt := 109) hx hb d_M_bases_75 (by decide) (fun c14 => ?_) (fun c14 => ?_)
      · skip
        have h := gie c14 h
        refine lv_aload_n hx hb d_M_bases_109 rfl (lv_at hl 0 rfl) ?_
        obtain ⟨v15, e16, h⟩ := gb h
        refine gw_getA hx hb hT hown hK hI (ci := 7) rfl i_7 24 (by decide) wd_810 (fun _ h9 => h9) e16 d_M_bases_110 ?_
        refine lv_iconst (v := 0) hx hb d_M_bases_113 (by decide) ?_
        obtain ⟨v17, e18, h⟩ := gb h
        refine gw_aldJ hx hb hK hI e18 d_M_bases_114 ?_
        refine lv_aload_n hx hb d_M_bases_115 rfl (lv_at hl 0 rfl) ?_
        obtain ⟨v19, e20, h⟩ := gb h
        refine gw_getA hx hb hT hown hK hI (ci := 7) rfl i_7 24 (by decide) wd_810 (fun _ h9 => h9) e20 d_M_bases_116 ?_
        refine lv_iconst (v := 1) hx hb d_M_bases_119 (by decide) ?_
        obtain ⟨v21, e22, h⟩ := gb h
        refine gw_aldJ hx hb hK hI e22 d_M_bases_120 ?_
        refine lv_ladd hx hb d_M_bases_121 ?_
        refine lv_lstore_n (lv' := [(1, .long (v17 + v21)), (0, .ref a0)]) hx hb d_M_bases_122 rfl hl (by decide) rfl (fun ls hl => ?_)
        refine lv_aload_n hx hb d_M_bases_123 rfl (lv_at hl 1 rfl) ?_
        obtain ⟨v23, e24, h⟩ := gb h
        refine gw_getA hx hb hT hown hK hI (ci := 7) rfl i_7 22 (by decide) wd_808 (fun _ h9 => h9) e24 d_M_bases_124 ?_
        refine lv_iconst (v := 0) hx hb d_M_bases_127 (by decide) ?_
        obtain ⟨v25, e26, h⟩ := gb h
        refine gw_aldJ hx hb hK hI e26 d_M_bases_128 ?_
        refine lv_aload_n hx hb d_M_bases_129 rfl (lv_at hl 1 rfl) ?_
        obtain ⟨v27, e28, h⟩ := gb h
        refine gw_getA hx hb hT hown hK hI (ci := 7) rfl i_7 22 (by decide) wd_808 (fun _ h9 => h9) e28 d_M_bases_130 ?_
        refine lv_bipush (v := 8) hx hb d_M_bases_133 (by decide) ?_
        obtain ⟨v29, e30, h⟩ := gb h
        refine gw_aldJ hx hb hK hI e30 d_M_bases_135 ?_
        refine lv_lsub hx hb d_M_bases_136 ?_
        refine lv_aload_n hx hb d_M_bases_137 rfl (lv_at hl 1 rfl) ?_
        obtain ⟨v31, e32, h⟩ := gb h
        refine gw_getA hx hb hT hown hK hI (ci := 7) rfl i_7 23 (by decide) wd_809 (fun _ h9 => h9) e32 d_M_bases_138 ?_
        refine lv_iconst (v := 0) hx hb d_M_bases_141 (by decide) ?_
        obtain ⟨v33, e34, h⟩ := gb h
        refine gw_aldJ hx hb hK hI e34 d_M_bases_142 ?_
        refine lv_aload_n hx hb d_M_bases_143 rfl (lv_at hl 1 rfl) ?_
        obtain ⟨v35, e36, h⟩ := gb h
        refine gw_getA hx hb hT hown hK hI (ci := 7) rfl i_7 23 (by decide) wd_809 (fun _ h9 => h9) e36 d_M_bases_144 ?_
        refine lv_bipush (v := 8) hx hb d_M_bases_147 (by decide) ?_
        obtain ⟨v37, e38, h⟩ := gb h
        refine gw_aldJ hx hb hK hI e38 d_M_bases_149 ?_
        refine lv_lsub hx hb d_M_bases_150 ?_
        obtain ⟨u39, e40⟩ := gsome h
        refine gw_callJ e40 h (gw_runS (As := [.long (v25 - v29), .long (v33 - v37)]) (rest := []) hx hb hml hown hT hK hZ hA hI (m_M_square l hst D g0 (v25 - v29) (v33 - v37) w u39 e40) ce_M_square wd_1025 ⟨by decide, by decide⟩ rfl rfl hl.1 rfl (lv_room (Nat.le_of_ble_eq_true rfl)) d_M_bases_151 ⟨(show 0 + 0 ≤ 0 by omega), (show 0 + 0 ≤ 0 by omega)⟩) hI hA hexc (show 0 + 0 ≤ 0 by omega) (show 0 + 0 ≤ 0 by omega) (fun v41 w H locs h hI => ?_)
        refine lv_lload_n hx hb d_M_bases_154 rfl (lv_at hl 0 rfl) ?_
        refine lv_lload_n hx hb d_M_bases_155 rfl (lv_at hl 0 rfl) ?_
        refine lv_lmul hx hb d_M_bases_156 ?_
        refine lv_lsub hx hb d_M_bases_157 ?_
        obtain ⟨u42, e43⟩ := gsome h
        refine gw_callI e43 h (gw_runS (As := [.long (v41 - ((v17 + v21) * (v17 + v21)))]) (rest := []) hx hb hml hown hT hK hZ hA hI (m_M_common l hst D g0 (v41 - ((v17 + v21) * (v17 + v21))) w u42 e43) ce_M_common wd_1028 ⟨by decide, by decide⟩ rfl rfl hl.1 rfl (lv_room (Nat.le_of_ble_eq_true rfl)) d_M_bases_158 ⟨(show 0 + 0 ≤ 0 by omega), (show 0 + 0 ≤ 0 by omega)⟩) hI hA hexc (show 0 + 0 ≤ 0 by omega) (show 0 + 0 ≤ 0 by omega) (fun v44 w H locs h hI => ?_)
        exact W.widen (show 0 ≤ 0 by omega) (show 0 ≤ 0 by omega) (hret _ _ (Option.some.inj h).symm _ _ _ _ d_M_bases_161 hI)
      · skip
        have h := git c14 h
        refine lv_aload_n hx hb d_M_bases_78 rfl (lv_at hl 0 rfl) ?_
        refine lv_iconst (v := 1) hx hb d_M_bases_79 (by decide) ?_
        refine lv_aload_n hx hb d_M_bases_80 rfl (lv_at hl 0 rfl) ?_
        obtain ⟨v45, e46, h⟩ := gb h
        refine gw_getA hx hb hT hown hK hI (ci := 7) rfl i_7 22 (by decide) wd_808 (fun _ h9 => h9) e46 d_M_bases_81 ?_
        refine lv_iconst (v := 0) hx hb d_M_bases_84 (by decide) ?_
        obtain ⟨v47, e48, h⟩ := gb h
        refine gw_aldJ hx hb hK hI e48 d_M_bases_85 ?_
        refine lv_aload_n hx hb d_M_bases_86 rfl (lv_at hl 0 rfl) ?_
        obtain ⟨v49, e50, h⟩ := gb h
        refine gw_getA hx hb hT hown hK hI (ci := 7) rfl i_7 23 (by decide) wd_809 (fun _ h9 => h9) e50 d_M_bases_87 ?_
        refine lv_iconst (v := 0) hx hb d_M_bases_90 (by decide) ?_
        obtain ⟨v51, e52, h⟩ := gb h
        refine gw_aldJ hx hb hK hI e52 d_M_bases_91 ?_
        refine lv_aload_n hx hb d_M_bases_92 rfl (lv_at hl 0 rfl) ?_
        obtain ⟨v53, e54, h⟩ := gb h
        refine gw_getA hx hb hT hown hK hI (ci := 7) rfl i_7 24 (by decide) wd_810 (fun _ h9 => h9) e54 d_M_bases_93 ?_
        refine lv_iconst (v := 0) hx hb d_M_bases_96 (by decide) ?_
        obtain ⟨v55, e56, h⟩ := gb h
        refine gw_aldJ hx hb hK hI e56 d_M_bases_97 ?_
        refine lv_aload_n hx hb d_M_bases_98 rfl (lv_at hl 0 rfl) ?_
        obtain ⟨v57, e58, h⟩ := gb h
        refine gw_getA hx hb hT hown hK hI (ci := 7) rfl i_7 24 (by decide) wd_810 (fun _ h9 => h9) e58 d_M_bases_99 ?_
        refine lv_iconst (v := 0) hx hb d_M_bases_102 (by decide) ?_
        obtain ⟨v59, e60, h⟩ := gb h
        refine gw_aldJ hx hb hK hI e60 d_M_bases_103 ?_
        refine lv_lmul hx hb d_M_bases_104 ?_
        obtain ⟨q63, e64, h⟩ := gb h
        obtain ⟨u61, e62⟩ := gsome h
        refine gw_callI e62 h (gw_runV (As := [.int 1, .long v47, .long v51, .long (v55 * v59)]) (rest := []) hx hb hml hown hT hK hZ hA hI (ci := 7) rfl e64 (m_M_fromPolygon l hst D g0 a0 1 v47 v51 (v55 * v59) w u61 e62) ce_M_fromPolygon wd_1040 wd_39 ⟨by decide, by decide⟩ rfl rfl hl.1 rfl (lv_room (Nat.le_of_ble_eq_true rfl)) d_M_bases_105 ⟨(show 0 + 0 ≤ 0 by omega), (show 0 + 0 ≤ 0 by omega)⟩) hI hA hexc (show 0 + 0 ≤ 0 by omega) (show 0 + 0 ≤ 0 by omega) (fun v65 w H locs h hI => ?_)
        exact W.widen (show 0 ≤ 0 by omega) (show 0 ≤ 0 by omega) (hret _ _ (Option.some.inj h).symm _ _ _ _ d_M_bases_108 hI)
    · skip
      have h := git c9 h
      refine lv_aload_n hx hb d_M_bases_35 rfl (lv_at hl 0 rfl) ?_
      refine lv_iconst (v := 0) hx hb d_M_bases_36 (by decide) ?_
      refine lv_aload_n hx hb d_M_bases_37 rfl (lv_at hl 0 rfl) ?_
      obtain ⟨v66, e67, h⟩ := gb h
      refine gw_getA hx hb hT hown hK hI (ci := 7) rfl i_7 22 (by decide) wd_808 (fun _ h9 => h9) e67 d_M_bases_38 ?_
      refine lv_bipush (v := 8) hx hb d_M_bases_41 (by decide) ?_
      obtain ⟨v68, e69, h⟩ := gb h
      refine gw_aldJ hx hb hK hI e69 d_M_bases_43 ?_
      refine lv_aload_n hx hb d_M_bases_44 rfl (lv_at hl 0 rfl) ?_
      obtain ⟨v70, e71, h⟩ := gb h
      refine gw_getA hx hb hT hown hK hI (ci := 7) rfl i_7 23 (by decide) wd_809 (fun _ h9 => h9) e71 d_M_bases_45 ?_
      refine lv_bipush (v := 8) hx hb d_M_bases_48 (by decide) ?_
      obtain ⟨v72, e73, h⟩ := gb h
      refine gw_aldJ hx hb hK hI e73 d_M_bases_50 ?_
      refine lv_aload_n hx hb d_M_bases_51 rfl (lv_at hl 0 rfl) ?_
      obtain ⟨v74, e75, h⟩ := gb h
      refine gw_getA hx hb hT hown hK hI (ci := 7) rfl i_7 24 (by decide) wd_810 (fun _ h9 => h9) e75 d_M_bases_52 ?_
      refine lv_iconst (v := 1) hx hb d_M_bases_55 (by decide) ?_
      obtain ⟨v76, e77, h⟩ := gb h
      refine gw_aldJ hx hb hK hI e77 d_M_bases_56 ?_
      refine lv_aload_n hx hb d_M_bases_57 rfl (lv_at hl 0 rfl) ?_
      obtain ⟨v78, e79, h⟩ := gb h
      refine gw_getA hx hb hT hown hK hI (ci := 7) rfl i_7 24 (by decide) wd_810 (fun _ h9 => h9) e79 d_M_bases_58 ?_
      refine lv_iconst (v := 1) hx hb d_M_bases_61 (by decide) ?_
      obtain ⟨v80, e81, h⟩ := gb h
      refine gw_aldJ hx hb hK hI e81 d_M_bases_62 ?_
      refine lv_lmul hx hb d_M_bases_63 ?_
      obtain ⟨q84, e85, h⟩ := gb h
      obtain ⟨u82, e83⟩ := gsome h
      refine gw_callI e83 h (gw_runV (As := [.int 0, .long v68, .long v72, .long (v76 * v80)]) (rest := []) hx hb hml hown hT hK hZ hA hI (ci := 7) rfl e85 (m_M_fromPolygon l hst D g0 a0 0 v68 v72 (v76 * v80) w u82 e83) ce_M_fromPolygon wd_1040 wd_39 ⟨by decide, by decide⟩ rfl rfl hl.1 rfl (lv_room (Nat.le_of_ble_eq_true rfl)) d_M_bases_64 ⟨(show 0 + 0 ≤ 0 by omega), (show 0 + 0 ≤ 0 by omega)⟩) hI hA hexc (show 0 + 0 ≤ 0 by omega) (show 0 + 0 ≤ 0 by omega) (fun v86 w H locs h hI => ?_)
      exact W.widen (show 0 ≤ 0 by omega) (show 0 ≤ 0 by omega) (hret _ _ (Option.some.inj h).symm _ _ _ _ d_M_bases_67 hI)
  refine lv_icmp_ne (tgt := 25) hx hb d_M_bases_7 (by decide) (fun c87 => ?_) (fun c87 => ?_)
  · skip
    have h := gie c87 h
    exact hK25 w H locs ls h hI (lv_sub hl [0] rfl)
  · skip
    have h := git c87 h
    refine lv_aload_n hx hb d_M_bases_10 rfl (lv_at hl 0 rfl) ?_
    obtain ⟨v88, e89, h⟩ := gb h
    refine gw_getA hx hb hT hown hK hI (ci := 7) rfl i_7 20 (by decide) wd_806 (fun _ h9 => h9) e89 d_M_bases_11 ?_
    refine lv_iconst (v := 1) hx hb d_M_bases_14 (by decide) ?_
    obtain ⟨v90, e91, h⟩ := gb h
    refine gw_aldI hx hb hK hI e91 d_M_bases_15 ?_
    refine lv_iconst (v := 2) hx hb d_M_bases_16 (by decide) ?_
    refine lv_icmp_ne (tgt := 25) hx hb d_M_bases_17 (by decide) (fun c92 => ?_) (fun c92 => ?_)
    · skip
      have h := gie c92 h
      exact hK25 w H locs ls h hI (lv_sub hl [0] rfl)
    · skip
      have h := git c92 h
      refine lv_aload_n hx hb d_M_bases_20 rfl (lv_at hl 0 rfl) ?_
      obtain ⟨q95, e96, h⟩ := gb h
      obtain ⟨u93, e94⟩ := gsome h
      refine gw_callI e94 h (gw_runV (As := []) (rest := []) hx hb hml hown hT hK hZ hA hI (ci := 7) rfl e96 (m_M_polygons l hst D g0 a0 w u93 e94) ce_M_polygons wd_1059 wd_42 ⟨by decide, by decide⟩ rfl rfl hl.1 rfl (lv_room (Nat.le_of_ble_eq_true rfl)) d_M_bases_21 ⟨(show 0 + 0 ≤ 0 by omega), (show 0 + 0 ≤ 0 by omega)⟩) hI hA hexc (show 0 + 0 ≤ 0 by omega) (show 0 + 0 ≤ 0 by omega) (fun v97 w H locs h hI => ?_)
      exact W.widen (show 0 ≤ 0 by omega) (show 0 ≤ 0 by omega) (hret _ _ (Option.some.inj h).symm _ _ _ _ d_M_bases_24 hI)

abbrev b_M_body : ByteArray := prog_9_method_7_code
def y_M_body : MethodName := ⟨"BodySolidsModel", "body", "()I"⟩
theorem d_M_body_0 : decode b_M_body 0 = .ok (.aload_n 0, 1) := by decide +kernel
theorem d_M_body_1 : decode b_M_body 1 = .ok (.iconst 0, 1) := by decide +kernel
theorem d_M_body_2 : decode b_M_body 2 = .ok (.putfield 80, 3) := by decide +kernel
theorem d_M_body_5 : decode b_M_body 5 = .ok (.aload_n 0, 1) := by decide +kernel
theorem d_M_body_6 : decode b_M_body 6 = .ok (.getfield 92, 3) := by decide +kernel
theorem d_M_body_9 : decode b_M_body 9 = .ok (.bipush 30, 2) := by decide +kernel
theorem d_M_body_11 : decode b_M_body 11 = .ok (.if_icmp .ne 5, 3) := by decide +kernel
theorem d_M_body_14 : decode b_M_body 14 = .ok (.iconst (-1), 1) := by decide +kernel
theorem d_M_body_15 : decode b_M_body 15 = .ok (.ireturn, 1) := by decide +kernel
theorem d_M_body_16 : decode b_M_body 16 = .ok (.aload_n 0, 1) := by decide +kernel
theorem d_M_body_17 : decode b_M_body 17 = .ok (.dup, 1) := by decide +kernel
theorem d_M_body_18 : decode b_M_body 18 = .ok (.getfield 92, 3) := by decide +kernel
theorem d_M_body_21 : decode b_M_body 21 = .ok (.iconst 1, 1) := by decide +kernel
theorem d_M_body_22 : decode b_M_body 22 = .ok (.iadd, 1) := by decide +kernel
theorem d_M_body_23 : decode b_M_body 23 = .ok (.putfield 92, 3) := by decide +kernel
theorem d_M_body_26 : decode b_M_body 26 = .ok (.aload_n 0, 1) := by decide +kernel
theorem d_M_body_27 : decode b_M_body 27 = .ok (.getfield 92, 3) := by decide +kernel
theorem d_M_body_30 : decode b_M_body 30 = .ok (.iconst 1, 1) := by decide +kernel
theorem d_M_body_31 : decode b_M_body 31 = .ok (.isub, 1) := by decide +kernel
theorem d_M_body_32 : decode b_M_body 32 = .ok (.ireturn, 1) := by decide +kernel
abbrev rm_M_body : Room := { frames := 0, cells := 0, slots := 0, locals := 0 }
theorem ce_M_body : gCe y_M_body (.code y_M_body b_M_body 1 (some .int)) 1 0 false := gCe.code wd_875 wd_57 wd_873 (by decide) (by decide +kernel)
def f_M_body (g0 : gG) (a0 : Nat) (w : gW) : gX Int32 := (gp w a0 7 0 (.int 0)).bind fun w => (gfI w a0 7 2).bind fun v2 => if v2 = 30 then (some (.inr (-1), w)) else ((gfI w a0 7 2).bind fun v5 => (gp w a0 7 2 (.int (v5 + 1))).bind fun w => (gfI w a0 7 2).bind fun v8 => some (.inr (v8 - 1), w))
set_option maxHeartbeats 4000000 in
set_option maxRecDepth 100000 in
theorem m_M_body (l : Launch) (hst : l.stackTraces = false) (D : gD) (g0 : gG) (a0 : Nat) (w : gW) (r : (String ⊕ Int32) × gW) (h : f_M_body g0 a0 w = some r) : gMet l y_M_body (.code y_M_body b_M_body 1 (some .int)) rm_M_body D g0 [.ref a0] w (goI r) := by
  refine gw_ofI (by decide +kernel) (Nat.le_of_ble_eq_true rfl) ?_
  intro p e s m below meth c ls args A Q hx hb hml hown hlocks hin hnt hT hK hZ hA hret hexc hthr hI hl
  obtain ⟨H, hH⟩ : ∃ H, H = s.heap := ⟨_, rfl⟩
  rw [← hH] at hI ⊢
  obtain ⟨locs, hlocs⟩ : ∃ z : List Loc, z = [] := ⟨_, rfl⟩
  rw [← hlocs] at hI ⊢
  have hl : lv_has ls 1 [(0, .ref a0)] := hl
  unfold f_M_body at h
  refine lv_aload_n hx hb d_M_body_0 rfl (lv_at hl 0 rfl) ?_
  refine lv_iconst (v := 0) hx hb d_M_body_1 (by decide) ?_
  obtain ⟨w, e1, h⟩ := gb h
  refine gw_put hx hb hT hown hK hI (ci := 7) rfl i_7 t_7 t_7_ok n_7 0 (by decide) wd_786 (fun _ h9 => h9) rfl (ty := .int) (by decide +kernel) rfl rfl e1 d_M_body_2 (fun H locs hI => ?_)
  refine lv_aload_n hx hb d_M_body_5 rfl (lv_at hl 0 rfl) ?_
  obtain ⟨v2, e3, h⟩ := gb h
  refine gw_getI hx hb hT hown hK hI (ci := 7) rfl i_7 2 (by decide) wd_788 (fun _ h9 => h9) e3 d_M_body_6 ?_
  refine lv_bipush (v := 30) hx hb d_M_body_9 (by decide) ?_
  refine lv_icmp_ne (tgt := 16) hx hb d_M_body_11 (by decide) (fun c4 => ?_) (fun c4 => ?_)
  · skip
    have h := gie c4 h
    refine lv_aload_n hx hb d_M_body_16 rfl (lv_at hl 0 rfl) ?_
    refine lv_dup hx hb d_M_body_17 rfl ?_
    obtain ⟨v5, e6, h⟩ := gb h
    refine gw_getI hx hb hT hown hK hI (ci := 7) rfl i_7 2 (by decide) wd_788 (fun _ h9 => h9) e6 d_M_body_18 ?_
    refine lv_iconst (v := 1) hx hb d_M_body_21 (by decide) ?_
    refine lv_iadd hx hb d_M_body_22 ?_
    obtain ⟨w, e7, h⟩ := gb h
    refine gw_put hx hb hT hown hK hI (ci := 7) rfl i_7 t_7 t_7_ok n_7 2 (by decide) wd_788 (fun _ h9 => h9) rfl (ty := .int) (by decide +kernel) rfl rfl e7 d_M_body_23 (fun H locs hI => ?_)
    refine lv_aload_n hx hb d_M_body_26 rfl (lv_at hl 0 rfl) ?_
    obtain ⟨v8, e9, h⟩ := gb h
    refine gw_getI hx hb hT hown hK hI (ci := 7) rfl i_7 2 (by decide) wd_788 (fun _ h9 => h9) e9 d_M_body_27 ?_
    refine lv_iconst (v := 1) hx hb d_M_body_30 (by decide) ?_
    refine lv_isub hx hb d_M_body_31 ?_
    exact W.widen (show 0 ≤ 0 by omega) (show 0 ≤ 0 by omega) (hret _ _ (Option.some.inj h).symm _ _ _ _ d_M_body_32 hI)
  · skip
    have h := git c4 h
    refine lv_iconst (v := -1) hx hb d_M_body_14 (by decide) ?_
    exact W.widen (show 0 ≤ 0 by omega) (show 0 ≤ 0 by omega) (hret _ _ (Option.some.inj h).symm _ _ _ _ d_M_body_15 hI)

abbrev b_M_lesser : ByteArray := prog_9_method_44_code
def y_M_lesser : MethodName := ⟨"BodySolidsModel", "lesser", "(JJ)J"⟩
theorem d_M_lesser_0 : decode b_M_lesser 0 = .ok (.lload_n 0, 1) := by decide +kernel
theorem d_M_lesser_1 : decode b_M_lesser 1 = .ok (.lload_n 2, 1) := by decide +kernel
theorem d_M_lesser_2 : decode b_M_lesser 2 = .ok (.lcmp, 1) := by decide +kernel
theorem d_M_lesser_3 : decode b_M_lesser 3 = .ok (.ifCond .ge 7, 3) := by decide +kernel
theorem d_M_lesser_6 : decode b_M_lesser 6 = .ok (.lload_n 0, 1) := by decide +kernel
theorem d_M_lesser_7 : decode b_M_lesser 7 = .ok (.goto 4, 3) := by decide +kernel
theorem d_M_lesser_10 : decode b_M_lesser 10 = .ok (.lload_n 2, 1) := by decide +kernel
theorem d_M_lesser_11 : decode b_M_lesser 11 = .ok (.lreturn, 1) := by decide +kernel
abbrev rm_M_lesser : Room := { frames := 0, cells := 0, slots := 0, locals := 0 }
theorem ce_M_lesser : gCe y_M_lesser (.code y_M_lesser b_M_lesser 4 (some .long)) 4 2 true := gCe.code wd_1010 wd_57 wd_1009 (by decide) (by decide +kernel)
def f_M_lesser (g0 : gG) (p0 : Int64) (p1 : Int64) (w : gW) : gX Int64 := gjoin (fun K11 => if p1 ≤ p0 then (K11 p1 w) else (K11 p0 w)) (fun (y1 : Int64) (w : gW) => some (.inr y1, w))
set_option maxHeartbeats 4000000 in
set_option maxRecDepth 100000 in
theorem m_M_lesser (l : Launch) (hst : l.stackTraces = false) (D : gD) (g0 : gG) (p0 : Int64) (p1 : Int64) (w : gW) (r : (String ⊕ Int64) × gW) (h : f_M_lesser g0 p0 p1 w = some r) : gMet l y_M_lesser (.code y_M_lesser b_M_lesser 4 (some .long)) rm_M_lesser D g0 [.long p0, .long p1] w (goJ r) := by
  refine gw_ofJ (by decide +kernel) (Nat.le_of_ble_eq_true rfl) ?_
  intro p e s m below meth c ls args A Q hx hb hml hown hlocks hin hnt hT hK hZ hA hret hexc hthr hI hl
  obtain ⟨H, hH⟩ : ∃ H, H = s.heap := ⟨_, rfl⟩
  rw [← hH] at hI ⊢
  obtain ⟨locs, hlocs⟩ : ∃ z : List Loc, z = [] := ⟨_, rfl⟩
  rw [← hlocs] at hI ⊢
  have hl : lv_has ls 4 [(0, .long p0), (2, .long p1)] := hl
  unfold f_M_lesser at h
  refine lv_lload_n hx hb d_M_lesser_0 rfl (lv_at hl 0 rfl) ?_
  refine lv_lload_n hx hb d_M_lesser_1 rfl (lv_at hl 1 rfl) ?_
  refine W.lcmp hx hb d_M_lesser_2 ?_
  obtain ⟨K11, eK11, h⟩ := gj h
  have hK11 : ∀ (y1 : Int64) (w : gW) (H : Heap) (locs : List Loc) (ls : Array Slot), K11 y1 w = some r → gI D s A w H locs → lv_has ls 4 [] → W p l e rm_M_lesser s m args below meth c H locs 0 0 Q (F0 m 11 ls [.long y1]) := by
    intro y1 w H locs ls h hI hl
    have h := gk2 eK11 h
    exact W.widen (show 0 ≤ 0 by omega) (show 0 ≤ 0 by omega) (hret _ _ (Option.some.inj h).symm _ _ _ _ d_M_lesser_11 hI)
  refine lv_if_ge (tgt := 10) hx hb d_M_lesser_3 (by decide) (fun c2 => ?_) (fun c2 => ?_)
  · have c2 := (lg_cmp_ge _ _).mp c2
    have h := git c2 h
    refine lv_lload_n hx hb d_M_lesser_10 rfl (lv_at hl 1 rfl) ?_
    exact hK11 _ w H locs ls h hI (lv_sub hl [] rfl)
  · have c2 := mt (lg_cmp_ge _ _).mpr c2
    have h := gie c2 h
    refine lv_lload_n hx hb d_M_lesser_6 rfl (lv_at hl 0 rfl) ?_
    refine lv_goto (tgt := 11) hx hb d_M_lesser_7 (by decide) ?_
    exact hK11 _ w H locs ls h hI (lv_sub hl [] rfl)

abbrev b_M_greater : ByteArray := prog_9_method_45_code
def y_M_greater : MethodName := ⟨"BodySolidsModel", "greater", "(JJ)J"⟩
theorem d_M_greater_0 : decode b_M_greater 0 = .ok (.lload_n 0, 1) := by decide +kernel
theorem d_M_greater_1 : decode b_M_greater 1 = .ok (.lload_n 2, 1) := by decide +kernel
theorem d_M_greater_2 : decode b_M_greater 2 = .ok (.lcmp, 1) := by decide +kernel
theorem d_M_greater_3 : decode b_M_greater 3 = .ok (.ifCond .ge 7, 3) := by decide +kernel
theorem d_M_greater_6 : decode b_M_greater 6 = .ok (.lload_n 2, 1) := by decide +kernel
theorem d_M_greater_7 : decode b_M_greater 7 = .ok (.goto 4, 3) := by decide +kernel
theorem d_M_greater_10 : decode b_M_greater 10 = .ok (.lload_n 0, 1) := by decide +kernel
theorem d_M_greater_11 : decode b_M_greater 11 = .ok (.lreturn, 1) := by decide +kernel
abbrev rm_M_greater : Room := { frames := 0, cells := 0, slots := 0, locals := 0 }
theorem ce_M_greater : gCe y_M_greater (.code y_M_greater b_M_greater 4 (some .long)) 4 2 true := gCe.code wd_1013 wd_57 wd_1012 (by decide) (by decide +kernel)
def f_M_greater (g0 : gG) (p0 : Int64) (p1 : Int64) (w : gW) : gX Int64 := gjoin (fun K11 => if p1 ≤ p0 then (K11 p0 w) else (K11 p1 w)) (fun (y1 : Int64) (w : gW) => some (.inr y1, w))
set_option maxHeartbeats 4000000 in
set_option maxRecDepth 100000 in
theorem m_M_greater (l : Launch) (hst : l.stackTraces = false) (D : gD) (g0 : gG) (p0 : Int64) (p1 : Int64) (w : gW) (r : (String ⊕ Int64) × gW) (h : f_M_greater g0 p0 p1 w = some r) : gMet l y_M_greater (.code y_M_greater b_M_greater 4 (some .long)) rm_M_greater D g0 [.long p0, .long p1] w (goJ r) := by
  refine gw_ofJ (by decide +kernel) (Nat.le_of_ble_eq_true rfl) ?_
  intro p e s m below meth c ls args A Q hx hb hml hown hlocks hin hnt hT hK hZ hA hret hexc hthr hI hl
  obtain ⟨H, hH⟩ : ∃ H, H = s.heap := ⟨_, rfl⟩
  rw [← hH] at hI ⊢
  obtain ⟨locs, hlocs⟩ : ∃ z : List Loc, z = [] := ⟨_, rfl⟩
  rw [← hlocs] at hI ⊢
  have hl : lv_has ls 4 [(0, .long p0), (2, .long p1)] := hl
  unfold f_M_greater at h
  refine lv_lload_n hx hb d_M_greater_0 rfl (lv_at hl 0 rfl) ?_
  refine lv_lload_n hx hb d_M_greater_1 rfl (lv_at hl 1 rfl) ?_
  refine W.lcmp hx hb d_M_greater_2 ?_
  obtain ⟨K11, eK11, h⟩ := gj h
  have hK11 : ∀ (y1 : Int64) (w : gW) (H : Heap) (locs : List Loc) (ls : Array Slot), K11 y1 w = some r → gI D s A w H locs → lv_has ls 4 [] → W p l e rm_M_greater s m args below meth c H locs 0 0 Q (F0 m 11 ls [.long y1]) := by
    intro y1 w H locs ls h hI hl
    have h := gk2 eK11 h
    exact W.widen (show 0 ≤ 0 by omega) (show 0 ≤ 0 by omega) (hret _ _ (Option.some.inj h).symm _ _ _ _ d_M_greater_11 hI)
  refine lv_if_ge (tgt := 10) hx hb d_M_greater_3 (by decide) (fun c2 => ?_) (fun c2 => ?_)
  · have c2 := (lg_cmp_ge _ _).mp c2
    have h := git c2 h
    refine lv_lload_n hx hb d_M_greater_10 rfl (lv_at hl 0 rfl) ?_
    exact hK11 _ w H locs ls h hI (lv_sub hl [] rfl)
  · have c2 := mt (lg_cmp_ge _ _).mpr c2
    have h := gie c2 h
    refine lv_lload_n hx hb d_M_greater_6 rfl (lv_at hl 1 rfl) ?_
    refine lv_goto (tgt := 11) hx hb d_M_greater_7 (by decide) ?_
    exact hK11 _ w H locs ls h hI (lv_sub hl [] rfl)

abbrev b_M_gap : ByteArray := prog_9_method_43_code
def y_M_gap : MethodName := ⟨"BodySolidsModel", "gap", "(JJJJ)J"⟩
theorem d_M_gap_0 : decode b_M_gap 0 = .ok (.lload 4, 2) := by decide +kernel
theorem d_M_gap_2 : decode b_M_gap 2 = .ok (.lload_n 2, 1) := by decide +kernel
theorem d_M_gap_3 : decode b_M_gap 3 = .ok (.lcmp, 1) := by decide +kernel
theorem d_M_gap_4 : decode b_M_gap 4 = .ok (.ifCond .le 10, 3) := by decide +kernel
theorem d_M_gap_7 : decode b_M_gap 7 = .ok (.lload 4, 2) := by decide +kernel
theorem d_M_gap_9 : decode b_M_gap 9 = .ok (.lload_n 2, 1) := by decide +kernel
theorem d_M_gap_10 : decode b_M_gap 10 = .ok (.lsub, 1) := by decide +kernel
theorem d_M_gap_11 : decode b_M_gap 11 = .ok (.goto 18, 3) := by decide +kernel
theorem d_M_gap_14 : decode b_M_gap 14 = .ok (.lload_n 0, 1) := by decide +kernel
theorem d_M_gap_15 : decode b_M_gap 15 = .ok (.lload 6, 2) := by decide +kernel
theorem d_M_gap_17 : decode b_M_gap 17 = .ok (.lcmp, 1) := by decide +kernel
theorem d_M_gap_18 : decode b_M_gap 18 = .ok (.ifCond .le 10, 3) := by decide +kernel
theorem d_M_gap_21 : decode b_M_gap 21 = .ok (.lload_n 0, 1) := by decide +kernel
theorem d_M_gap_22 : decode b_M_gap 22 = .ok (.lload 6, 2) := by decide +kernel
theorem d_M_gap_24 : decode b_M_gap 24 = .ok (.lsub, 1) := by decide +kernel
theorem d_M_gap_25 : decode b_M_gap 25 = .ok (.goto 4, 3) := by decide +kernel
theorem d_M_gap_28 : decode b_M_gap 28 = .ok (.lconst 0, 1) := by decide +kernel
theorem d_M_gap_29 : decode b_M_gap 29 = .ok (.lreturn, 1) := by decide +kernel
abbrev rm_M_gap : Room := { frames := 0, cells := 0, slots := 0, locals := 0 }
theorem ce_M_gap : gCe y_M_gap (.code y_M_gap b_M_gap 8 (some .long)) 8 4 true := gCe.code wd_1020 wd_57 wd_1019 (by decide) (by decide +kernel)
def f_M_gap (g0 : gG) (p0 : Int64) (p1 : Int64) (p2 : Int64) (p3 : Int64) (w : gW) : gX Int64 := gjoin (fun K29 => if p2 ≤ p1 then (if p0 ≤ p3 then (K29 0 w) else (K29 (p0 - p3) w)) else (K29 (p2 - p1) w)) (fun (y1 : Int64) (w : gW) => some (.inr y1, w))
set_option maxHeartbeats 4000000 in
set_option maxRecDepth 100000 in
theorem m_M_gap (l : Launch) (hst : l.stackTraces = false) (D : gD) (g0 : gG) (p0 : Int64) (p1 : Int64) (p2 : Int64) (p3 : Int64) (w : gW) (r : (String ⊕ Int64) × gW) (h : f_M_gap g0 p0 p1 p2 p3 w = some r) : gMet l y_M_gap (.code y_M_gap b_M_gap 8 (some .long)) rm_M_gap D g0 [.long p0, .long p1, .long p2, .long p3] w (goJ r) := by
  refine gw_ofJ (by decide +kernel) (Nat.le_of_ble_eq_true rfl) ?_
  intro p e s m below meth c ls args A Q hx hb hml hown hlocks hin hnt hT hK hZ hA hret hexc hthr hI hl
  obtain ⟨H, hH⟩ : ∃ H, H = s.heap := ⟨_, rfl⟩
  rw [← hH] at hI ⊢
  obtain ⟨locs, hlocs⟩ : ∃ z : List Loc, z = [] := ⟨_, rfl⟩
  rw [← hlocs] at hI ⊢
  have hl : lv_has ls 8 [(0, .long p0), (2, .long p1), (4, .long p2), (6, .long p3)] := hl
  unfold f_M_gap at h
  refine lv_lload hx hb d_M_gap_0 (lv_at hl 2 rfl) ?_
  refine lv_lload_n hx hb d_M_gap_2 rfl (lv_at hl 1 rfl) ?_
  refine W.lcmp hx hb d_M_gap_3 ?_
  obtain ⟨K29, eK29, h⟩ := gj h
  have hK29 : ∀ (y1 : Int64) (w : gW) (H : Heap) (locs : List Loc) (ls : Array Slot), K29 y1 w = some r → gI D s A w H locs → lv_has ls 8 [] → W p l e rm_M_gap s m args below meth c H locs 0 0 Q (F0 m 29 ls [.long y1]) := by
    intro y1 w H locs ls h hI hl
    have h := gk2 eK29 h
    exact W.widen (show 0 ≤ 0 by omega) (show 0 ≤ 0 by omega) (hret _ _ (Option.some.inj h).symm _ _ _ _ d_M_gap_29 hI)
  refine lv_if_le (tgt := 14) hx hb d_M_gap_4 (by decide) (fun c2 => ?_) (fun c2 => ?_)
  · have c2 := (lg_cmp_le _ _).mp c2
    have h := git c2 h
    refine lv_lload_n hx hb d_M_gap_14 rfl (lv_at hl 0 rfl) ?_
    refine lv_lload hx hb d_M_gap_15 (lv_at hl 3 rfl) ?_
    refine W.lcmp hx hb d_M_gap_17 ?_
    refine lv_if_le (tgt := 28) hx hb d_M_gap_18 (by decide) (fun c3 => ?_) (fun c3 => ?_)
    · have c3 := (lg_cmp_le _ _).mp c3
      have h := git c3 h
      refine lv_lconst (v := 0) hx hb d_M_gap_28 (by decide) ?_
      exact hK29 _ w H locs ls h hI (lv_sub hl [] rfl)
    · have c3 := mt (lg_cmp_le _ _).mpr c3
      have h := gie c3 h
      refine lv_lload_n hx hb d_M_gap_21 rfl (lv_at hl 0 rfl) ?_
      refine lv_lload hx hb d_M_gap_22 (lv_at hl 3 rfl) ?_
      refine lv_lsub hx hb d_M_gap_24 ?_
      refine lv_goto (tgt := 29) hx hb d_M_gap_25 (by decide) ?_
      exact hK29 _ w H locs ls h hI (lv_sub hl [] rfl)
  · have c2 := mt (lg_cmp_le _ _).mpr c2
    have h := gie c2 h
    refine lv_lload hx hb d_M_gap_7 (lv_at hl 2 rfl) ?_
    refine lv_lload_n hx hb d_M_gap_9 rfl (lv_at hl 1 rfl) ?_
    refine lv_lsub hx hb d_M_gap_10 ?_
    refine lv_goto (tgt := 29) hx hb d_M_gap_11 (by decide) ?_
    exact hK29 _ w H locs ls h hI (lv_sub hl [] rfl)

abbrev b_M_heightGap : ByteArray := prog_9_method_46_code
def y_M_heightGap : MethodName := ⟨"BodySolidsModel", "heightGap", "()J"⟩
theorem d_M_heightGap_0 : decode b_M_heightGap 0 = .ok (.aload_n 0, 1) := by decide +kernel
theorem d_M_heightGap_1 : decode b_M_heightGap 1 = .ok (.getfield 68, 3) := by decide +kernel
theorem d_M_heightGap_4 : decode b_M_heightGap 4 = .ok (.iconst 0, 1) := by decide +kernel
theorem d_M_heightGap_5 : decode b_M_heightGap 5 = .ok (.laload, 1) := by decide +kernel
theorem d_M_heightGap_6 : decode b_M_heightGap 6 = .ok (.aload_n 0, 1) := by decide +kernel
theorem d_M_heightGap_7 : decode b_M_heightGap 7 = .ok (.getfield 71, 3) := by decide +kernel
theorem d_M_heightGap_10 : decode b_M_heightGap 10 = .ok (.iconst 0, 1) := by decide +kernel
theorem d_M_heightGap_11 : decode b_M_heightGap 11 = .ok (.laload, 1) := by decide +kernel
theorem d_M_heightGap_12 : decode b_M_heightGap 12 = .ok (.aload_n 0, 1) := by decide +kernel
theorem d_M_heightGap_13 : decode b_M_heightGap 13 = .ok (.getfield 68, 3) := by decide +kernel
theorem d_M_heightGap_16 : decode b_M_heightGap 16 = .ok (.iconst 1, 1) := by decide +kernel
theorem d_M_heightGap_17 : decode b_M_heightGap 17 = .ok (.laload, 1) := by decide +kernel
theorem d_M_heightGap_18 : decode b_M_heightGap 18 = .ok (.aload_n 0, 1) := by decide +kernel
theorem d_M_heightGap_19 : decode b_M_heightGap 19 = .ok (.getfield 71, 3) := by decide +kernel
theorem d_M_heightGap_22 : decode b_M_heightGap 22 = .ok (.iconst 1, 1) := by decide +kernel
theorem d_M_heightGap_23 : decode b_M_heightGap 23 = .ok (.laload, 1) := by decide +kernel
theorem d_M_heightGap_24 : decode b_M_heightGap 24 = .ok (.invokestatic 215, 3) := by decide +kernel
theorem d_M_heightGap_27 : decode b_M_heightGap 27 = .ok (.lreturn, 1) := by decide +kernel
abbrev rm_M_heightGap : Room := { frames := 1, cells := 0, slots := 0, locals := 27 }
theorem ce_M_heightGap : gCe y_M_heightGap (.code y_M_heightGap b_M_heightGap 1 (some .long)) 1 0 false := gCe.code wd_1017 wd_57 wd_1016 (by decide) (by decide +kernel)
def f_M_heightGap (g0 : gG) (a0 : Nat) (w : gW) : gX Int64 := (gfA w a0 7 25).bind fun v1 => (gaJ w v1 0).bind fun v3 => (gfA w a0 7 26).bind fun v5 => (gaJ w v5 0).bind fun v7 => (gfA w a0 7 25).bind fun v9 => (gaJ w v9 1).bind fun v11 => (gfA w a0 7 26).bind fun v13 => (gaJ w v13 1).bind fun v15 => gbind (f_M_gap g0 v3 v7 v11 v15 w) fun v19 w => some (.inr v19, w)
set_option maxHeartbeats 4000000 in
set_option maxRecDepth 100000 in
theorem m_M_heightGap (l : Launch) (hst : l.stackTraces = false) (D : gD) (g0 : gG) (a0 : Nat) (w : gW) (r : (String ⊕ Int64) × gW) (h : f_M_heightGap g0 a0 w = some r) : gMet l y_M_heightGap (.code y_M_heightGap b_M_heightGap 1 (some .long)) rm_M_heightGap D g0 [.ref a0] w (goJ r) := by
  refine gw_ofJ (by decide +kernel) (Nat.le_of_ble_eq_true rfl) ?_
  intro p e s m below meth c ls args A Q hx hb hml hown hlocks hin hnt hT hK hZ hA hret hexc hthr hI hl
  obtain ⟨H, hH⟩ : ∃ H, H = s.heap := ⟨_, rfl⟩
  rw [← hH] at hI ⊢
  obtain ⟨locs, hlocs⟩ : ∃ z : List Loc, z = [] := ⟨_, rfl⟩
  rw [← hlocs] at hI ⊢
  have hl : lv_has ls 1 [(0, .ref a0)] := hl
  unfold f_M_heightGap at h
  refine lv_aload_n hx hb d_M_heightGap_0 rfl (lv_at hl 0 rfl) ?_
  obtain ⟨v1, e2, h⟩ := gb h
  refine gw_getA hx hb hT hown hK hI (ci := 7) rfl i_7 25 (by decide) wd_811 (fun _ h9 => h9) e2 d_M_heightGap_1 ?_
  refine lv_iconst (v := 0) hx hb d_M_heightGap_4 (by decide) ?_
  obtain ⟨v3, e4, h⟩ := gb h
  refine gw_aldJ hx hb hK hI e4 d_M_heightGap_5 ?_
  refine lv_aload_n hx hb d_M_heightGap_6 rfl (lv_at hl 0 rfl) ?_
  obtain ⟨v5, e6, h⟩ := gb h
  refine gw_getA hx hb hT hown hK hI (ci := 7) rfl i_7 26 (by decide) wd_812 (fun _ h9 => h9) e6 d_M_heightGap_7 ?_
  refine lv_iconst (v := 0) hx hb d_M_heightGap_10 (by decide) ?_
  obtain ⟨v7, e8, h⟩ := gb h
  refine gw_aldJ hx hb hK hI e8 d_M_heightGap_11 ?_
  refine lv_aload_n hx hb d_M_heightGap_12 rfl (lv_at hl 0 rfl) ?_
  obtain ⟨v9, e10, h⟩ := gb h
  refine gw_getA hx hb hT hown hK hI (ci := 7) rfl i_7 25 (by decide) wd_811 (fun _ h9 => h9) e10 d_M_heightGap_13 ?_
  refine lv_iconst (v := 1) hx hb d_M_heightGap_16 (by decide) ?_
  obtain ⟨v11, e12, h⟩ := gb h
  refine gw_aldJ hx hb hK hI e12 d_M_heightGap_17 ?_
  refine lv_aload_n hx hb d_M_heightGap_18 rfl (lv_at hl 0 rfl) ?_
  obtain ⟨v13, e14, h⟩ := gb h
  refine gw_getA hx hb hT hown hK hI (ci := 7) rfl i_7 26 (by decide) wd_812 (fun _ h9 => h9) e14 d_M_heightGap_19 ?_
  refine lv_iconst (v := 1) hx hb d_M_heightGap_22 (by decide) ?_
  obtain ⟨v15, e16, h⟩ := gb h
  refine gw_aldJ hx hb hK hI e16 d_M_heightGap_23 ?_
  obtain ⟨u17, e18⟩ := gsome h
  refine gw_callJ e18 h (gw_runS (As := [.long v3, .long v7, .long v11, .long v15]) (rest := []) hx hb hml hown hT hK hZ hA hI (m_M_gap l hst D g0 v3 v7 v11 v15 w u17 e18) ce_M_gap wd_1018 ⟨by decide, by decide⟩ rfl rfl hl.1 rfl (lv_room (Nat.le_of_ble_eq_true rfl)) d_M_heightGap_24 ⟨(show 0 + 0 ≤ 0 by omega), (show 0 + 0 ≤ 0 by omega)⟩) hI hA hexc (show 0 + 0 ≤ 0 by omega) (show 0 + 0 ≤ 0 by omega) (fun v19 w H locs h hI => ?_)
  exact W.widen (show 0 ≤ 0 by omega) (show 0 ≤ 0 by omega) (hret _ _ (Option.some.inj h).symm _ _ _ _ d_M_heightGap_27 hI)

abbrev b_M_coreGap : ByteArray := prog_9_method_47_code
def y_M_coreGap : MethodName := ⟨"BodySolidsModel", "coreGap", "(IZJJ)J"⟩
theorem d_M_coreGap_0 : decode b_M_coreGap 0 = .ok (.iload_n 2, 1) := by decide +kernel
theorem d_M_coreGap_1 : decode b_M_coreGap 1 = .ok (.ifCond .eq 15, 3) := by decide +kernel
theorem d_M_coreGap_4 : decode b_M_coreGap 4 = .ok (.aload_n 0, 1) := by decide +kernel
theorem d_M_coreGap_5 : decode b_M_coreGap 5 = .ok (.getfield 59, 3) := by decide +kernel
theorem d_M_coreGap_8 : decode b_M_coreGap 8 = .ok (.bipush 8, 2) := by decide +kernel
theorem d_M_coreGap_10 : decode b_M_coreGap 10 = .ok (.iload_n 1, 1) := by decide +kernel
theorem d_M_coreGap_11 : decode b_M_coreGap 11 = .ok (.imul, 1) := by decide +kernel
theorem d_M_coreGap_12 : decode b_M_coreGap 12 = .ok (.laload, 1) := by decide +kernel
theorem d_M_coreGap_13 : decode b_M_coreGap 13 = .ok (.goto 12, 3) := by decide +kernel
theorem d_M_coreGap_16 : decode b_M_coreGap 16 = .ok (.aload_n 0, 1) := by decide +kernel
theorem d_M_coreGap_17 : decode b_M_coreGap 17 = .ok (.getfield 62, 3) := by decide +kernel
theorem d_M_coreGap_20 : decode b_M_coreGap 20 = .ok (.bipush 8, 2) := by decide +kernel
theorem d_M_coreGap_22 : decode b_M_coreGap 22 = .ok (.iload_n 1, 1) := by decide +kernel
theorem d_M_coreGap_23 : decode b_M_coreGap 23 = .ok (.imul, 1) := by decide +kernel
theorem d_M_coreGap_24 : decode b_M_coreGap 24 = .ok (.laload, 1) := by decide +kernel
theorem d_M_coreGap_25 : decode b_M_coreGap 25 = .ok (.lstore 7, 2) := by decide +kernel
theorem d_M_coreGap_27 : decode b_M_coreGap 27 = .ok (.iload_n 2, 1) := by decide +kernel
theorem d_M_coreGap_28 : decode b_M_coreGap 28 = .ok (.ifCond .eq 17, 3) := by decide +kernel
theorem d_M_coreGap_31 : decode b_M_coreGap 31 = .ok (.aload_n 0, 1) := by decide +kernel
theorem d_M_coreGap_32 : decode b_M_coreGap 32 = .ok (.getfield 59, 3) := by decide +kernel
theorem d_M_coreGap_35 : decode b_M_coreGap 35 = .ok (.bipush 8, 2) := by decide +kernel
theorem d_M_coreGap_37 : decode b_M_coreGap 37 = .ok (.iload_n 1, 1) := by decide +kernel
theorem d_M_coreGap_38 : decode b_M_coreGap 38 = .ok (.imul, 1) := by decide +kernel
theorem d_M_coreGap_39 : decode b_M_coreGap 39 = .ok (.iconst 1, 1) := by decide +kernel
theorem d_M_coreGap_40 : decode b_M_coreGap 40 = .ok (.iadd, 1) := by decide +kernel
theorem d_M_coreGap_41 : decode b_M_coreGap 41 = .ok (.laload, 1) := by decide +kernel
theorem d_M_coreGap_42 : decode b_M_coreGap 42 = .ok (.goto 14, 3) := by decide +kernel
theorem d_M_coreGap_45 : decode b_M_coreGap 45 = .ok (.aload_n 0, 1) := by decide +kernel
theorem d_M_coreGap_46 : decode b_M_coreGap 46 = .ok (.getfield 62, 3) := by decide +kernel
theorem d_M_coreGap_49 : decode b_M_coreGap 49 = .ok (.bipush 8, 2) := by decide +kernel
theorem d_M_coreGap_51 : decode b_M_coreGap 51 = .ok (.iload_n 1, 1) := by decide +kernel
theorem d_M_coreGap_52 : decode b_M_coreGap 52 = .ok (.imul, 1) := by decide +kernel
theorem d_M_coreGap_53 : decode b_M_coreGap 53 = .ok (.iconst 1, 1) := by decide +kernel
theorem d_M_coreGap_54 : decode b_M_coreGap 54 = .ok (.iadd, 1) := by decide +kernel
theorem d_M_coreGap_55 : decode b_M_coreGap 55 = .ok (.laload, 1) := by decide +kernel
theorem d_M_coreGap_56 : decode b_M_coreGap 56 = .ok (.lstore 9, 2) := by decide +kernel
theorem d_M_coreGap_58 : decode b_M_coreGap 58 = .ok (.lload 7, 2) := by decide +kernel
theorem d_M_coreGap_60 : decode b_M_coreGap 60 = .ok (.lload 9, 2) := by decide +kernel
theorem d_M_coreGap_62 : decode b_M_coreGap 62 = .ok (.invokestatic 219, 3) := by decide +kernel
theorem d_M_coreGap_65 : decode b_M_coreGap 65 = .ok (.lload 7, 2) := by decide +kernel
theorem d_M_coreGap_67 : decode b_M_coreGap 67 = .ok (.lload 9, 2) := by decide +kernel
theorem d_M_coreGap_69 : decode b_M_coreGap 69 = .ok (.invokestatic 222, 3) := by decide +kernel
theorem d_M_coreGap_72 : decode b_M_coreGap 72 = .ok (.lload_n 3, 1) := by decide +kernel
theorem d_M_coreGap_73 : decode b_M_coreGap 73 = .ok (.lload 5, 2) := by decide +kernel
theorem d_M_coreGap_75 : decode b_M_coreGap 75 = .ok (.invokestatic 215, 3) := by decide +kernel
theorem d_M_coreGap_78 : decode b_M_coreGap 78 = .ok (.lreturn, 1) := by decide +kernel
abbrev rm_M_coreGap : Room := { frames := 1, cells := 0, slots := 0, locals := 27 }
theorem ce_M_coreGap : gCe y_M_coreGap (.code y_M_coreGap b_M_coreGap 11 (some .long)) 11 4 false := gCe.code wd_1024 wd_57 wd_1023 (by decide) (by decide +kernel)
def f_M_coreGap (g0 : gG) (a0 : Nat) (p1 : Int32) (p2 : Int32) (p3 : Int64) (p4 : Int64) (w : gW) : gX Int64 := gjoin (fun K25 => if p2 = 0 then ((gfA w a0 7 23).bind fun v22 => (gaJ w v22 (8 * p1)).bind fun v24 => K25 v24 w) else ((gfA w a0 7 22).bind fun v26 => (gaJ w v26 (8 * p1)).bind fun v28 => K25 v28 w)) (fun (y1 : Int64) (w : gW) => gjoin (fun K56 => if p2 = 0 then ((gfA w a0 7 23).bind fun v13 => (gaJ w v13 ((8 * p1) + 1)).bind fun v15 => K56 v15 w) else ((gfA w a0 7 22).bind fun v17 => (gaJ w v17 ((8 * p1) + 1)).bind fun v19 => K56 v19 w)) (fun (y2 : Int64) (w : gW) => gbind (f_M_lesser g0 y1 y2 w) fun v5 w => gbind (f_M_greater g0 y1 y2 w) fun v8 w => gbind (f_M_gap g0 v5 v8 p3 p4 w) fun v11 w => some (.inr v11, w)))
set_option maxHeartbeats 4000000 in
set_option maxRecDepth 100000 in
theorem m_M_coreGap (l : Launch) (hst : l.stackTraces = false) (D : gD) (g0 : gG) (a0 : Nat) (p1 : Int32) (p2 : Int32) (p3 : Int64) (p4 : Int64) (w : gW) (r : (String ⊕ Int64) × gW) (h : f_M_coreGap g0 a0 p1 p2 p3 p4 w = some r) : gMet l y_M_coreGap (.code y_M_coreGap b_M_coreGap 11 (some .long)) rm_M_coreGap D g0 [.ref a0, .int p1, .int p2, .long p3, .long p4] w (goJ r) := by
  refine gw_ofJ (by decide +kernel) (Nat.le_of_ble_eq_true rfl) ?_
  intro p e s m below meth c ls args A Q hx hb hml hown hlocks hin hnt hT hK hZ hA hret hexc hthr hI hl
  obtain ⟨H, hH⟩ : ∃ H, H = s.heap := ⟨_, rfl⟩
  rw [← hH] at hI ⊢
  obtain ⟨locs, hlocs⟩ : ∃ z : List Loc, z = [] := ⟨_, rfl⟩
  rw [← hlocs] at hI ⊢
  have hl : lv_has ls 11 [(0, .ref a0), (1, .int p1), (2, .int p2), (3, .long p3), (5, .long p4)] := hl
  unfold f_M_coreGap at h
  refine lv_iload_n hx hb d_M_coreGap_0 rfl (lv_at hl 2 rfl) ?_
  obtain ⟨K25, eK25, h⟩ := gj h
  have hK25 : ∀ (y1 : Int64) (w : gW) (H : Heap) (locs : List Loc) (ls : Array Slot), K25 y1 w = some r → gI D s A w H locs → lv_has ls 11 [(0, .ref a0), (1, .int p1), (2, .int p2), (3, .long p3), (5, .long p4)] → W p l e rm_M_coreGap s m args below meth c H locs 0 0 Q (F0 m 25 ls [.long y1]) := by
    intro y1 w H locs ls h hI hl
    have h := gk2 eK25 h
    refine lv_lstore (lv' := [(7, .long y1), (0, .ref a0), (1, .int p1), (2, .int p2), (3, .long p3), (5, .long p4)]) hx hb d_M_coreGap_25 hl (by decide) rfl (fun ls hl => ?_)
    refine lv_iload_n hx hb d_M_coreGap_27 rfl (lv_at hl 3 rfl) ?_
    obtain ⟨K56, eK56, h⟩ := gj h
    have hK56 : ∀ (y2 : Int64) (w : gW) (H : Heap) (locs : List Loc) (ls : Array Slot), K56 y2 w = some r → gI D s A w H locs → lv_has ls 11 [(3, .long p3), (5, .long p4), (7, .long y1)] → W p l e rm_M_coreGap s m args below meth c H locs 0 0 Q (F0 m 56 ls [.long y2]) := by
      intro y2 w H locs ls h hI hl
      have h := gk2 eK56 h
      refine lv_lstore (lv' := [(9, .long y2), (3, .long p3), (5, .long p4), (7, .long y1)]) hx hb d_M_coreGap_56 hl (by decide) rfl (fun ls hl => ?_)
      refine lv_lload hx hb d_M_coreGap_58 (lv_at hl 3 rfl) ?_
      refine lv_lload hx hb d_M_coreGap_60 (lv_at hl 0 rfl) ?_
      obtain ⟨u3, e4⟩ := gsome h
      refine gw_callJ e4 h (gw_runS (As := [.long y1, .long y2]) (rest := []) hx hb hml hown hT hK hZ hA hI (m_M_lesser l hst D g0 y1 y2 w u3 e4) ce_M_lesser wd_1008 ⟨by decide, by decide⟩ rfl rfl hl.1 rfl (lv_room (Nat.le_of_ble_eq_true rfl)) d_M_coreGap_62 ⟨(show 0 + 0 ≤ 0 by omega), (show 0 + 0 ≤ 0 by omega)⟩) hI hA hexc (show 0 + 0 ≤ 0 by omega) (show 0 + 0 ≤ 0 by omega) (fun v5 w H locs h hI => ?_)
      refine lv_lload hx hb d_M_coreGap_65 (lv_at hl 3 rfl) ?_
      refine lv_lload hx hb d_M_coreGap_67 (lv_at hl 0 rfl) ?_
      obtain ⟨u6, e7⟩ := gsome h
      refine gw_callJ e7 h (gw_runS (As := [.long y1, .long y2]) (rest := [.long v5]) hx hb hml hown hT hK hZ hA hI (m_M_greater l hst D g0 y1 y2 w u6 e7) ce_M_greater wd_1011 ⟨by decide, by decide⟩ rfl rfl hl.1 rfl (lv_room (Nat.le_of_ble_eq_true rfl)) d_M_coreGap_69 ⟨(show 0 + 0 ≤ 0 by omega), (show 0 + 0 ≤ 0 by omega)⟩) hI hA hexc (show 0 + 0 ≤ 0 by omega) (show 0 + 0 ≤ 0 by omega) (fun v8 w H locs h hI => ?_)
      refine lv_lload_n hx hb d_M_coreGap_72 rfl (lv_at hl 1 rfl) ?_
      refine lv_lload hx hb d_M_coreGap_73 (lv_at hl 2 rfl) ?_
      obtain ⟨u9, e10⟩ := gsome h
      refine gw_callJ e10 h (gw_runS (As := [.long v5, .long v8, .long p3, .long p4]) (rest := []) hx hb hml hown hT hK hZ hA hI (m_M_gap l hst D g0 v5 v8 p3 p4 w u9 e10) ce_M_gap wd_1018 ⟨by decide, by decide⟩ rfl rfl hl.1 rfl (lv_room (Nat.le_of_ble_eq_true rfl)) d_M_coreGap_75 ⟨(show 0 + 0 ≤ 0 by omega), (show 0 + 0 ≤ 0 by omega)⟩) hI hA hexc (show 0 + 0 ≤ 0 by omega) (show 0 + 0 ≤ 0 by omega) (fun v11 w H locs h hI => ?_)
      exact W.widen (show 0 ≤ 0 by omega) (show 0 ≤ 0 by omega) (hret _ _ (Option.some.inj h).symm _ _ _ _ d_M_coreGap_78 hI)
    refine lv_if_eq (tgt := 45) hx hb d_M_coreGap_28 (by decide) (fun c12 => ?_) (fun c12 => ?_)
    · skip
      have h := git c12 h
      refine lv_aload_n hx hb d_M_coreGap_45 rfl (lv_at hl 1 rfl) ?_
      obtain ⟨v13, e14, h⟩ := gb h
      refine gw_getA hx hb hT hown hK hI (ci := 7) rfl i_7 23 (by decide) wd_809 (fun _ h9 => h9) e14 d_M_coreGap_46 ?_
      refine lv_bipush (v := 8) hx hb d_M_coreGap_49 (by decide) ?_
      refine lv_iload_n hx hb d_M_coreGap_51 rfl (lv_at hl 2 rfl) ?_
      refine lv_imul hx hb d_M_coreGap_52 ?_
      refine lv_iconst (v := 1) hx hb d_M_coreGap_53 (by decide) ?_
      refine lv_iadd hx hb d_M_coreGap_54 ?_
      obtain ⟨v15, e16, h⟩ := gb h
      refine gw_aldJ hx hb hK hI e16 d_M_coreGap_55 ?_
      exact hK56 _ w H locs ls h hI (lv_sub hl [4, 5, 0] rfl)
    · skip
      have h := gie c12 h
      refine lv_aload_n hx hb d_M_coreGap_31 rfl (lv_at hl 1 rfl) ?_
      obtain ⟨v17, e18, h⟩ := gb h
      refine gw_getA hx hb hT hown hK hI (ci := 7) rfl i_7 22 (by decide) wd_808 (fun _ h9 => h9) e18 d_M_coreGap_32 ?_
      refine lv_bipush (v := 8) hx hb d_M_coreGap_35 (by decide) ?_
      refine lv_iload_n hx hb d_M_coreGap_37 rfl (lv_at hl 2 rfl) ?_
      refine lv_imul hx hb d_M_coreGap_38 ?_
      refine lv_iconst (v := 1) hx hb d_M_coreGap_39 (by decide) ?_
      refine lv_iadd hx hb d_M_coreGap_40 ?_
      obtain ⟨v19, e20, h⟩ := gb h
      refine gw_aldJ hx hb hK hI e20 d_M_coreGap_41 ?_
      refine lv_goto (tgt := 56) hx hb d_M_coreGap_42 (by decide) ?_
      exact hK56 _ w H locs ls h hI (lv_sub hl [4, 5, 0] rfl)
  refine lv_if_eq (tgt := 16) hx hb d_M_coreGap_1 (by decide) (fun c21 => ?_) (fun c21 => ?_)
  · skip
    have h := git c21 h
    refine lv_aload_n hx hb d_M_coreGap_16 rfl (lv_at hl 0 rfl) ?_
    obtain ⟨v22, e23, h⟩ := gb h
    refine gw_getA hx hb hT hown hK hI (ci := 7) rfl i_7 23 (by decide) wd_809 (fun _ h9 => h9) e23 d_M_coreGap_17 ?_
    refine lv_bipush (v := 8) hx hb d_M_coreGap_20 (by decide) ?_
    refine lv_iload_n hx hb d_M_coreGap_22 rfl (lv_at hl 1 rfl) ?_
    refine lv_imul hx hb d_M_coreGap_23 ?_
    obtain ⟨v24, e25, h⟩ := gb h
    refine gw_aldJ hx hb hK hI e25 d_M_coreGap_24 ?_
    exact hK25 _ w H locs ls h hI (lv_sub hl [0, 1, 2, 3, 4] rfl)
  · skip
    have h := gie c21 h
    refine lv_aload_n hx hb d_M_coreGap_4 rfl (lv_at hl 0 rfl) ?_
    obtain ⟨v26, e27, h⟩ := gb h
    refine gw_getA hx hb hT hown hK hI (ci := 7) rfl i_7 22 (by decide) wd_808 (fun _ h9 => h9) e27 d_M_coreGap_5 ?_
    refine lv_bipush (v := 8) hx hb d_M_coreGap_8 (by decide) ?_
    refine lv_iload_n hx hb d_M_coreGap_10 rfl (lv_at hl 1 rfl) ?_
    refine lv_imul hx hb d_M_coreGap_11 ?_
    obtain ⟨v28, e29, h⟩ := gb h
    refine gw_aldJ hx hb hK hI e29 d_M_coreGap_12 ?_
    refine lv_goto (tgt := 25) hx hb d_M_coreGap_13 (by decide) ?_
    exact hK25 _ w H locs ls h hI (lv_sub hl [0, 1, 2, 3, 4] rfl)

abbrev b_M_tubes : ByteArray := prog_9_method_49_code
def y_M_tubes : MethodName := ⟨"BodySolidsModel", "tubes", "()I"⟩
theorem d_M_tubes_0 : decode b_M_tubes 0 = .ok (.aload_n 0, 1) := by decide +kernel
theorem d_M_tubes_1 : decode b_M_tubes 1 = .ok (.getfield 59, 3) := by decide +kernel
theorem d_M_tubes_4 : decode b_M_tubes 4 = .ok (.bipush 8, 2) := by decide +kernel
theorem d_M_tubes_6 : decode b_M_tubes 6 = .ok (.laload, 1) := by decide +kernel
theorem d_M_tubes_7 : decode b_M_tubes 7 = .ok (.aload_n 0, 1) := by decide +kernel
theorem d_M_tubes_8 : decode b_M_tubes 8 = .ok (.getfield 59, 3) := by decide +kernel
theorem d_M_tubes_11 : decode b_M_tubes 11 = .ok (.bipush 9, 2) := by decide +kernel
theorem d_M_tubes_13 : decode b_M_tubes 13 = .ok (.laload, 1) := by decide +kernel
theorem d_M_tubes_14 : decode b_M_tubes 14 = .ok (.invokestatic 219, 3) := by decide +kernel
theorem d_M_tubes_17 : decode b_M_tubes 17 = .ok (.lstore_n 1, 1) := by decide +kernel
theorem d_M_tubes_18 : decode b_M_tubes 18 = .ok (.aload_n 0, 1) := by decide +kernel
theorem d_M_tubes_19 : decode b_M_tubes 19 = .ok (.getfield 59, 3) := by decide +kernel
theorem d_M_tubes_22 : decode b_M_tubes 22 = .ok (.bipush 8, 2) := by decide +kernel
theorem d_M_tubes_24 : decode b_M_tubes 24 = .ok (.laload, 1) := by decide +kernel
theorem d_M_tubes_25 : decode b_M_tubes 25 = .ok (.aload_n 0, 1) := by decide +kernel
theorem d_M_tubes_26 : decode b_M_tubes 26 = .ok (.getfield 59, 3) := by decide +kernel
theorem d_M_tubes_29 : decode b_M_tubes 29 = .ok (.bipush 9, 2) := by decide +kernel
theorem d_M_tubes_31 : decode b_M_tubes 31 = .ok (.laload, 1) := by decide +kernel
theorem d_M_tubes_32 : decode b_M_tubes 32 = .ok (.invokestatic 222, 3) := by decide +kernel
theorem d_M_tubes_35 : decode b_M_tubes 35 = .ok (.lstore_n 3, 1) := by decide +kernel
theorem d_M_tubes_36 : decode b_M_tubes 36 = .ok (.aload_n 0, 1) := by decide +kernel
theorem d_M_tubes_37 : decode b_M_tubes 37 = .ok (.getfield 62, 3) := by decide +kernel
theorem d_M_tubes_40 : decode b_M_tubes 40 = .ok (.bipush 8, 2) := by decide +kernel
theorem d_M_tubes_42 : decode b_M_tubes 42 = .ok (.laload, 1) := by decide +kernel
theorem d_M_tubes_43 : decode b_M_tubes 43 = .ok (.aload_n 0, 1) := by decide +kernel
theorem d_M_tubes_44 : decode b_M_tubes 44 = .ok (.getfield 62, 3) := by decide +kernel
theorem d_M_tubes_47 : decode b_M_tubes 47 = .ok (.bipush 9, 2) := by decide +kernel
theorem d_M_tubes_49 : decode b_M_tubes 49 = .ok (.laload, 1) := by decide +kernel
theorem d_M_tubes_50 : decode b_M_tubes 50 = .ok (.invokestatic 219, 3) := by decide +kernel
theorem d_M_tubes_53 : decode b_M_tubes 53 = .ok (.lstore 5, 2) := by decide +kernel
theorem d_M_tubes_55 : decode b_M_tubes 55 = .ok (.aload_n 0, 1) := by decide +kernel
theorem d_M_tubes_56 : decode b_M_tubes 56 = .ok (.getfield 62, 3) := by decide +kernel
theorem d_M_tubes_59 : decode b_M_tubes 59 = .ok (.bipush 8, 2) := by decide +kernel
theorem d_M_tubes_61 : decode b_M_tubes 61 = .ok (.laload, 1) := by decide +kernel
theorem d_M_tubes_62 : decode b_M_tubes 62 = .ok (.aload_n 0, 1) := by decide +kernel
theorem d_M_tubes_63 : decode b_M_tubes 63 = .ok (.getfield 62, 3) := by decide +kernel
theorem d_M_tubes_66 : decode b_M_tubes 66 = .ok (.bipush 9, 2) := by decide +kernel
theorem d_M_tubes_68 : decode b_M_tubes 68 = .ok (.laload, 1) := by decide +kernel
theorem d_M_tubes_69 : decode b_M_tubes 69 = .ok (.invokestatic 222, 3) := by decide +kernel
theorem d_M_tubes_72 : decode b_M_tubes 72 = .ok (.lstore 7, 2) := by decide +kernel
theorem d_M_tubes_74 : decode b_M_tubes 74 = .ok (.aload_n 0, 1) := by decide +kernel
theorem d_M_tubes_75 : decode b_M_tubes 75 = .ok (.invokevirtual 231, 3) := by decide +kernel
theorem d_M_tubes_78 : decode b_M_tubes 78 = .ok (.lstore 9, 2) := by decide +kernel
theorem d_M_tubes_80 : decode b_M_tubes 80 = .ok (.aload_n 0, 1) := by decide +kernel
theorem d_M_tubes_81 : decode b_M_tubes 81 = .ok (.getfield 65, 3) := by decide +kernel
theorem d_M_tubes_84 : decode b_M_tubes 84 = .ok (.iconst 0, 1) := by decide +kernel
theorem d_M_tubes_85 : decode b_M_tubes 85 = .ok (.laload, 1) := by decide +kernel
theorem d_M_tubes_86 : decode b_M_tubes 86 = .ok (.aload_n 0, 1) := by decide +kernel
theorem d_M_tubes_87 : decode b_M_tubes 87 = .ok (.getfield 65, 3) := by decide +kernel
theorem d_M_tubes_90 : decode b_M_tubes 90 = .ok (.iconst 1, 1) := by decide +kernel
theorem d_M_tubes_91 : decode b_M_tubes 91 = .ok (.laload, 1) := by decide +kernel
theorem d_M_tubes_92 : decode b_M_tubes 92 = .ok (.ladd, 1) := by decide +kernel
theorem d_M_tubes_93 : decode b_M_tubes 93 = .ok (.lstore 11, 2) := by decide +kernel
theorem d_M_tubes_95 : decode b_M_tubes 95 = .ok (.aload_n 0, 1) := by decide +kernel
theorem d_M_tubes_96 : decode b_M_tubes 96 = .ok (.iconst 0, 1) := by decide +kernel
theorem d_M_tubes_97 : decode b_M_tubes 97 = .ok (.iconst 1, 1) := by decide +kernel
theorem d_M_tubes_98 : decode b_M_tubes 98 = .ok (.lload_n 1, 1) := by decide +kernel
theorem d_M_tubes_99 : decode b_M_tubes 99 = .ok (.lload_n 3, 1) := by decide +kernel
theorem d_M_tubes_100 : decode b_M_tubes 100 = .ok (.invokevirtual 225, 3) := by decide +kernel
theorem d_M_tubes_103 : decode b_M_tubes 103 = .ok (.aload_n 0, 1) := by decide +kernel
theorem d_M_tubes_104 : decode b_M_tubes 104 = .ok (.iconst 0, 1) := by decide +kernel
theorem d_M_tubes_105 : decode b_M_tubes 105 = .ok (.iconst 0, 1) := by decide +kernel
theorem d_M_tubes_106 : decode b_M_tubes 106 = .ok (.lload 5, 2) := by decide +kernel
theorem d_M_tubes_108 : decode b_M_tubes 108 = .ok (.lload 7, 2) := by decide +kernel
theorem d_M_tubes_110 : decode b_M_tubes 110 = .ok (.invokevirtual 225, 3) := by decide +kernel
theorem d_M_tubes_113 : decode b_M_tubes 113 = .ok (.invokestatic 194, 3) := by decide +kernel
theorem d_M_tubes_116 : decode b_M_tubes 116 = .ok (.lload 9, 2) := by decide +kernel
theorem d_M_tubes_118 : decode b_M_tubes 118 = .ok (.lload 9, 2) := by decide +kernel
theorem d_M_tubes_120 : decode b_M_tubes 120 = .ok (.lmul, 1) := by decide +kernel
theorem d_M_tubes_121 : decode b_M_tubes 121 = .ok (.ladd, 1) := by decide +kernel
theorem d_M_tubes_122 : decode b_M_tubes 122 = .ok (.lload 11, 2) := by decide +kernel
theorem d_M_tubes_124 : decode b_M_tubes 124 = .ok (.lload 11, 2) := by decide +kernel
theorem d_M_tubes_126 : decode b_M_tubes 126 = .ok (.lmul, 1) := by decide +kernel
theorem d_M_tubes_127 : decode b_M_tubes 127 = .ok (.lsub, 1) := by decide +kernel
theorem d_M_tubes_128 : decode b_M_tubes 128 = .ok (.invokestatic 186, 3) := by decide +kernel
theorem d_M_tubes_131 : decode b_M_tubes 131 = .ok (.ireturn, 1) := by decide +kernel
abbrev rm_M_tubes : Room := { frames := 2, cells := 0, slots := 0, locals := 57 }
theorem ce_M_tubes : gCe y_M_tubes (.code y_M_tubes b_M_tubes 13 (some .int)) 13 0 false := gCe.code wd_1007 wd_57 wd_1006 (by decide) (by decide +kernel)
def f_M_tubes (g0 : gG) (a0 : Nat) (w : gW) : gX Int32 := (gfA w a0 7 22).bind fun v1 => (gaJ w v1 8).bind fun v3 => (gfA w a0 7 22).bind fun v5 => (gaJ w v5 9).bind fun v7 => gbind (f_M_lesser g0 v3 v7 w) fun v11 w => (gfA w a0 7 22).bind fun v12 => (gaJ w v12 8).bind fun v14 => (gfA w a0 7 22).bind fun v16 => (gaJ w v16 9).bind fun v18 => gbind (f_M_greater g0 v14 v18 w) fun v22 w => (gfA w a0 7 23).bind fun v23 => (gaJ w v23 8).bind fun v25 => (gfA w a0 7 23).bind fun v27 => (gaJ w v27 9).bind fun v29 => gbind (f_M_lesser g0 v25 v29 w) fun v33 w => (gfA w a0 7 23).bind fun v34 => (gaJ w v34 8).bind fun v36 => (gfA w a0 7 23).bind fun v38 => (gaJ w v38 9).bind fun v40 => gbind (f_M_greater g0 v36 v40 w) fun v44 w => (gck w a0 7).bind fun _ => gbind (f_M_heightGap g0 a0 w) fun v49 w => (gfA w a0 7 24).bind fun v50 => (gaJ w v50 0).bind fun v52 => (gfA w a0 7 24).bind fun v54 => (gaJ w v54 1).bind fun v56 => (gck w a0 7).bind fun _ => gbind (f_M_coreGap g0 a0 0 1 v11 v22 w) fun v62 w => (gck w a0 7).bind fun _ => gbind (f_M_coreGap g0 a0 0 0 v33 v44 w) fun v67 w => gbind (f_M_square g0 v62 v67 w) fun v70 w => gbind (f_M_common g0 ((v70 + (v49 * v49)) - ((v52 + v56) * (v52 + v56))) w) fun v73 w => some (.inr v73, w)
set_option maxHeartbeats 4000000 in
set_option maxRecDepth 100000 in
theorem m_M_tubes (l : Launch) (hst : l.stackTraces = false) (D : gD) (g0 : gG) (a0 : Nat) (w : gW) (r : (String ⊕ Int32) × gW) (h : f_M_tubes g0 a0 w = some r) : gMet l y_M_tubes (.code y_M_tubes b_M_tubes 13 (some .int)) rm_M_tubes D g0 [.ref a0] w (goI r) := by
  refine gw_ofI (by decide +kernel) (Nat.le_of_ble_eq_true rfl) ?_
  intro p e s m below meth c ls args A Q hx hb hml hown hlocks hin hnt hT hK hZ hA hret hexc hthr hI hl
  obtain ⟨H, hH⟩ : ∃ H, H = s.heap := ⟨_, rfl⟩
  rw [← hH] at hI ⊢
  obtain ⟨locs, hlocs⟩ : ∃ z : List Loc, z = [] := ⟨_, rfl⟩
  rw [← hlocs] at hI ⊢
  have hl : lv_has ls 13 [(0, .ref a0)] := hl
  unfold f_M_tubes at h
  refine lv_aload_n hx hb d_M_tubes_0 rfl (lv_at hl 0 rfl) ?_
  obtain ⟨v1, e2, h⟩ := gb h
  refine gw_getA hx hb hT hown hK hI (ci := 7) rfl i_7 22 (by decide) wd_808 (fun _ h9 => h9) e2 d_M_tubes_1 ?_
  refine lv_bipush (v := 8) hx hb d_M_tubes_4 (by decide) ?_
  obtain ⟨v3, e4, h⟩ := gb h
  refine gw_aldJ hx hb hK hI e4 d_M_tubes_6 ?_
  refine lv_aload_n hx hb d_M_tubes_7 rfl (lv_at hl 0 rfl) ?_
  obtain ⟨v5, e6, h⟩ := gb h
  refine gw_getA hx hb hT hown hK hI (ci := 7) rfl i_7 22 (by decide) wd_808 (fun _ h9 => h9) e6 d_M_tubes_8 ?_
  refine lv_bipush (v := 9) hx hb d_M_tubes_11 (by decide) ?_
  obtain ⟨v7, e8, h⟩ := gb h
  refine gw_aldJ hx hb hK hI e8 d_M_tubes_13 ?_
  obtain ⟨u9, e10⟩ := gsome h
  refine gw_callJ e10 h (gw_runS (As := [.long v3, .long v7]) (rest := []) hx hb hml hown hT hK hZ hA hI (m_M_lesser l hst D g0 v3 v7 w u9 e10) ce_M_lesser wd_1008 ⟨by decide, by decide⟩ rfl rfl hl.1 rfl (lv_room (Nat.le_of_ble_eq_true rfl)) d_M_tubes_14 ⟨(show 0 + 0 ≤ 0 by omega), (show 0 + 0 ≤ 0 by omega)⟩) hI hA hexc (show 0 + 0 ≤ 0 by omega) (show 0 + 0 ≤ 0 by omega) (fun v11 w H locs h hI => ?_)
  refine lv_lstore_n (lv' := [(1, .long v11), (0, .ref a0)]) hx hb d_M_tubes_17 rfl hl (by decide) rfl (fun ls hl => ?_)
  refine lv_aload_n hx hb d_M_tubes_18 rfl (lv_at hl 1 rfl) ?_
  obtain ⟨v12, e13, h⟩ := gb h
  refine gw_getA hx hb hT hown hK hI (ci := 7) rfl i_7 22 (by decide) wd_808 (fun _ h9 => h9) e13 d_M_tubes_19 ?_
  refine lv_bipush (v := 8) hx hb d_M_tubes_22 (by decide) ?_
  obtain ⟨v14, e15, h⟩ := gb h
  refine gw_aldJ hx hb hK hI e15 d_M_tubes_24 ?_
  refine lv_aload_n hx hb d_M_tubes_25 rfl (lv_at hl 1 rfl) ?_
  obtain ⟨v16, e17, h⟩ := gb h
  refine gw_getA hx hb hT hown hK hI (ci := 7) rfl i_7 22 (by decide) wd_808 (fun _ h9 => h9) e17 d_M_tubes_26 ?_
  refine lv_bipush (v := 9) hx hb d_M_tubes_29 (by decide) ?_
  obtain ⟨v18, e19, h⟩ := gb h
  refine gw_aldJ hx hb hK hI e19 d_M_tubes_31 ?_
  obtain ⟨u20, e21⟩ := gsome h
  refine gw_callJ e21 h (gw_runS (As := [.long v14, .long v18]) (rest := []) hx hb hml hown hT hK hZ hA hI (m_M_greater l hst D g0 v14 v18 w u20 e21) ce_M_greater wd_1011 ⟨by decide, by decide⟩ rfl rfl hl.1 rfl (lv_room (Nat.le_of_ble_eq_true rfl)) d_M_tubes_32 ⟨(show 0 + 0 ≤ 0 by omega), (show 0 + 0 ≤ 0 by omega)⟩) hI hA hexc (show 0 + 0 ≤ 0 by omega) (show 0 + 0 ≤ 0 by omega) (fun v22 w H locs h hI => ?_)
  refine lv_lstore_n (lv' := [(3, .long v22), (1, .long v11), (0, .ref a0)]) hx hb d_M_tubes_35 rfl hl (by decide) rfl (fun ls hl => ?_)
  refine lv_aload_n hx hb d_M_tubes_36 rfl (lv_at hl 2 rfl) ?_
  obtain ⟨v23, e24, h⟩ := gb h
  refine gw_getA hx hb hT hown hK hI (ci := 7) rfl i_7 23 (by decide) wd_809 (fun _ h9 => h9) e24 d_M_tubes_37 ?_
  refine lv_bipush (v := 8) hx hb d_M_tubes_40 (by decide) ?_
  obtain ⟨v25, e26, h⟩ := gb h
  refine gw_aldJ hx hb hK hI e26 d_M_tubes_42 ?_
  refine lv_aload_n hx hb d_M_tubes_43 rfl (lv_at hl 2 rfl) ?_
  obtain ⟨v27, e28, h⟩ := gb h
  refine gw_getA hx hb hT hown hK hI (ci := 7) rfl i_7 23 (by decide) wd_809 (fun _ h9 => h9) e28 d_M_tubes_44 ?_
  refine lv_bipush (v := 9) hx hb d_M_tubes_47 (by decide) ?_
  obtain ⟨v29, e30, h⟩ := gb h
  refine gw_aldJ hx hb hK hI e30 d_M_tubes_49 ?_
  obtain ⟨u31, e32⟩ := gsome h
  refine gw_callJ e32 h (gw_runS (As := [.long v25, .long v29]) (rest := []) hx hb hml hown hT hK hZ hA hI (m_M_lesser l hst D g0 v25 v29 w u31 e32) ce_M_lesser wd_1008 ⟨by decide, by decide⟩ rfl rfl hl.1 rfl (lv_room (Nat.le_of_ble_eq_true rfl)) d_M_tubes_50 ⟨(show 0 + 0 ≤ 0 by omega), (show 0 + 0 ≤ 0 by omega)⟩) hI hA hexc (show 0 + 0 ≤ 0 by omega) (show 0 + 0 ≤ 0 by omega) (fun v33 w H locs h hI => ?_)
  refine lv_lstore (lv' := [(5, .long v33), (3, .long v22), (1, .long v11), (0, .ref a0)]) hx hb d_M_tubes_53 hl (by decide) rfl (fun ls hl => ?_)
  refine lv_aload_n hx hb d_M_tubes_55 rfl (lv_at hl 3 rfl) ?_
  obtain ⟨v34, e35, h⟩ := gb h
  refine gw_getA hx hb hT hown hK hI (ci := 7) rfl i_7 23 (by decide) wd_809 (fun _ h9 => h9) e35 d_M_tubes_56 ?_
  refine lv_bipush (v := 8) hx hb d_M_tubes_59 (by decide) ?_
  obtain ⟨v36, e37, h⟩ := gb h
  refine gw_aldJ hx hb hK hI e37 d_M_tubes_61 ?_
  refine lv_aload_n hx hb d_M_tubes_62 rfl (lv_at hl 3 rfl) ?_
  obtain ⟨v38, e39, h⟩ := gb h
  refine gw_getA hx hb hT hown hK hI (ci := 7) rfl i_7 23 (by decide) wd_809 (fun _ h9 => h9) e39 d_M_tubes_63 ?_
  refine lv_bipush (v := 9) hx hb d_M_tubes_66 (by decide) ?_
  obtain ⟨v40, e41, h⟩ := gb h
  refine gw_aldJ hx hb hK hI e41 d_M_tubes_68 ?_
  obtain ⟨u42, e43⟩ := gsome h
  refine gw_callJ e43 h (gw_runS (As := [.long v36, .long v40]) (rest := []) hx hb hml hown hT hK hZ hA hI (m_M_greater l hst D g0 v36 v40 w u42 e43) ce_M_greater wd_1011 ⟨by decide, by decide⟩ rfl rfl hl.1 rfl (lv_room (Nat.le_of_ble_eq_true rfl)) d_M_tubes_69 ⟨(show 0 + 0 ≤ 0 by omega), (show 0 + 0 ≤ 0 by omega)⟩) hI hA hexc (show 0 + 0 ≤ 0 by omega) (show 0 + 0 ≤ 0 by omega) (fun v44 w H locs h hI => ?_)
  refine lv_lstore (lv' := [(7, .long v44), (5, .long v33), (3, .long v22), (1, .long v11), (0, .ref a0)]) hx hb d_M_tubes_72 hl (by decide) rfl (fun ls hl => ?_)
  refine lv_aload_n hx hb d_M_tubes_74 rfl (lv_at hl 4 rfl) ?_
  obtain ⟨q47, e48, h⟩ := gb h
  obtain ⟨u45, e46⟩ := gsome h
  refine gw_callJ e46 h (gw_runV (As := []) (rest := []) hx hb hml hown hT hK hZ hA hI (ci := 7) rfl e48 (m_M_heightGap l hst D g0 a0 w u45 e46) ce_M_heightGap wd_1014 wd_35 ⟨by decide, by decide⟩ rfl rfl hl.1 rfl (lv_room (Nat.le_of_ble_eq_true rfl)) d_M_tubes_75 ⟨(show 0 + 0 ≤ 0 by omega), (show 0 + 0 ≤ 0 by omega)⟩) hI hA hexc (show 0 + 0 ≤ 0 by omega) (show 0 + 0 ≤ 0 by omega) (fun v49 w H locs h hI => ?_)
  refine lv_lstore (lv' := [(9, .long v49), (7, .long v44), (5, .long v33), (3, .long v22), (1, .long v11), (0, .ref a0)]) hx hb d_M_tubes_78 hl (by decide) rfl (fun ls hl => ?_)
  refine lv_aload_n hx hb d_M_tubes_80 rfl (lv_at hl 5 rfl) ?_
  obtain ⟨v50, e51, h⟩ := gb h
  refine gw_getA hx hb hT hown hK hI (ci := 7) rfl i_7 24 (by decide) wd_810 (fun _ h9 => h9) e51 d_M_tubes_81 ?_
  refine lv_iconst (v := 0) hx hb d_M_tubes_84 (by decide) ?_
  obtain ⟨v52, e53, h⟩ := gb h
  refine gw_aldJ hx hb hK hI e53 d_M_tubes_85 ?_
  refine lv_aload_n hx hb d_M_tubes_86 rfl (lv_at hl 5 rfl) ?_
  obtain ⟨v54, e55, h⟩ := gb h
  refine gw_getA hx hb hT hown hK hI (ci := 7) rfl i_7 24 (by decide) wd_810 (fun _ h9 => h9) e55 d_M_tubes_87 ?_
  refine lv_iconst (v := 1) hx hb d_M_tubes_90 (by decide) ?_
  obtain ⟨v56, e57, h⟩ := gb h
  refine gw_aldJ hx hb hK hI e57 d_M_tubes_91 ?_
  refine lv_ladd hx hb d_M_tubes_92 ?_
  refine lv_lstore (lv' := [(11, .long (v52 + v56)), (9, .long v49), (7, .long v44), (5, .long v33), (3, .long v22), (1, .long v11), (0, .ref a0)]) hx hb d_M_tubes_93 hl (by decide) rfl (fun ls hl => ?_)
  refine lv_aload_n hx hb d_M_tubes_95 rfl (lv_at hl 6 rfl) ?_
  refine lv_iconst (v := 0) hx hb d_M_tubes_96 (by decide) ?_
  refine lv_iconst (v := 1) hx hb d_M_tubes_97 (by decide) ?_
  refine lv_lload_n hx hb d_M_tubes_98 rfl (lv_at hl 5 rfl) ?_
  refine lv_lload_n hx hb d_M_tubes_99 rfl (lv_at hl 4 rfl) ?_
  obtain ⟨q60, e61, h⟩ := gb h
  obtain ⟨u58, e59⟩ := gsome h
  refine gw_callJ e59 h (gw_runV (As := [.int 0, .int 1, .long v11, .long v22]) (rest := []) hx hb hml hown hT hK hZ hA hI (ci := 7) rfl e61 (m_M_coreGap l hst D g0 a0 0 1 v11 v22 w u58 e59) ce_M_coreGap wd_1021 wd_36 ⟨by decide, by decide⟩ rfl rfl hl.1 rfl (lv_room (Nat.le_of_ble_eq_true rfl)) d_M_tubes_100 ⟨(show 0 + 0 ≤ 0 by omega), (show 0 + 0 ≤ 0 by omega)⟩) hI hA hexc (show 0 + 0 ≤ 0 by omega) (show 0 + 0 ≤ 0 by omega) (fun v62 w H locs h hI => ?_)
  refine lv_aload_n hx hb d_M_tubes_103 rfl (lv_at hl 6 rfl) ?_
  refine lv_iconst (v := 0) hx hb d_M_tubes_104 (by decide) ?_
  refine lv_iconst (v := 0) hx hb d_M_tubes_105 (by decide) ?_
  refine lv_lload hx hb d_M_tubes_106 (lv_at hl 3 rfl) ?_
  refine lv_lload hx hb d_M_tubes_108 (lv_at hl 2 rfl) ?_
  obtain ⟨q65, e66, h⟩ := gb h
  obtain ⟨u63, e64⟩ := gsome h
  refine gw_callJ e64 h (gw_runV (As := [.int 0, .int 0, .long v33, .long v44]) (rest := [.long v62]) hx hb hml hown hT hK hZ hA hI (ci := 7) rfl e66 (m_M_coreGap l hst D g0 a0 0 0 v33 v44 w u63 e64) ce_M_coreGap wd_1021 wd_36 ⟨by decide, by decide⟩ rfl rfl hl.1 rfl (lv_room (Nat.le_of_ble_eq_true rfl)) d_M_tubes_110 ⟨(show 0 + 0 ≤ 0 by omega), (show 0 + 0 ≤ 0 by omega)⟩) hI hA hexc (show 0 + 0 ≤ 0 by omega) (show 0 + 0 ≤ 0 by omega) (fun v67 w H locs h hI => ?_)
  obtain ⟨u68, e69⟩ := gsome h
  refine gw_callJ e69 h (gw_runS (As := [.long v62, .long v67]) (rest := []) hx hb hml hown hT hK hZ hA hI (m_M_square l hst D g0 v62 v67 w u68 e69) ce_M_square wd_1025 ⟨by decide, by decide⟩ rfl rfl hl.1 rfl (lv_room (Nat.le_of_ble_eq_true rfl)) d_M_tubes_113 ⟨(show 0 + 0 ≤ 0 by omega), (show 0 + 0 ≤ 0 by omega)⟩) hI hA hexc (show 0 + 0 ≤ 0 by omega) (show 0 + 0 ≤ 0 by omega) (fun v70 w H locs h hI => ?_)
  refine lv_lload hx hb d_M_tubes_116 (lv_at hl 1 rfl) ?_
  refine lv_lload hx hb d_M_tubes_118 (lv_at hl 1 rfl) ?_
  refine lv_lmul hx hb d_M_tubes_120 ?_
  refine lv_ladd hx hb d_M_tubes_121 ?_
  refine lv_lload hx hb d_M_tubes_122 (lv_at hl 0 rfl) ?_
  refine lv_lload hx hb d_M_tubes_124 (lv_at hl 0 rfl) ?_
  refine lv_lmul hx hb d_M_tubes_126 ?_
  refine lv_lsub hx hb d_M_tubes_127 ?_
  obtain ⟨u71, e72⟩ := gsome h
  refine gw_callI e72 h (gw_runS (As := [.long ((v70 + (v49 * v49)) - ((v52 + v56) * (v52 + v56)))]) (rest := []) hx hb hml hown hT hK hZ hA hI (m_M_common l hst D g0 ((v70 + (v49 * v49)) - ((v52 + v56) * (v52 + v56))) w u71 e72) ce_M_common wd_1028 ⟨by decide, by decide⟩ rfl rfl hl.1 rfl (lv_room (Nat.le_of_ble_eq_true rfl)) d_M_tubes_128 ⟨(show 0 + 0 ≤ 0 by omega), (show 0 + 0 ≤ 0 by omega)⟩) hI hA hexc (show 0 + 0 ≤ 0 by omega) (show 0 + 0 ≤ 0 by omega) (fun v73 w H locs h hI => ?_)
  exact W.widen (show 0 ≤ 0 by omega) (show 0 ≤ 0 by omega) (hret _ _ (Option.some.inj h).symm _ _ _ _ d_M_tubes_131 hI)
