abbrev b_M_bound : ByteArray := prog_9_method_61_code
def y_M_bound : MethodName := ⟨"BodySolidsModel", "bound", "(II)J"⟩
theorem d_M_bound_0 : decode b_M_bound 0 = .ok (.aload_n 0, 1) := by decide +kernel
theorem d_M_bound_1 : decode b_M_bound 1 = .ok (.aload_n 0, 1) := by decide +kernel
theorem d_M_bound_2 : decode b_M_bound 2 = .ok (.iload_n 1, 1) := by decide +kernel
theorem d_M_bound_3 : decode b_M_bound 3 = .ok (.invokevirtual 150, 3) := by decide +kernel
theorem d_M_bound_6 : decode b_M_bound 6 = .ok (.ifCond .eq 12, 3) := by decide +kernel
theorem d_M_bound_9 : decode b_M_bound 9 = .ok (.iload_n 2, 1) := by decide +kernel
theorem d_M_bound_10 : decode b_M_bound 10 = .ok (.ifCond .lt 8, 3) := by decide +kernel
theorem d_M_bound_13 : decode b_M_bound 13 = .ok (.iload_n 2, 1) := by decide +kernel
theorem d_M_bound_14 : decode b_M_bound 14 = .ok (.iconst 5, 1) := by decide +kernel
theorem d_M_bound_15 : decode b_M_bound 15 = .ok (.if_icmp .le 7, 3) := by decide +kernel
theorem d_M_bound_18 : decode b_M_bound 18 = .ok (.iconst 1, 1) := by decide +kernel
theorem d_M_bound_19 : decode b_M_bound 19 = .ok (.goto 22, 3) := by decide +kernel
theorem d_M_bound_22 : decode b_M_bound 22 = .ok (.aload_n 0, 1) := by decide +kernel
theorem d_M_bound_23 : decode b_M_bound 23 = .ok (.getfield 7, 3) := by decide +kernel
theorem d_M_bound_26 : decode b_M_bound 26 = .ok (.aload_n 0, 1) := by decide +kernel
theorem d_M_bound_27 : decode b_M_bound 27 = .ok (.getfield 35, 3) := by decide +kernel
theorem d_M_bound_30 : decode b_M_bound 30 = .ok (.iload_n 1, 1) := by decide +kernel
theorem d_M_bound_31 : decode b_M_bound 31 = .ok (.iaload, 1) := by decide +kernel
theorem d_M_bound_32 : decode b_M_bound 32 = .ok (.iaload, 1) := by decide +kernel
theorem d_M_bound_33 : decode b_M_bound 33 = .ok (.ifCond .ne 7, 3) := by decide +kernel
theorem d_M_bound_36 : decode b_M_bound 36 = .ok (.iconst 2, 1) := by decide +kernel
theorem d_M_bound_37 : decode b_M_bound 37 = .ok (.goto 4, 3) := by decide +kernel
theorem d_M_bound_40 : decode b_M_bound 40 = .ok (.iconst 0, 1) := by decide +kernel
theorem d_M_bound_41 : decode b_M_bound 41 = .ok (.putfield 80, 3) := by decide +kernel
theorem d_M_bound_44 : decode b_M_bound 44 = .ok (.aload_n 0, 1) := by decide +kernel
theorem d_M_bound_45 : decode b_M_bound 45 = .ok (.getfield 80, 3) := by decide +kernel
theorem d_M_bound_48 : decode b_M_bound 48 = .ok (.ifCond .eq 5, 3) := by decide +kernel
theorem d_M_bound_51 : decode b_M_bound 51 = .ok (.lconst 0, 1) := by decide +kernel
theorem d_M_bound_52 : decode b_M_bound 52 = .ok (.lreturn, 1) := by decide +kernel
theorem d_M_bound_53 : decode b_M_bound 53 = .ok (.lconst 0, 1) := by decide +kernel
theorem d_M_bound_54 : decode b_M_bound 54 = .ok (.lstore_n 3, 1) := by decide +kernel
theorem d_M_bound_55 : decode b_M_bound 55 = .ok (.iconst 0, 1) := by decide +kernel
theorem d_M_bound_56 : decode b_M_bound 56 = .ok (.istore 5, 2) := by decide +kernel
theorem d_M_bound_58 : decode b_M_bound 58 = .ok (.iload 5, 2) := by decide +kernel
theorem d_M_bound_60 : decode b_M_bound 60 = .ok (.aload_n 0, 1) := by decide +kernel
theorem d_M_bound_61 : decode b_M_bound 61 = .ok (.getfield 7, 3) := by decide +kernel
theorem d_M_bound_64 : decode b_M_bound 64 = .ok (.aload_n 0, 1) := by decide +kernel
theorem d_M_bound_65 : decode b_M_bound 65 = .ok (.getfield 35, 3) := by decide +kernel
theorem d_M_bound_68 : decode b_M_bound 68 = .ok (.iload_n 1, 1) := by decide +kernel
theorem d_M_bound_69 : decode b_M_bound 69 = .ok (.iaload, 1) := by decide +kernel
theorem d_M_bound_70 : decode b_M_bound 70 = .ok (.iaload, 1) := by decide +kernel
theorem d_M_bound_71 : decode b_M_bound 71 = .ok (.if_icmp .ge 65, 3) := by decide +kernel
theorem d_M_bound_74 : decode b_M_bound 74 = .ok (.aload_n 0, 1) := by decide +kernel
theorem d_M_bound_75 : decode b_M_bound 75 = .ok (.iconst 0, 1) := by decide +kernel
theorem d_M_bound_76 : decode b_M_bound 76 = .ok (.iload_n 1, 1) := by decide +kernel
theorem d_M_bound_77 : decode b_M_bound 77 = .ok (.bipush 12, 2) := by decide +kernel
theorem d_M_bound_79 : decode b_M_bound 79 = .ok (.aload_n 0, 1) := by decide +kernel
theorem d_M_bound_80 : decode b_M_bound 80 = .ok (.getfield 35, 3) := by decide +kernel
theorem d_M_bound_83 : decode b_M_bound 83 = .ok (.iload_n 1, 1) := by decide +kernel
theorem d_M_bound_84 : decode b_M_bound 84 = .ok (.iaload, 1) := by decide +kernel
theorem d_M_bound_85 : decode b_M_bound 85 = .ok (.imul, 1) := by decide +kernel
theorem d_M_bound_86 : decode b_M_bound 86 = .ok (.iload 5, 2) := by decide +kernel
theorem d_M_bound_88 : decode b_M_bound 88 = .ok (.iadd, 1) := by decide +kernel
theorem d_M_bound_89 : decode b_M_bound 89 = .ok (.invokevirtual 252, 3) := by decide +kernel
theorem d_M_bound_92 : decode b_M_bound 92 = .ok (.aload_n 0, 1) := by decide +kernel
theorem d_M_bound_93 : decode b_M_bound 93 = .ok (.iload_n 2, 1) := by decide +kernel
theorem d_M_bound_94 : decode b_M_bound 94 = .ok (.invokevirtual 279, 3) := by decide +kernel
theorem d_M_bound_97 : decode b_M_bound 97 = .ok (.lstore 6, 2) := by decide +kernel
theorem d_M_bound_99 : decode b_M_bound 99 = .ok (.iload 5, 2) := by decide +kernel
theorem d_M_bound_101 : decode b_M_bound 101 = .ok (.ifCond .ne 8, 3) := by decide +kernel
theorem d_M_bound_104 : decode b_M_bound 104 = .ok (.lload 6, 2) := by decide +kernel
theorem d_M_bound_106 : decode b_M_bound 106 = .ok (.goto 23, 3) := by decide +kernel
theorem d_M_bound_109 : decode b_M_bound 109 = .ok (.iload_n 2, 1) := by decide +kernel
theorem d_M_bound_110 : decode b_M_bound 110 = .ok (.iconst 3, 1) := by decide +kernel
theorem d_M_bound_111 : decode b_M_bound 111 = .ok (.if_icmp .ge 12, 3) := by decide +kernel
theorem d_M_bound_114 : decode b_M_bound 114 = .ok (.lload_n 3, 1) := by decide +kernel
theorem d_M_bound_115 : decode b_M_bound 115 = .ok (.lload 6, 2) := by decide +kernel
theorem d_M_bound_117 : decode b_M_bound 117 = .ok (.invokestatic 219, 3) := by decide +kernel
theorem d_M_bound_120 : decode b_M_bound 120 = .ok (.goto 9, 3) := by decide +kernel
theorem d_M_bound_123 : decode b_M_bound 123 = .ok (.lload_n 3, 1) := by decide +kernel
theorem d_M_bound_124 : decode b_M_bound 124 = .ok (.lload 6, 2) := by decide +kernel
theorem d_M_bound_126 : decode b_M_bound 126 = .ok (.invokestatic 222, 3) := by decide +kernel
theorem d_M_bound_129 : decode b_M_bound 129 = .ok (.lstore_n 3, 1) := by decide +kernel
theorem d_M_bound_130 : decode b_M_bound 130 = .ok (.iinc 5 1, 3) := by decide +kernel
theorem d_M_bound_133 : decode b_M_bound 133 = .ok (.goto (-75), 3) := by decide +kernel
theorem d_M_bound_136 : decode b_M_bound 136 = .ok (.lload_n 3, 1) := by decide +kernel
theorem d_M_bound_137 : decode b_M_bound 137 = .ok (.lreturn, 1) := by decide +kernel
abbrev rm_M_bound : Room := { frames := 3, cells := 0, slots := 0, locals := 85 }
theorem ce_M_bound : gCe y_M_bound (.code y_M_bound b_M_bound 8 (some .long)) 8 2 false := gCe.code wd_1101 wd_57 wd_1099 (by decide) (by decide +kernel)
def f_M_bound_L58 (g0 : gG) (c0 : Nat) (c1 : Int32) (c2 : Int32) (K136 : Int64 → gW → gX Int64) : Nat → Int64 → Int32 → gW → gX Int64
  | 0, _, _, _ => none
  | n + 1, z3, z5, w => (gfA w c0 7 3).bind fun v12 => (gfA w c0 7 13).bind fun v14 => (gaI w v14 c1).bind fun v16 => (gaI w v12 v16).bind fun v18 => if v18 ≤ z5 then (K136 z3 w) else ((gfA w c0 7 13).bind fun v21 => (gaI w v21 c1).bind fun v23 => (gck w c0 7).bind fun _ => gbind (f_M_lay g0 c0 0 c1 ((12 * v23) + z5) w) fun v29 w => (gck w c0 7).bind fun _ => gbind (f_M_edge g0 c0 c2 w) fun v34 w => gjoin (fun K129 => if z5 = 0 then (K129 v34 w) else (if 3 ≤ c2 then (gbind (f_M_greater g0 z3 v34 w) fun v40 w => K129 v40 w) else (gbind (f_M_lesser g0 z3 v34 w) fun v43 w => K129 v43 w))) (fun (y35 : Int64) (w : gW) => f_M_bound_L58 g0 c0 c1 c2 K136 n y35 (z5 + 1) w))
def f_M_bound (g0 : gG) (a0 : Nat) (p1 : Int32) (p2 : Int32) (w : gW) : gX Int64 := (gck w a0 7).bind fun _ => gbind (f_M_isPlaced g0 a0 p1 w) fun v5 w => gjoin (fun K41 => gjoin (fun K18 => if v5 = 0 then (K18 w) else (if p2 < 0 then (K18 w) else (if p2 ≤ 5 then ((gfA w a0 7 3).bind fun v49 => (gfA w a0 7 13).bind fun v51 => (gaI w v51 p1).bind fun v53 => (gaI w v49 v53).bind fun v55 => if v55 = 0 then (K41 2 w) else (K41 0 w)) else (K18 w)))) (fun (w : gW) => K41 1 w)) (fun (y6 : Int32) (w : gW) => (gp w a0 7 0 (.int y6)).bind fun w => (gfI w a0 7 0).bind fun v8 => if v8 = 0 then (gjoin (fun K136 => f_M_bound_L58 g0 a0 p1 p2 K136 64 0 0 w) (fun (x11 : Int64) (w : gW) => some (.inr x11, w))) else (some (.inr 0, w)))
set_option maxHeartbeats 4000000 in
set_option maxRecDepth 100000 in
theorem m_M_bound (l : Launch) (hst : l.stackTraces = false) (D : gD) (g0 : gG) (a0 : Nat) (p1 : Int32) (p2 : Int32) (w : gW) (r : (String ⊕ Int64) × gW) (h : f_M_bound g0 a0 p1 p2 w = some r) : gMet l y_M_bound (.code y_M_bound b_M_bound 8 (some .long)) rm_M_bound D g0 [.ref a0, .int p1, .int p2] w (goJ r) := by
  refine gw_ofJ (by decide +kernel) (Nat.le_of_ble_eq_true rfl) ?_
  intro p e s m below meth c ls args A Q hx hb hml hown hlocks hin hnt hT hK hZ hA hret hexc hthr hI hl
  obtain ⟨H, hH⟩ : ∃ H, H = s.heap := ⟨_, rfl⟩
  rw [← hH] at hI ⊢
  obtain ⟨locs, hlocs⟩ : ∃ z : List Loc, z = [] := ⟨_, rfl⟩
  rw [← hlocs] at hI ⊢
  have hl : lv_has ls 8 [(0, .ref a0), (1, .int p1), (2, .int p2)] := hl
  unfold f_M_bound at h
  refine lv_aload_n hx hb d_M_bound_0 rfl (lv_at hl 0 rfl) ?_
  refine lv_aload_n hx hb d_M_bound_1 rfl (lv_at hl 0 rfl) ?_
  refine lv_iload_n hx hb d_M_bound_2 rfl (lv_at hl 1 rfl) ?_
  obtain ⟨q3, e4, h⟩ := gb h
  obtain ⟨u1, e2⟩ := gsome h
  refine gw_callI e2 h (gw_runV (As := [.int p1]) (rest := [.ref a0]) hx hb hml hown hT hK hZ hA hI (ci := 7) rfl e4 (m_M_isPlaced l hst D g0 a0 p1 w u1 e2) ce_M_isPlaced wd_955 wd_23 ⟨by decide, by decide⟩ rfl rfl hl.1 rfl (lv_room (Nat.le_of_ble_eq_true rfl)) d_M_bound_3 ⟨(show 0 + 0 ≤ 0 by omega), (show 0 + 0 ≤ 0 by omega)⟩) hI hA hexc (show 0 + 0 ≤ 0 by omega) (show 0 + 0 ≤ 0 by omega) (fun v5 w H locs h hI => ?_)
  obtain ⟨K41, eK41, h⟩ := gj h
  have hK41 : ∀ (y6 : Int32) (w : gW) (H : Heap) (locs : List Loc) (ls : Array Slot), K41 y6 w = some r → gI D s A w H locs → lv_has ls 8 [(0, .ref a0), (1, .int p1), (2, .int p2)] → W p l e rm_M_bound s m args below meth c H locs 0 0 Q (F0 m 41 ls [.int y6, .ref a0]) := by
    intro y6 w H locs ls h hI hl
    have h := gk2 eK41 h
    obtain ⟨w, e7, h⟩ := gb h
    refine gw_put hx hb hT hown hK hI (ci := 7) rfl i_7 t_7 t_7_ok n_7 0 (by decide) wd_786 (fun _ h9 => h9) rfl (ty := .int) (by decide +kernel) rfl rfl e7 d_M_bound_41 (fun H locs hI => ?_)
    refine lv_aload_n hx hb d_M_bound_44 rfl (lv_at hl 0 rfl) ?_
    obtain ⟨v8, e9, h⟩ := gb h
    refine gw_getI hx hb hT hown hK hI (ci := 7) rfl i_7 0 (by decide) wd_786 (fun _ h9 => h9) e9 d_M_bound_45 ?_
    refine lv_if_eq (tgt := 53) hx hb d_M_bound_48 (by decide) (fun c10 => ?_) (fun c10 => ?_)
    · skip
      have h := git c10 h
      refine lv_lconst (v := 0) hx hb d_M_bound_53 (by decide) ?_
      refine lv_lstore_n (lv' := [(3, .long 0), (0, .ref a0), (1, .int p1), (2, .int p2)]) hx hb d_M_bound_54 rfl hl (by decide) rfl (fun ls hl => ?_)
      refine lv_iconst (v := 0) hx hb d_M_bound_55 (by decide) ?_
      refine lv_istore (lv' := [(5, .int 0), (3, .long 0), (0, .ref a0), (1, .int p1), (2, .int p2)]) hx hb d_M_bound_56 hl (by decide) rfl (fun ls hl => ?_)
      obtain ⟨K136, eK136, h⟩ := gj h
      have hK136 : ∀ (x11 : Int64) (w : gW) (H : Heap) (locs : List Loc) (ls : Array Slot), K136 x11 w = some r → gI D s A w H locs → lv_has ls 8 [(3, .long x11)] → W p l e rm_M_bound s m args below meth c H locs 0 0 Q (F0 m 136 ls []) := by
        intro x11 w H locs ls h hI hl
        have h := gk2 eK136 h
        refine lv_lload_n hx hb d_M_bound_136 rfl (lv_at hl 0 rfl) ?_
        exact W.widen (show 0 ≤ 0 by omega) (show 0 ≤ 0 by omega) (hret _ _ (Option.some.inj h).symm _ _ _ _ d_M_bound_137 hI)
      have hL58 : ∀ (n : Nat), ∀ (z12 : Int64) (z13 : Int32) (w : gW) (H : Heap) (locs : List Loc) (ls : Array Slot), f_M_bound_L58 g0 a0 p1 p2 K136 n z12 z13 w = some r → gI D s A w H locs → lv_has ls 8 [(0, .ref a0), (1, .int p1), (2, .int p2), (3, .long z12), (5, .int z13)] → W p l e rm_M_bound s m args below meth c H locs 0 0 Q (F0 m 58 ls []) := by
        intro n
        induction n with
        | zero => intro z12 z13 w H locs ls h hI hl; exact absurd h (by simp [f_M_bound_L58])
        | succ n ih =>
          intro z12 z13 w H locs ls h hI hl
          rw [f_M_bound_L58] at h
          refine lv_iload hx hb d_M_bound_58 (lv_at hl 4 rfl) ?_
          refine lv_aload_n hx hb d_M_bound_60 rfl (lv_at hl 0 rfl) ?_
          obtain ⟨v14, e15, h⟩ := gb h
          refine gw_getA hx hb hT hown hK hI (ci := 7) rfl i_7 3 (by decide) wd_789 (fun _ h9 => h9) e15 d_M_bound_61 ?_
          refine lv_aload_n hx hb d_M_bound_64 rfl (lv_at hl 0 rfl) ?_
          obtain ⟨v16, e17, h⟩ := gb h
          refine gw_getA hx hb hT hown hK hI (ci := 7) rfl i_7 13 (by decide) wd_799 (fun _ h9 => h9) e17 d_M_bound_65 ?_
          refine lv_iload_n hx hb d_M_bound_68 rfl (lv_at hl 1 rfl) ?_
          obtain ⟨v18, e19, h⟩ := gb h
          refine gw_aldI hx hb hK hI e19 d_M_bound_69 ?_
          obtain ⟨v20, e21, h⟩ := gb h
          refine gw_aldI hx hb hK hI e21 d_M_bound_70 ?_
          refine lv_icmp_ge (tgt := 136) hx hb d_M_bound_71 (by decide) (fun c22 => ?_) (fun c22 => ?_)
          · skip
            have h := git c22 h
            exact hK136 _ w H locs ls h hI (lv_sub hl [3] rfl)
          · skip
            have h := gie c22 h
            refine lv_aload_n hx hb d_M_bound_74 rfl (lv_at hl 0 rfl) ?_
            refine lv_iconst (v := 0) hx hb d_M_bound_75 (by decide) ?_
            refine lv_iload_n hx hb d_M_bound_76 rfl (lv_at hl 1 rfl) ?_
            refine lv_bipush (v := 12) hx hb d_M_bound_77 (by decide) ?_
            refine lv_aload_n hx hb d_M_bound_79 rfl (lv_at hl 0 rfl) ?_
            obtain ⟨v23, e24, h⟩ := gb h
            refine gw_getA hx hb hT hown hK hI (ci := 7) rfl i_7 13 (by decide) wd_799 (fun _ h9 => h9) e24 d_M_bound_80 ?_
            refine lv_iload_n hx hb d_M_bound_83 rfl (lv_at hl 1 rfl) ?_
            obtain ⟨v25, e26, h⟩ := gb h
            refine gw_aldI hx hb hK hI e26 d_M_bound_84 ?_
            refine lv_imul hx hb d_M_bound_85 ?_
            refine lv_iload hx hb d_M_bound_86 (lv_at hl 4 rfl) ?_
            refine lv_iadd hx hb d_M_bound_88 ?_
            obtain ⟨q29, e30, h⟩ := gb h
            obtain ⟨u27, e28⟩ := gsome h
            refine gw_callV e28 h (gw_runV (As := [.int 0, .int p1, .int ((12 * v25) + z13)]) (rest := []) hx hb hml hown hT hK hZ hA hI (ci := 7) rfl e30 (m_M_lay l hst D g0 a0 0 p1 ((12 * v25) + z13) w u27 e28) ce_M_lay wd_967 wd_25 ⟨by decide, by decide⟩ rfl rfl hl.1 rfl (lv_room (Nat.le_of_ble_eq_true rfl)) d_M_bound_89 ⟨(show 0 + 0 ≤ 0 by omega), (show 0 + 0 ≤ 0 by omega)⟩) hI hA hexc (show 0 + 0 ≤ 0 by omega) (show 0 + 0 ≤ 0 by omega) (fun v31 w H locs h hI => ?_)
            refine lv_aload_n hx hb d_M_bound_92 rfl (lv_at hl 0 rfl) ?_
            refine lv_iload_n hx hb d_M_bound_93 rfl (lv_at hl 2 rfl) ?_
            obtain ⟨q34, e35, h⟩ := gb h
            obtain ⟨u32, e33⟩ := gsome h
            refine gw_callJ e33 h (gw_runV (As := [.int p2]) (rest := []) hx hb hml hown hT hK hZ hA hI (ci := 7) rfl e35 (m_M_edge l hst D g0 a0 p2 w u32 e33) ce_M_edge wd_1102 wd_46 ⟨by decide, by decide⟩ rfl rfl hl.1 rfl (lv_room (Nat.le_of_ble_eq_true rfl)) d_M_bound_94 ⟨(show 0 + 0 ≤ 0 by omega), (show 0 + 0 ≤ 0 by omega)⟩) hI hA hexc (show 0 + 0 ≤ 0 by omega) (show 0 + 0 ≤ 0 by omega) (fun v36 w H locs h hI => ?_)
            refine lv_lstore (lv' := [(6, .long v36), (0, .ref a0), (1, .int p1), (2, .int p2), (3, .long z12), (5, .int z13)]) hx hb d_M_bound_97 hl (by decide) rfl (fun ls hl => ?_)
            refine lv_iload hx hb d_M_bound_99 (lv_at hl 5 rfl) ?_
            obtain ⟨K129, eK129, h⟩ := gj h
            have hK129 : ∀ (y37 : Int64) (w : gW) (H : Heap) (locs : List Loc) (ls : Array Slot), K129 y37 w = some r → gI D s A w H locs → lv_has ls 8 [(0, .ref a0), (1, .int p1), (2, .int p2), (5, .int z13)] → W p l e rm_M_bound s m args below meth c H locs 0 0 Q (F0 m 129 ls [.long y37]) := by
              intro y37 w H locs ls h hI hl
              have h := gk2 eK129 h
              refine lv_lstore_n (lv' := [(3, .long y37), (0, .ref a0), (1, .int p1), (2, .int p2), (5, .int z13)]) hx hb d_M_bound_129 rfl hl (by decide) rfl (fun ls hl => ?_)
              refine lv_iinc (v := z13 + 1) (lv' := [(5, .int (z13 + 1)), (3, .long y37), (0, .ref a0), (1, .int p1), (2, .int p2)]) hx hb d_M_bound_130 hl (k := 4) rfl rfl (by decide) rfl (fun ls hl => ?_)
              refine lv_goto (tgt := 58) hx hb d_M_bound_133 (by decide) ?_
              exact ih _ _ w H locs ls h hI (lv_sub hl [2, 3, 4, 1, 0] rfl)
            refine lv_if_ne (tgt := 109) hx hb d_M_bound_101 (by decide) (fun c38 => ?_) (fun c38 => ?_)
            · skip
              have h := gie c38 h
              refine lv_iload_n hx hb d_M_bound_109 rfl (lv_at hl 3 rfl) ?_
              refine lv_iconst (v := 3) hx hb d_M_bound_110 (by decide) ?_
              refine lv_icmp_ge (tgt := 123) hx hb d_M_bound_111 (by decide) (fun c39 => ?_) (fun c39 => ?_)
              · skip
                have h := git c39 h
                refine lv_lload_n hx hb d_M_bound_123 rfl (lv_at hl 4 rfl) ?_
                refine lv_lload hx hb d_M_bound_124 (lv_at hl 0 rfl) ?_
                obtain ⟨u40, e41⟩ := gsome h
                refine gw_callJ e41 h (gw_runS (As := [.long z12, .long v36]) (rest := []) hx hb hml hown hT hK hZ hA hI (m_M_greater l hst D g0 z12 v36 w u40 e41) ce_M_greater wd_1011 ⟨by decide, by decide⟩ rfl rfl hl.1 rfl (lv_room (Nat.le_of_ble_eq_true rfl)) d_M_bound_126 ⟨(show 0 + 0 ≤ 0 by omega), (show 0 + 0 ≤ 0 by omega)⟩) hI hA hexc (show 0 + 0 ≤ 0 by omega) (show 0 + 0 ≤ 0 by omega) (fun v42 w H locs h hI => ?_)
                exact hK129 _ w H locs ls h hI (lv_sub hl [1, 2, 3, 5] rfl)
              · skip
                have h := gie c39 h
                refine lv_lload_n hx hb d_M_bound_114 rfl (lv_at hl 4 rfl) ?_
                refine lv_lload hx hb d_M_bound_115 (lv_at hl 0 rfl) ?_
                obtain ⟨u43, e44⟩ := gsome h
                refine gw_callJ e44 h (gw_runS (As := [.long z12, .long v36]) (rest := []) hx hb hml hown hT hK hZ hA hI (m_M_lesser l hst D g0 z12 v36 w u43 e44) ce_M_lesser wd_1008 ⟨by decide, by decide⟩ rfl rfl hl.1 rfl (lv_room (Nat.le_of_ble_eq_true rfl)) d_M_bound_117 ⟨(show 0 + 0 ≤ 0 by omega), (show 0 + 0 ≤ 0 by omega)⟩) hI hA hexc (show 0 + 0 ≤ 0 by omega) (show 0 + 0 ≤ 0 by omega) (fun v45 w H locs h hI => ?_)
                refine lv_goto (tgt := 129) hx hb d_M_bound_120 (by decide) ?_
                exact hK129 _ w H locs ls h hI (lv_sub hl [1, 2, 3, 5] rfl)
            · skip
              have h := git c38 h
              refine lv_lload hx hb d_M_bound_104 (lv_at hl 0 rfl) ?_
              refine lv_goto (tgt := 129) hx hb d_M_bound_106 (by decide) ?_
              exact hK129 _ w H locs ls h hI (lv_sub hl [1, 2, 3, 5] rfl)
      exact hL58 64 _ _ w H locs ls h hI (lv_sub hl [2, 3, 4, 1, 0] rfl)
    · skip
      have h := gie c10 h
      refine lv_lconst (v := 0) hx hb d_M_bound_51 (by decide) ?_
      exact W.widen (show 0 ≤ 0 by omega) (show 0 ≤ 0 by omega) (hret _ _ (Option.some.inj h).symm _ _ _ _ d_M_bound_52 hI)
  obtain ⟨K18, eK18, h⟩ := gj h
  have hK18 : ∀ (w : gW) (H : Heap) (locs : List Loc) (ls : Array Slot), K18 w = some r → gI D s A w H locs → lv_has ls 8 [(0, .ref a0), (1, .int p1), (2, .int p2)] → W p l e rm_M_bound s m args below meth c H locs 0 0 Q (F0 m 18 ls [.ref a0]) := by
    intro w H locs ls h hI hl
    have h := gk1 eK18 h
    refine lv_iconst (v := 1) hx hb d_M_bound_18 (by decide) ?_
    refine lv_goto (tgt := 41) hx hb d_M_bound_19 (by decide) ?_
    exact hK41 _ w H locs ls h hI (lv_sub hl [0, 1, 2] rfl)
  refine lv_if_eq (tgt := 18) hx hb d_M_bound_6 (by decide) (fun c46 => ?_) (fun c46 => ?_)
  · skip
    have h := git c46 h
    exact hK18 w H locs ls h hI (lv_sub hl [0, 1, 2] rfl)
  · skip
    have h := gie c46 h
    refine lv_iload_n hx hb d_M_bound_9 rfl (lv_at hl 2 rfl) ?_
    refine lv_if_lt (tgt := 18) hx hb d_M_bound_10 (by decide) (fun c47 => ?_) (fun c47 => ?_)
    · skip
      have h := git c47 h
      exact hK18 w H locs ls h hI (lv_sub hl [0, 1, 2] rfl)
    · skip
      have h := gie c47 h
      refine lv_iload_n hx hb d_M_bound_13 rfl (lv_at hl 2 rfl) ?_
      refine lv_iconst (v := 5) hx hb d_M_bound_14 (by decide) ?_
      refine lv_icmp_le (tgt := 22) hx hb d_M_bound_15 (by decide) (fun c48 => ?_) (fun c48 => ?_)
      · skip
        have h := git c48 h
        refine lv_aload_n hx hb d_M_bound_22 rfl (lv_at hl 0 rfl) ?_
        obtain ⟨v49, e50, h⟩ := gb h
        refine gw_getA hx hb hT hown hK hI (ci := 7) rfl i_7 3 (by decide) wd_789 (fun _ h9 => h9) e50 d_M_bound_23 ?_
        refine lv_aload_n hx hb d_M_bound_26 rfl (lv_at hl 0 rfl) ?_
        obtain ⟨v51, e52, h⟩ := gb h
        refine gw_getA hx hb hT hown hK hI (ci := 7) rfl i_7 13 (by decide) wd_799 (fun _ h9 => h9) e52 d_M_bound_27 ?_
        refine lv_iload_n hx hb d_M_bound_30 rfl (lv_at hl 1 rfl) ?_
        obtain ⟨v53, e54, h⟩ := gb h
        refine gw_aldI hx hb hK hI e54 d_M_bound_31 ?_
        obtain ⟨v55, e56, h⟩ := gb h
        refine gw_aldI hx hb hK hI e56 d_M_bound_32 ?_
        refine lv_if_ne (tgt := 40) hx hb d_M_bound_33 (by decide) (fun c57 => ?_) (fun c57 => ?_)
        · skip
          have h := gie c57 h
          refine lv_iconst (v := 0) hx hb d_M_bound_40 (by decide) ?_
          exact hK41 _ w H locs ls h hI (lv_sub hl [0, 1, 2] rfl)
        · skip
          have h := git c57 h
          refine lv_iconst (v := 2) hx hb d_M_bound_36 (by decide) ?_
          refine lv_goto (tgt := 41) hx hb d_M_bound_37 (by decide) ?_
          exact hK41 _ w H locs ls h hI (lv_sub hl [0, 1, 2] rfl)
      · skip
        have h := gie c48 h
        exact hK18 w H locs ls h hI (lv_sub hl [0, 1, 2] rfl)

abbrev b_M_thrown : ByteArray := prog_9_method_2_code
def y_M_thrown : MethodName := ⟨"BodySolidsModel", "thrown", "()I"⟩
theorem d_M_thrown_0 : decode b_M_thrown 0 = .ok (.aload_n 0, 1) := by decide +kernel
theorem d_M_thrown_1 : decode b_M_thrown 1 = .ok (.getfield 80, 3) := by decide +kernel
theorem d_M_thrown_4 : decode b_M_thrown 4 = .ok (.ireturn, 1) := by decide +kernel
abbrev rm_M_thrown : Room := { frames := 0, cells := 0, slots := 0, locals := 0 }
theorem ce_M_thrown : gCe y_M_thrown (.code y_M_thrown b_M_thrown 1 (some .int)) 1 0 false := gCe.code wd_871 wd_57 wd_869 (by decide) (by decide +kernel)
def f_M_thrown (g0 : gG) (a0 : Nat) (w : gW) : gX Int32 := (gfI w a0 7 0).bind fun v1 => some (.inr v1, w)
set_option maxHeartbeats 4000000 in
set_option maxRecDepth 100000 in
theorem m_M_thrown (l : Launch) (hst : l.stackTraces = false) (D : gD) (g0 : gG) (a0 : Nat) (w : gW) (r : (String ⊕ Int32) × gW) (h : f_M_thrown g0 a0 w = some r) : gMet l y_M_thrown (.code y_M_thrown b_M_thrown 1 (some .int)) rm_M_thrown D g0 [.ref a0] w (goI r) := by
  refine gw_ofI (by decide +kernel) (Nat.le_of_ble_eq_true rfl) ?_
  intro p e s m below meth c ls args A Q hx hb hml hown hlocks hin hnt hT hK hZ hA hret hexc hthr hI hl
  obtain ⟨H, hH⟩ : ∃ H, H = s.heap := ⟨_, rfl⟩
  rw [← hH] at hI ⊢
  obtain ⟨locs, hlocs⟩ : ∃ z : List Loc, z = [] := ⟨_, rfl⟩
  rw [← hlocs] at hI ⊢
  have hl : lv_has ls 1 [(0, .ref a0)] := hl
  unfold f_M_thrown at h
  refine lv_aload_n hx hb d_M_thrown_0 rfl (lv_at hl 0 rfl) ?_
  obtain ⟨v1, e2, h⟩ := gb h
  refine gw_getI hx hb hT hown hK hI (ci := 7) rfl i_7 0 (by decide) wd_786 (fun _ h9 => h9) e2 d_M_thrown_1 ?_
  exact W.widen (show 0 ≤ 0 by omega) (show 0 ≤ 0 by omega) (hret _ _ (Option.some.inj h).symm _ _ _ _ d_M_thrown_4 hI)
