abbrev b_M_meet : ByteArray := prog_9_method_52_code
def y_M_meet : MethodName := ⟨"BodySolidsModel", "meet", "(II)I"⟩
theorem d_M_meet_0 : decode b_M_meet 0 = .ok (.iconst 0, 1) := by decide +kernel
theorem d_M_meet_1 : decode b_M_meet 1 = .ok (.istore_n 3, 1) := by decide +kernel
theorem d_M_meet_2 : decode b_M_meet 2 = .ok (.iconst 0, 1) := by decide +kernel
theorem d_M_meet_3 : decode b_M_meet 3 = .ok (.istore 4, 2) := by decide +kernel
theorem d_M_meet_5 : decode b_M_meet 5 = .ok (.iload 4, 2) := by decide +kernel
theorem d_M_meet_7 : decode b_M_meet 7 = .ok (.aload_n 0, 1) := by decide +kernel
theorem d_M_meet_8 : decode b_M_meet 8 = .ok (.getfield 7, 3) := by decide +kernel
theorem d_M_meet_11 : decode b_M_meet 11 = .ok (.aload_n 0, 1) := by decide +kernel
theorem d_M_meet_12 : decode b_M_meet 12 = .ok (.getfield 35, 3) := by decide +kernel
theorem d_M_meet_15 : decode b_M_meet 15 = .ok (.iload_n 1, 1) := by decide +kernel
theorem d_M_meet_16 : decode b_M_meet 16 = .ok (.iaload, 1) := by decide +kernel
theorem d_M_meet_17 : decode b_M_meet 17 = .ok (.iaload, 1) := by decide +kernel
theorem d_M_meet_18 : decode b_M_meet 18 = .ok (.if_icmp .ge 99, 3) := by decide +kernel
theorem d_M_meet_21 : decode b_M_meet 21 = .ok (.iload_n 3, 1) := by decide +kernel
theorem d_M_meet_22 : decode b_M_meet 22 = .ok (.iconst 2, 1) := by decide +kernel
theorem d_M_meet_23 : decode b_M_meet 23 = .ok (.if_icmp .ge 94, 3) := by decide +kernel
theorem d_M_meet_26 : decode b_M_meet 26 = .ok (.iconst 0, 1) := by decide +kernel
theorem d_M_meet_27 : decode b_M_meet 27 = .ok (.istore 5, 2) := by decide +kernel
theorem d_M_meet_29 : decode b_M_meet 29 = .ok (.iload 5, 2) := by decide +kernel
theorem d_M_meet_31 : decode b_M_meet 31 = .ok (.aload_n 0, 1) := by decide +kernel
theorem d_M_meet_32 : decode b_M_meet 32 = .ok (.getfield 7, 3) := by decide +kernel
theorem d_M_meet_35 : decode b_M_meet 35 = .ok (.aload_n 0, 1) := by decide +kernel
theorem d_M_meet_36 : decode b_M_meet 36 = .ok (.getfield 35, 3) := by decide +kernel
theorem d_M_meet_39 : decode b_M_meet 39 = .ok (.iload_n 2, 1) := by decide +kernel
theorem d_M_meet_40 : decode b_M_meet 40 = .ok (.iaload, 1) := by decide +kernel
theorem d_M_meet_41 : decode b_M_meet 41 = .ok (.iaload, 1) := by decide +kernel
theorem d_M_meet_42 : decode b_M_meet 42 = .ok (.if_icmp .ge 69, 3) := by decide +kernel
theorem d_M_meet_45 : decode b_M_meet 45 = .ok (.iload_n 3, 1) := by decide +kernel
theorem d_M_meet_46 : decode b_M_meet 46 = .ok (.iconst 2, 1) := by decide +kernel
theorem d_M_meet_47 : decode b_M_meet 47 = .ok (.if_icmp .ge 64, 3) := by decide +kernel
theorem d_M_meet_50 : decode b_M_meet 50 = .ok (.aload_n 0, 1) := by decide +kernel
theorem d_M_meet_51 : decode b_M_meet 51 = .ok (.iconst 0, 1) := by decide +kernel
theorem d_M_meet_52 : decode b_M_meet 52 = .ok (.iload_n 1, 1) := by decide +kernel
theorem d_M_meet_53 : decode b_M_meet 53 = .ok (.bipush 12, 2) := by decide +kernel
theorem d_M_meet_55 : decode b_M_meet 55 = .ok (.aload_n 0, 1) := by decide +kernel
theorem d_M_meet_56 : decode b_M_meet 56 = .ok (.getfield 35, 3) := by decide +kernel
theorem d_M_meet_59 : decode b_M_meet 59 = .ok (.iload_n 1, 1) := by decide +kernel
theorem d_M_meet_60 : decode b_M_meet 60 = .ok (.iaload, 1) := by decide +kernel
theorem d_M_meet_61 : decode b_M_meet 61 = .ok (.imul, 1) := by decide +kernel
theorem d_M_meet_62 : decode b_M_meet 62 = .ok (.iload 4, 2) := by decide +kernel
theorem d_M_meet_64 : decode b_M_meet 64 = .ok (.iadd, 1) := by decide +kernel
theorem d_M_meet_65 : decode b_M_meet 65 = .ok (.invokevirtual 252, 3) := by decide +kernel
theorem d_M_meet_68 : decode b_M_meet 68 = .ok (.aload_n 0, 1) := by decide +kernel
theorem d_M_meet_69 : decode b_M_meet 69 = .ok (.iconst 1, 1) := by decide +kernel
theorem d_M_meet_70 : decode b_M_meet 70 = .ok (.iload_n 2, 1) := by decide +kernel
theorem d_M_meet_71 : decode b_M_meet 71 = .ok (.bipush 12, 2) := by decide +kernel
theorem d_M_meet_73 : decode b_M_meet 73 = .ok (.aload_n 0, 1) := by decide +kernel
theorem d_M_meet_74 : decode b_M_meet 74 = .ok (.getfield 35, 3) := by decide +kernel
theorem d_M_meet_77 : decode b_M_meet 77 = .ok (.iload_n 2, 1) := by decide +kernel
theorem d_M_meet_78 : decode b_M_meet 78 = .ok (.iaload, 1) := by decide +kernel
theorem d_M_meet_79 : decode b_M_meet 79 = .ok (.imul, 1) := by decide +kernel
theorem d_M_meet_80 : decode b_M_meet 80 = .ok (.iload 5, 2) := by decide +kernel
theorem d_M_meet_82 : decode b_M_meet 82 = .ok (.iadd, 1) := by decide +kernel
theorem d_M_meet_83 : decode b_M_meet 83 = .ok (.invokevirtual 252, 3) := by decide +kernel
theorem d_M_meet_86 : decode b_M_meet 86 = .ok (.aload_n 0, 1) := by decide +kernel
theorem d_M_meet_87 : decode b_M_meet 87 = .ok (.invokevirtual 256, 3) := by decide +kernel
theorem d_M_meet_90 : decode b_M_meet 90 = .ok (.istore 6, 2) := by decide +kernel
theorem d_M_meet_92 : decode b_M_meet 92 = .ok (.iload 6, 2) := by decide +kernel
theorem d_M_meet_94 : decode b_M_meet 94 = .ok (.iload_n 3, 1) := by decide +kernel
theorem d_M_meet_95 : decode b_M_meet 95 = .ok (.if_icmp .le 8, 3) := by decide +kernel
theorem d_M_meet_98 : decode b_M_meet 98 = .ok (.iload 6, 2) := by decide +kernel
theorem d_M_meet_100 : decode b_M_meet 100 = .ok (.goto 4, 3) := by decide +kernel
theorem d_M_meet_103 : decode b_M_meet 103 = .ok (.iload_n 3, 1) := by decide +kernel
theorem d_M_meet_104 : decode b_M_meet 104 = .ok (.istore_n 3, 1) := by decide +kernel
theorem d_M_meet_105 : decode b_M_meet 105 = .ok (.iinc 5 1, 3) := by decide +kernel
theorem d_M_meet_108 : decode b_M_meet 108 = .ok (.goto (-79), 3) := by decide +kernel
theorem d_M_meet_111 : decode b_M_meet 111 = .ok (.iinc 4 1, 3) := by decide +kernel
theorem d_M_meet_114 : decode b_M_meet 114 = .ok (.goto (-109), 3) := by decide +kernel
theorem d_M_meet_117 : decode b_M_meet 117 = .ok (.iload_n 3, 1) := by decide +kernel
theorem d_M_meet_118 : decode b_M_meet 118 = .ok (.ireturn, 1) := by decide +kernel
abbrev rm_M_meet : Room := { frames := 5, cells := 0, slots := 0, locals := 163 }
theorem ce_M_meet : gCe y_M_meet (.code y_M_meet b_M_meet 7 (some .int)) 7 2 false := gCe.code wd_966 wd_57 wd_965 (by decide) (by decide +kernel)
def f_M_meet_L29 (g0 : gG) (c0 : Nat) (c1 : Int32) (c2 : Int32) (c4 : Int32) (K111 : Int32 → gW → gX Int32) : Nat → Int32 → Int32 → gW → gX Int32
  | 0, _, _, _ => none
  | n + 1, z3, z5, w => (gfA w c0 7 3).bind fun v13 => (gfA w c0 7 13).bind fun v15 => (gaI w v15 c2).bind fun v17 => (gaI w v13 v17).bind fun v19 => if v19 ≤ z5 then (K111 z3 w) else (if 2 ≤ z3 then (K111 z3 w) else ((gfA w c0 7 13).bind fun v23 => (gaI w v23 c1).bind fun v25 => (gck w c0 7).bind fun _ => gbind (f_M_lay g0 c0 0 c1 ((12 * v25) + c4) w) fun v31 w => (gfA w c0 7 13).bind fun v32 => (gaI w v32 c2).bind fun v34 => (gck w c0 7).bind fun _ => gbind (f_M_lay g0 c0 1 c2 ((12 * v34) + z5) w) fun v40 w => (gck w c0 7).bind fun _ => gbind (f_M_both g0 c0 w) fun v45 w => gjoin (fun K104 => if v45 ≤ z3 then (K104 z3 w) else (K104 v45 w)) (fun (y46 : Int32) (w : gW) => f_M_meet_L29 g0 c0 c1 c2 c4 K111 n y46 (z5 + 1) w)))
def f_M_meet_L5 (g0 : gG) (c0 : Nat) (c1 : Int32) (c2 : Int32) (K117 : Int32 → gW → gX Int32) : Nat → Int32 → Int32 → gW → gX Int32
  | 0, _, _, _ => none
  | n + 1, z3, z4, w => (gfA w c0 7 3).bind fun v2 => (gfA w c0 7 13).bind fun v4 => (gaI w v4 c1).bind fun v6 => (gaI w v2 v6).bind fun v8 => if v8 ≤ z4 then (K117 z3 w) else (if 2 ≤ z3 then (K117 z3 w) else (gjoin (fun K111 => f_M_meet_L29 g0 c0 c1 c2 z4 K111 64 z3 0 w) (fun (x12 : Int32) (w : gW) => f_M_meet_L5 g0 c0 c1 c2 K117 n x12 (z4 + 1) w)))
def f_M_meet (g0 : gG) (a0 : Nat) (p1 : Int32) (p2 : Int32) (w : gW) : gX Int32 := gjoin (fun K117 => f_M_meet_L5 g0 a0 p1 p2 K117 64 0 0 w) (fun (x1 : Int32) (w : gW) => some (.inr x1, w))
set_option maxHeartbeats 4000000 in
set_option maxRecDepth 100000 in
theorem m_M_meet (l : Launch) (hst : l.stackTraces = false) (D : gD) (g0 : gG) (a0 : Nat) (p1 : Int32) (p2 : Int32) (w : gW) (r : (String ⊕ Int32) × gW) (h : f_M_meet g0 a0 p1 p2 w = some r) : gMet l y_M_meet (.code y_M_meet b_M_meet 7 (some .int)) rm_M_meet D g0 [.ref a0, .int p1, .int p2] w (goI r) := by
  refine gw_ofI (by decide +kernel) (Nat.le_of_ble_eq_true rfl) ?_
  intro p e s m below meth c ls args A Q hx hb hml hown hlocks hin hnt hT hK hZ hA hret hexc hthr hI hl
  obtain ⟨H, hH⟩ : ∃ H, H = s.heap := ⟨_, rfl⟩
  rw [← hH] at hI ⊢
  obtain ⟨locs, hlocs⟩ : ∃ z : List Loc, z = [] := ⟨_, rfl⟩
  rw [← hlocs] at hI ⊢
  have hl : lv_has ls 7 [(0, .ref a0), (1, .int p1), (2, .int p2)] := hl
  unfold f_M_meet at h
  refine lv_iconst (v := 0) hx hb d_M_meet_0 (by decide) ?_
  refine lv_istore_n (lv' := [(3, .int 0), (0, .ref a0), (1, .int p1), (2, .int p2)]) hx hb d_M_meet_1 rfl hl (by decide) rfl (fun ls hl => ?_)
  refine lv_iconst (v := 0) hx hb d_M_meet_2 (by decide) ?_
  refine lv_istore (lv' := [(4, .int 0), (3, .int 0), (0, .ref a0), (1, .int p1), (2, .int p2)]) hx hb d_M_meet_3 hl (by decide) rfl (fun ls hl => ?_)
  obtain ⟨K117, eK117, h⟩ := gj h
  have hK117 : ∀ (x1 : Int32) (w : gW) (H : Heap) (locs : List Loc) (ls : Array Slot), K117 x1 w = some r → gI D s A w H locs → lv_has ls 7 [(3, .int x1)] → W p l e rm_M_meet s m args below meth c H locs 0 0 Q (F0 m 117 ls []) := by
    intro x1 w H locs ls h hI hl
    have h := gk2 eK117 h
    refine lv_iload_n hx hb d_M_meet_117 rfl (lv_at hl 0 rfl) ?_
    exact W.widen (show 0 ≤ 0 by omega) (show 0 ≤ 0 by omega) (hret _ _ (Option.some.inj h).symm _ _ _ _ d_M_meet_118 hI)
  have hL5 : ∀ (n : Nat), ∀ (z2 : Int32) (z3 : Int32) (w : gW) (H : Heap) (locs : List Loc) (ls : Array Slot), f_M_meet_L5 g0 a0 p1 p2 K117 n z2 z3 w = some r → gI D s A w H locs → lv_has ls 7 [(0, .ref a0), (1, .int p1), (2, .int p2), (3, .int z2), (4, .int z3)] → W p l e rm_M_meet s m args below meth c H locs 0 0 Q (F0 m 5 ls []) := by
    intro n
    induction n with
    | zero => intro z2 z3 w H locs ls h hI hl; exact absurd h (by simp [f_M_meet_L5])
    | succ n ih =>
      intro z2 z3 w H locs ls h hI hl
      rw [f_M_meet_L5] at h
      refine lv_iload hx hb d_M_meet_5 (lv_at hl 4 rfl) ?_
      refine lv_aload_n hx hb d_M_meet_7 rfl (lv_at hl 0 rfl) ?_
      obtain ⟨v4, e5, h⟩ := gb h
      refine gw_getA hx hb hT hown hK hI (ci := 7) rfl i_7 3 (by decide) wd_789 (fun _ h9 => h9) e5 d_M_meet_8 ?_
      refine lv_aload_n hx hb d_M_meet_11 rfl (lv_at hl 0 rfl) ?_
      obtain ⟨v6, e7, h⟩ := gb h
      refine gw_getA hx hb hT hown hK hI (ci := 7) rfl i_7 13 (by decide) wd_799 (fun _ h9 => h9) e7 d_M_meet_12 ?_
      refine lv_iload_n hx hb d_M_meet_15 rfl (lv_at hl 1 rfl) ?_
      obtain ⟨v8, e9, h⟩ := gb h
      refine gw_aldI hx hb hK hI e9 d_M_meet_16 ?_
      obtain ⟨v10, e11, h⟩ := gb h
      refine gw_aldI hx hb hK hI e11 d_M_meet_17 ?_
      refine lv_icmp_ge (tgt := 117) hx hb d_M_meet_18 (by decide) (fun c12 => ?_) (fun c12 => ?_)
      · skip
        have h := git c12 h
        exact hK117 _ w H locs ls h hI (lv_sub hl [3] rfl)
      · skip
        have h := gie c12 h
        refine lv_iload_n hx hb d_M_meet_21 rfl (lv_at hl 3 rfl) ?_
        refine lv_iconst (v := 2) hx hb d_M_meet_22 (by decide) ?_
        refine lv_icmp_ge (tgt := 117) hx hb d_M_meet_23 (by decide) (fun c13 => ?_) (fun c13 => ?_)
        · skip
          have h := git c13 h
          exact hK117 _ w H locs ls h hI (lv_sub hl [3] rfl)
        · skip
          have h := gie c13 h
          refine lv_iconst (v := 0) hx hb d_M_meet_26 (by decide) ?_
          refine lv_istore (lv' := [(5, .int 0), (0, .ref a0), (1, .int p1), (2, .int p2), (3, .int z2), (4, .int z3)]) hx hb d_M_meet_27 hl (by decide) rfl (fun ls hl => ?_)
          obtain ⟨K111, eK111, h⟩ := gj h
          have hK111 : ∀ (x14 : Int32) (w : gW) (H : Heap) (locs : List Loc) (ls : Array Slot), K111 x14 w = some r → gI D s A w H locs → lv_has ls 7 [(0, .ref a0), (1, .int p1), (2, .int p2), (3, .int x14), (4, .int z3)] → W p l e rm_M_meet s m args below meth c H locs 0 0 Q (F0 m 111 ls []) := by
            intro x14 w H locs ls h hI hl
            have h := gk2 eK111 h
            refine lv_iinc (v := z3 + 1) (lv' := [(4, .int (z3 + 1)), (0, .ref a0), (1, .int p1), (2, .int p2), (3, .int x14)]) hx hb d_M_meet_111 hl (k := 4) rfl rfl (by decide) rfl (fun ls hl => ?_)
            refine lv_goto (tgt := 5) hx hb d_M_meet_114 (by decide) ?_
            exact ih _ _ w H locs ls h hI (lv_sub hl [1, 2, 3, 4, 0] rfl)
          have hL29 : ∀ (n : Nat), ∀ (z15 : Int32) (z16 : Int32) (w : gW) (H : Heap) (locs : List Loc) (ls : Array Slot), f_M_meet_L29 g0 a0 p1 p2 z3 K111 n z15 z16 w = some r → gI D s A w H locs → lv_has ls 7 [(0, .ref a0), (1, .int p1), (2, .int p2), (4, .int z3), (3, .int z15), (5, .int z16)] → W p l e rm_M_meet s m args below meth c H locs 0 0 Q (F0 m 29 ls []) := by
            intro n
            induction n with
            | zero => intro z15 z16 w H locs ls h hI hl; exact absurd h (by simp [f_M_meet_L29])
            | succ n ih =>
              intro z15 z16 w H locs ls h hI hl
              rw [f_M_meet_L29] at h
              refine lv_iload hx hb d_M_meet_29 (lv_at hl 5 rfl) ?_
              refine lv_aload_n hx hb d_M_meet_31 rfl (lv_at hl 0 rfl) ?_
              obtain ⟨v17, e18, h⟩ := gb h
              refine gw_getA hx hb hT hown hK hI (ci := 7) rfl i_7 3 (by decide) wd_789 (fun _ h9 => h9) e18 d_M_meet_32 ?_
              refine lv_aload_n hx hb d_M_meet_35 rfl (lv_at hl 0 rfl) ?_
              obtain ⟨v19, e20, h⟩ := gb h
              refine gw_getA hx hb hT hown hK hI (ci := 7) rfl i_7 13 (by decide) wd_799 (fun _ h9 => h9) e20 d_M_meet_36 ?_
              refine lv_iload_n hx hb d_M_meet_39 rfl (lv_at hl 2 rfl) ?_
              obtain ⟨v21, e22, h⟩ := gb h
              refine gw_aldI hx hb hK hI e22 d_M_meet_40 ?_
              obtain ⟨v23, e24, h⟩ := gb h
              refine gw_aldI hx hb hK hI e24 d_M_meet_41 ?_
              refine lv_icmp_ge (tgt := 111) hx hb d_M_meet_42 (by decide) (fun c25 => ?_) (fun c25 => ?_)
              · skip
                have h := git c25 h
                exact hK111 _ w H locs ls h hI (lv_sub hl [0, 1, 2, 4, 3] rfl)
              · skip
                have h := gie c25 h
                refine lv_iload_n hx hb d_M_meet_45 rfl (lv_at hl 4 rfl) ?_
                refine lv_iconst (v := 2) hx hb d_M_meet_46 (by decide) ?_
                refine lv_icmp_ge (tgt := 111) hx hb d_M_meet_47 (by decide) (fun c26 => ?_) (fun c26 => ?_)
                · skip
                  have h := git c26 h
                  exact hK111 _ w H locs ls h hI (lv_sub hl [0, 1, 2, 4, 3] rfl)
                · skip
                  have h := gie c26 h
                  refine lv_aload_n hx hb d_M_meet_50 rfl (lv_at hl 0 rfl) ?_
                  refine lv_iconst (v := 0) hx hb d_M_meet_51 (by decide) ?_
                  refine lv_iload_n hx hb d_M_meet_52 rfl (lv_at hl 1 rfl) ?_
                  refine lv_bipush (v := 12) hx hb d_M_meet_53 (by decide) ?_
                  refine lv_aload_n hx hb d_M_meet_55 rfl (lv_at hl 0 rfl) ?_
                  obtain ⟨v27, e28, h⟩ := gb h
                  refine gw_getA hx hb hT hown hK hI (ci := 7) rfl i_7 13 (by decide) wd_799 (fun _ h9 => h9) e28 d_M_meet_56 ?_
                  refine lv_iload_n hx hb d_M_meet_59 rfl (lv_at hl 1 rfl) ?_
                  obtain ⟨v29, e30, h⟩ := gb h
                  refine gw_aldI hx hb hK hI e30 d_M_meet_60 ?_
                  refine lv_imul hx hb d_M_meet_61 ?_
                  refine lv_iload hx hb d_M_meet_62 (lv_at hl 3 rfl) ?_
                  refine lv_iadd hx hb d_M_meet_64 ?_
                  obtain ⟨q33, e34, h⟩ := gb h
                  obtain ⟨u31, e32⟩ := gsome h
                  refine gw_callV e32 h (gw_runV (As := [.int 0, .int p1, .int ((12 * v29) + z3)]) (rest := []) hx hb hml hown hT hK hZ hA hI (ci := 7) rfl e34 (m_M_lay l hst D g0 a0 0 p1 ((12 * v29) + z3) w u31 e32) ce_M_lay wd_967 wd_25 ⟨by decide, by decide⟩ rfl rfl hl.1 rfl (lv_room (Nat.le_of_ble_eq_true rfl)) d_M_meet_65 ⟨(show 0 + 0 ≤ 0 by omega), (show 0 + 0 ≤ 0 by omega)⟩) hI hA hexc (show 0 + 0 ≤ 0 by omega) (show 0 + 0 ≤ 0 by omega) (fun v35 w H locs h hI => ?_)
                  refine lv_aload_n hx hb d_M_meet_68 rfl (lv_at hl 0 rfl) ?_
                  refine lv_iconst (v := 1) hx hb d_M_meet_69 (by decide) ?_
                  refine lv_iload_n hx hb d_M_meet_70 rfl (lv_at hl 2 rfl) ?_
                  refine lv_bipush (v := 12) hx hb d_M_meet_71 (by decide) ?_
                  refine lv_aload_n hx hb d_M_meet_73 rfl (lv_at hl 0 rfl) ?_
                  obtain ⟨v36, e37, h⟩ := gb h
                  refine gw_getA hx hb hT hown hK hI (ci := 7) rfl i_7 13 (by decide) wd_799 (fun _ h9 => h9) e37 d_M_meet_74 ?_
                  refine lv_iload_n hx hb d_M_meet_77 rfl (lv_at hl 2 rfl) ?_
                  obtain ⟨v38, e39, h⟩ := gb h
                  refine gw_aldI hx hb hK hI e39 d_M_meet_78 ?_
                  refine lv_imul hx hb d_M_meet_79 ?_
                  refine lv_iload hx hb d_M_meet_80 (lv_at hl 5 rfl) ?_
                  refine lv_iadd hx hb d_M_meet_82 ?_
                  obtain ⟨q42, e43, h⟩ := gb h
                  obtain ⟨u40, e41⟩ := gsome h
                  refine gw_callV e41 h (gw_runV (As := [.int 1, .int p2, .int ((12 * v38) + z16)]) (rest := []) hx hb hml hown hT hK hZ hA hI (ci := 7) rfl e43 (m_M_lay l hst D g0 a0 1 p2 ((12 * v38) + z16) w u40 e41) ce_M_lay wd_967 wd_25 ⟨by decide, by decide⟩ rfl rfl hl.1 rfl (lv_room (Nat.le_of_ble_eq_true rfl)) d_M_meet_83 ⟨(show 0 + 0 ≤ 0 by omega), (show 0 + 0 ≤ 0 by omega)⟩) hI hA hexc (show 0 + 0 ≤ 0 by omega) (show 0 + 0 ≤ 0 by omega) (fun v44 w H locs h hI => ?_)
                  refine lv_aload_n hx hb d_M_meet_86 rfl (lv_at hl 0 rfl) ?_
                  obtain ⟨q47, e48, h⟩ := gb h
                  obtain ⟨u45, e46⟩ := gsome h
                  refine gw_callI e46 h (gw_runV (As := []) (rest := []) hx hb hml hown hT hK hZ hA hI (ci := 7) rfl e48 (m_M_both l hst D g0 a0 w u45 e46) ce_M_both wd_1000 wd_33 ⟨by decide, by decide⟩ rfl rfl hl.1 rfl (lv_room (Nat.le_of_ble_eq_true rfl)) d_M_meet_87 ⟨(show 0 + 0 ≤ 0 by omega), (show 0 + 0 ≤ 0 by omega)⟩) hI hA hexc (show 0 + 0 ≤ 0 by omega) (show 0 + 0 ≤ 0 by omega) (fun v49 w H locs h hI => ?_)
                  refine lv_istore (lv' := [(6, .int v49), (0, .ref a0), (1, .int p1), (2, .int p2), (4, .int z3), (3, .int z15), (5, .int z16)]) hx hb d_M_meet_90 hl (by decide) rfl (fun ls hl => ?_)
                  refine lv_iload hx hb d_M_meet_92 (lv_at hl 0 rfl) ?_
                  refine lv_iload_n hx hb d_M_meet_94 rfl (lv_at hl 5 rfl) ?_
                  obtain ⟨K104, eK104, h⟩ := gj h
                  have hK104 : ∀ (y50 : Int32) (w : gW) (H : Heap) (locs : List Loc) (ls : Array Slot), K104 y50 w = some r → gI D s A w H locs → lv_has ls 7 [(0, .ref a0), (1, .int p1), (2, .int p2), (4, .int z3), (5, .int z16)] → W p l e rm_M_meet s m args below meth c H locs 0 0 Q (F0 m 104 ls [.int y50]) := by
                    intro y50 w H locs ls h hI hl
                    have h := gk2 eK104 h
                    refine lv_istore_n (lv' := [(3, .int y50), (0, .ref a0), (1, .int p1), (2, .int p2), (4, .int z3), (5, .int z16)]) hx hb d_M_meet_104 rfl hl (by decide) rfl (fun ls hl => ?_)
                    refine lv_iinc (v := z16 + 1) (lv' := [(5, .int (z16 + 1)), (3, .int y50), (0, .ref a0), (1, .int p1), (2, .int p2), (4, .int z3)]) hx hb d_M_meet_105 hl (k := 5) rfl rfl (by decide) rfl (fun ls hl => ?_)
                    refine lv_goto (tgt := 29) hx hb d_M_meet_108 (by decide) ?_
                    exact ih _ _ w H locs ls h hI (lv_sub hl [2, 3, 4, 5, 1, 0] rfl)
                  refine lv_icmp_le (tgt := 103) hx hb d_M_meet_95 (by decide) (fun c51 => ?_) (fun c51 => ?_)
                  · skip
                    have h := git c51 h
                    refine lv_iload_n hx hb d_M_meet_103 rfl (lv_at hl 5 rfl) ?_
                    exact hK104 _ w H locs ls h hI (lv_sub hl [1, 2, 3, 4, 6] rfl)
                  · skip
                    have h := gie c51 h
                    refine lv_iload hx hb d_M_meet_98 (lv_at hl 0 rfl) ?_
                    refine lv_goto (tgt := 104) hx hb d_M_meet_100 (by decide) ?_
                    exact hK104 _ w H locs ls h hI (lv_sub hl [1, 2, 3, 4, 6] rfl)
          exact hL29 64 _ _ w H locs ls h hI (lv_sub hl [1, 2, 3, 5, 4, 0] rfl)
  exact hL5 64 _ _ w H locs ls h hI (lv_sub hl [2, 3, 4, 1, 0] rfl)

abbrev b_M_pair : ByteArray := prog_9_method_55_code
def y_M_pair : MethodName := ⟨"BodySolidsModel", "pair", "(II)I"⟩
theorem d_M_pair_0 : decode b_M_pair 0 = .ok (.aload_n 0, 1) := by decide +kernel
theorem d_M_pair_1 : decode b_M_pair 1 = .ok (.iload_n 2, 1) := by decide +kernel
theorem d_M_pair_2 : decode b_M_pair 2 = .ok (.ifCond .eq 8, 3) := by decide +kernel
theorem d_M_pair_5 : decode b_M_pair 5 = .ok (.iload_n 2, 1) := by decide +kernel
theorem d_M_pair_6 : decode b_M_pair 6 = .ok (.iconst 1, 1) := by decide +kernel
theorem d_M_pair_7 : decode b_M_pair 7 = .ok (.if_icmp .ne 7, 3) := by decide +kernel
theorem d_M_pair_10 : decode b_M_pair 10 = .ok (.iconst 0, 1) := by decide +kernel
theorem d_M_pair_11 : decode b_M_pair 11 = .ok (.goto 4, 3) := by decide +kernel
theorem d_M_pair_14 : decode b_M_pair 14 = .ok (.iconst 1, 1) := by decide +kernel
theorem d_M_pair_15 : decode b_M_pair 15 = .ok (.putfield 80, 3) := by decide +kernel
theorem d_M_pair_18 : decode b_M_pair 18 = .ok (.aload_n 0, 1) := by decide +kernel
theorem d_M_pair_19 : decode b_M_pair 19 = .ok (.getfield 80, 3) := by decide +kernel
theorem d_M_pair_22 : decode b_M_pair 22 = .ok (.ifCond .eq 5, 3) := by decide +kernel
theorem d_M_pair_25 : decode b_M_pair 25 = .ok (.iconst 0, 1) := by decide +kernel
theorem d_M_pair_26 : decode b_M_pair 26 = .ok (.ireturn, 1) := by decide +kernel
theorem d_M_pair_27 : decode b_M_pair 27 = .ok (.iload_n 1, 1) := by decide +kernel
theorem d_M_pair_28 : decode b_M_pair 28 = .ok (.istore_n 3, 1) := by decide +kernel
theorem d_M_pair_29 : decode b_M_pair 29 = .ok (.iconst 0, 1) := by decide +kernel
theorem d_M_pair_30 : decode b_M_pair 30 = .ok (.istore 4, 2) := by decide +kernel
theorem d_M_pair_32 : decode b_M_pair 32 = .ok (.iload 4, 2) := by decide +kernel
theorem d_M_pair_34 : decode b_M_pair 34 = .ok (.aload_n 0, 1) := by decide +kernel
theorem d_M_pair_35 : decode b_M_pair 35 = .ok (.getfield 95, 3) := by decide +kernel
theorem d_M_pair_38 : decode b_M_pair 38 = .ok (.if_icmp .ge 68, 3) := by decide +kernel
theorem d_M_pair_41 : decode b_M_pair 41 = .ok (.iload_n 1, 1) := by decide +kernel
theorem d_M_pair_42 : decode b_M_pair 42 = .ok (.ifCond .lt 64, 3) := by decide +kernel
theorem d_M_pair_45 : decode b_M_pair 45 = .ok (.iload 4, 2) := by decide +kernel
theorem d_M_pair_47 : decode b_M_pair 47 = .ok (.iconst 1, 1) := by decide +kernel
theorem d_M_pair_48 : decode b_M_pair 48 = .ok (.iadd, 1) := by decide +kernel
theorem d_M_pair_49 : decode b_M_pair 49 = .ok (.istore 5, 2) := by decide +kernel
theorem d_M_pair_51 : decode b_M_pair 51 = .ok (.iload 5, 2) := by decide +kernel
theorem d_M_pair_53 : decode b_M_pair 53 = .ok (.aload_n 0, 1) := by decide +kernel
theorem d_M_pair_54 : decode b_M_pair 54 = .ok (.getfield 95, 3) := by decide +kernel
theorem d_M_pair_57 : decode b_M_pair 57 = .ok (.if_icmp .ge 43, 3) := by decide +kernel
theorem d_M_pair_60 : decode b_M_pair 60 = .ok (.aload_n 0, 1) := by decide +kernel
theorem d_M_pair_61 : decode b_M_pair 61 = .ok (.iload 4, 2) := by decide +kernel
theorem d_M_pair_63 : decode b_M_pair 63 = .ok (.iload 5, 2) := by decide +kernel
theorem d_M_pair_65 : decode b_M_pair 65 = .ok (.invokevirtual 259, 3) := by decide +kernel
theorem d_M_pair_68 : decode b_M_pair 68 = .ok (.iconst 2, 1) := by decide +kernel
theorem d_M_pair_69 : decode b_M_pair 69 = .ok (.if_icmp .eq 6, 3) := by decide +kernel
theorem d_M_pair_72 : decode b_M_pair 72 = .ok (.goto 22, 3) := by decide +kernel
theorem d_M_pair_75 : decode b_M_pair 75 = .ok (.iload_n 3, 1) := by decide +kernel
theorem d_M_pair_76 : decode b_M_pair 76 = .ok (.ifCond .ne 15, 3) := by decide +kernel
theorem d_M_pair_79 : decode b_M_pair 79 = .ok (.iload_n 2, 1) := by decide +kernel
theorem d_M_pair_80 : decode b_M_pair 80 = .ok (.ifCond .ne 8, 3) := by decide +kernel
theorem d_M_pair_83 : decode b_M_pair 83 = .ok (.iload 4, 2) := by decide +kernel
theorem d_M_pair_85 : decode b_M_pair 85 = .ok (.goto 5, 3) := by decide +kernel
theorem d_M_pair_88 : decode b_M_pair 88 = .ok (.iload 5, 2) := by decide +kernel
theorem d_M_pair_90 : decode b_M_pair 90 = .ok (.ireturn, 1) := by decide +kernel
theorem d_M_pair_91 : decode b_M_pair 91 = .ok (.iinc 3 (-1), 3) := by decide +kernel
theorem d_M_pair_94 : decode b_M_pair 94 = .ok (.iinc 5 1, 3) := by decide +kernel
theorem d_M_pair_97 : decode b_M_pair 97 = .ok (.goto (-46), 3) := by decide +kernel
theorem d_M_pair_100 : decode b_M_pair 100 = .ok (.iinc 4 1, 3) := by decide +kernel
theorem d_M_pair_103 : decode b_M_pair 103 = .ok (.goto (-71), 3) := by decide +kernel
theorem d_M_pair_106 : decode b_M_pair 106 = .ok (.iconst (-1), 1) := by decide +kernel
theorem d_M_pair_107 : decode b_M_pair 107 = .ok (.ireturn, 1) := by decide +kernel
abbrev rm_M_pair : Room := { frames := 6, cells := 0, slots := 0, locals := 189 }
theorem ce_M_pair : gCe y_M_pair (.code y_M_pair b_M_pair 6 (some .int)) 6 2 false := gCe.code wd_1074 wd_57 wd_1072 (by decide) (by decide +kernel)
def f_M_pair_L51 (g0 : gG) (c0 : Nat) (c1 : Int32) (c2 : Int32) (c4 : Int32) (K100 : Int32 → gW → gX Int32) (K79 : Int32 → Int32 → gW → gX Int32) : Nat → Int32 → Int32 → gW → gX Int32
  | 0, _, _, _ => none
  | n + 1, z3, z5, w => (gfI w c0 7 12).bind fun v15 => if v15 ≤ z5 then (K100 z3 w) else ((gck w c0 7).bind fun _ => gbind (f_M_meet g0 c0 c4 z5 w) fun v22 w => gjoin (fun K94 => if v22 = 2 then (if z3 = 0 then (K79 c4 z5 w) else (K94 (z3 + (-1)) w)) else (K94 z3 w)) (fun (x23 : Int32) (w : gW) => f_M_pair_L51 g0 c0 c1 c2 c4 K100 K79 n x23 (z5 + 1) w))
def f_M_pair_L32 (g0 : gG) (c0 : Nat) (c1 : Int32) (c2 : Int32) (K106 : gW → gX Int32) (K79 : Int32 → Int32 → gW → gX Int32) : Nat → Int32 → Int32 → gW → gX Int32
  | 0, _, _, _ => none
  | n + 1, z3, z4, w => (gfI w c0 7 12).bind fun v10 => if v10 ≤ z4 then (K106 w) else (if c1 < 0 then (K106 w) else (gjoin (fun K100 => f_M_pair_L51 g0 c0 c1 c2 z4 K100 K79 64 z3 (z4 + 1) w) (fun (x14 : Int32) (w : gW) => f_M_pair_L32 g0 c0 c1 c2 K106 K79 n x14 (z4 + 1) w)))
def f_M_pair (g0 : gG) (a0 : Nat) (p1 : Int32) (p2 : Int32) (w : gW) : gX Int32 := gjoin (fun K15 => gjoin (fun K10 => if p2 = 0 then (K10 w) else (if p2 = 1 then (K10 w) else (K15 1 w))) (fun (w : gW) => K15 0 w)) (fun (y1 : Int32) (w : gW) => (gp w a0 7 0 (.int y1)).bind fun w => (gfI w a0 7 0).bind fun v3 => if v3 = 0 then (gjoin (fun K106 => gjoin (fun K79 => f_M_pair_L32 g0 a0 p1 p2 K106 K79 64 p1 0 w) (fun (x6 : Int32) (x7 : Int32) (w : gW) => gjoin (fun K90 => if p2 = 0 then (K90 x6 w) else (K90 x7 w)) (fun (y8 : Int32) (w : gW) => some (.inr y8, w)))) (fun (w : gW) => some (.inr (-1), w))) else (some (.inr 0, w)))
set_option maxHeartbeats 4000000 in
set_option maxRecDepth 100000 in
theorem m_M_pair (l : Launch) (hst : l.stackTraces = false) (D : gD) (g0 : gG) (a0 : Nat) (p1 : Int32) (p2 : Int32) (w : gW) (r : (String ⊕ Int32) × gW) (h : f_M_pair g0 a0 p1 p2 w = some r) : gMet l y_M_pair (.code y_M_pair b_M_pair 6 (some .int)) rm_M_pair D g0 [.ref a0, .int p1, .int p2] w (goI r) := by
  refine gw_ofI (by decide +kernel) (Nat.le_of_ble_eq_true rfl) ?_
  intro p e s m below meth c ls args A Q hx hb hml hown hlocks hin hnt hT hK hZ hA hret hexc hthr hI hl
  obtain ⟨H, hH⟩ : ∃ H, H = s.heap := ⟨_, rfl⟩
  rw [← hH] at hI ⊢
  obtain ⟨locs, hlocs⟩ : ∃ z : List Loc, z = [] := ⟨_, rfl⟩
  rw [← hlocs] at hI ⊢
  have hl : lv_has ls 6 [(0, .ref a0), (1, .int p1), (2, .int p2)] := hl
  unfold f_M_pair at h
  refine lv_aload_n hx hb d_M_pair_0 rfl (lv_at hl 0 rfl) ?_
  refine lv_iload_n hx hb d_M_pair_1 rfl (lv_at hl 2 rfl) ?_
  obtain ⟨K15, eK15, h⟩ := gj h
  have hK15 : ∀ (y1 : Int32) (w : gW) (H : Heap) (locs : List Loc) (ls : Array Slot), K15 y1 w = some r → gI D s A w H locs → lv_has ls 6 [(0, .ref a0), (1, .int p1), (2, .int p2)] → W p l e rm_M_pair s m args below meth c H locs 0 0 Q (F0 m 15 ls [.int y1, .ref a0]) := by
    intro y1 w H locs ls h hI hl
    have h := gk2 eK15 h
    obtain ⟨w, e2, h⟩ := gb h
    refine gw_put hx hb hT hown hK hI (ci := 7) rfl i_7 t_7 t_7_ok n_7 0 (by decide) wd_786 (fun _ h9 => h9) rfl (ty := .int) (by decide +kernel) rfl rfl e2 d_M_pair_15 (fun H locs hI => ?_)
    refine lv_aload_n hx hb d_M_pair_18 rfl (lv_at hl 0 rfl) ?_
    obtain ⟨v3, e4, h⟩ := gb h
    refine gw_getI hx hb hT hown hK hI (ci := 7) rfl i_7 0 (by decide) wd_786 (fun _ h9 => h9) e4 d_M_pair_19 ?_
    refine lv_if_eq (tgt := 27) hx hb d_M_pair_22 (by decide) (fun c5 => ?_) (fun c5 => ?_)
    · skip
      have h := git c5 h
      refine lv_iload_n hx hb d_M_pair_27 rfl (lv_at hl 1 rfl) ?_
      refine lv_istore_n (lv' := [(3, .int p1), (0, .ref a0), (1, .int p1), (2, .int p2)]) hx hb d_M_pair_28 rfl hl (by decide) rfl (fun ls hl => ?_)
      refine lv_iconst (v := 0) hx hb d_M_pair_29 (by decide) ?_
      refine lv_istore (lv' := [(4, .int 0), (3, .int p1), (0, .ref a0), (1, .int p1), (2, .int p2)]) hx hb d_M_pair_30 hl (by decide) rfl (fun ls hl => ?_)
      obtain ⟨K106, eK106, h⟩ := gj h
      have hK106 : ∀ (w : gW) (H : Heap) (locs : List Loc) (ls : Array Slot), K106 w = some r → gI D s A w H locs → lv_has ls 6 [] → W p l e rm_M_pair s m args below meth c H locs 0 0 Q (F0 m 106 ls []) := by
        intro w H locs ls h hI hl
        have h := gk1 eK106 h
        refine lv_iconst (v := -1) hx hb d_M_pair_106 (by decide) ?_
        exact W.widen (show 0 ≤ 0 by omega) (show 0 ≤ 0 by omega) (hret _ _ (Option.some.inj h).symm _ _ _ _ d_M_pair_107 hI)
      obtain ⟨K79, eK79, h⟩ := gj h
      have hK79 : ∀ (x6 : Int32) (x7 : Int32) (w : gW) (H : Heap) (locs : List Loc) (ls : Array Slot), K79 x6 x7 w = some r → gI D s A w H locs → lv_has ls 6 [(2, .int p2), (4, .int x6), (5, .int x7)] → W p l e rm_M_pair s m args below meth c H locs 0 0 Q (F0 m 79 ls []) := by
        intro x6 x7 w H locs ls h hI hl
        have h := gk3 eK79 h
        refine lv_iload_n hx hb d_M_pair_79 rfl (lv_at hl 0 rfl) ?_
        obtain ⟨K90, eK90, h⟩ := gj h
        have hK90 : ∀ (y8 : Int32) (w : gW) (H : Heap) (locs : List Loc) (ls : Array Slot), K90 y8 w = some r → gI D s A w H locs → lv_has ls 6 [] → W p l e rm_M_pair s m args below meth c H locs 0 0 Q (F0 m 90 ls [.int y8]) := by
          intro y8 w H locs ls h hI hl
          have h := gk2 eK90 h
          exact W.widen (show 0 ≤ 0 by omega) (show 0 ≤ 0 by omega) (hret _ _ (Option.some.inj h).symm _ _ _ _ d_M_pair_90 hI)
        refine lv_if_ne (tgt := 88) hx hb d_M_pair_80 (by decide) (fun c9 => ?_) (fun c9 => ?_)
        · skip
          have h := gie c9 h
          refine lv_iload hx hb d_M_pair_88 (lv_at hl 2 rfl) ?_
          exact hK90 _ w H locs ls h hI (lv_sub hl [] rfl)
        · skip
          have h := git c9 h
          refine lv_iload hx hb d_M_pair_83 (lv_at hl 1 rfl) ?_
          refine lv_goto (tgt := 90) hx hb d_M_pair_85 (by decide) ?_
          exact hK90 _ w H locs ls h hI (lv_sub hl [] rfl)
      have hL32 : ∀ (n : Nat), ∀ (z10 : Int32) (z11 : Int32) (w : gW) (H : Heap) (locs : List Loc) (ls : Array Slot), f_M_pair_L32 g0 a0 p1 p2 K106 K79 n z10 z11 w = some r → gI D s A w H locs → lv_has ls 6 [(0, .ref a0), (1, .int p1), (2, .int p2), (3, .int z10), (4, .int z11)] → W p l e rm_M_pair s m args below meth c H locs 0 0 Q (F0 m 32 ls []) := by
        intro n
        induction n with
        | zero => intro z10 z11 w H locs ls h hI hl; exact absurd h (by simp [f_M_pair_L32])
        | succ n ih =>
          intro z10 z11 w H locs ls h hI hl
          rw [f_M_pair_L32] at h
          refine lv_iload hx hb d_M_pair_32 (lv_at hl 4 rfl) ?_
          refine lv_aload_n hx hb d_M_pair_34 rfl (lv_at hl 0 rfl) ?_
          obtain ⟨v12, e13, h⟩ := gb h
          refine gw_getI hx hb hT hown hK hI (ci := 7) rfl i_7 12 (by decide) wd_798 (fun _ h9 => h9) e13 d_M_pair_35 ?_
          refine lv_icmp_ge (tgt := 106) hx hb d_M_pair_38 (by decide) (fun c14 => ?_) (fun c14 => ?_)
          · skip
            have h := git c14 h
            exact hK106 w H locs ls h hI (lv_sub hl [] rfl)
          · skip
            have h := gie c14 h
            refine lv_iload_n hx hb d_M_pair_41 rfl (lv_at hl 1 rfl) ?_
            refine lv_if_lt (tgt := 106) hx hb d_M_pair_42 (by decide) (fun c15 => ?_) (fun c15 => ?_)
            · skip
              have h := git c15 h
              exact hK106 w H locs ls h hI (lv_sub hl [] rfl)
            · skip
              have h := gie c15 h
              refine lv_iload hx hb d_M_pair_45 (lv_at hl 4 rfl) ?_
              refine lv_iconst (v := 1) hx hb d_M_pair_47 (by decide) ?_
              refine lv_iadd hx hb d_M_pair_48 ?_
              refine lv_istore (lv' := [(5, .int (z11 + 1)), (0, .ref a0), (1, .int p1), (2, .int p2), (3, .int z10), (4, .int z11)]) hx hb d_M_pair_49 hl (by decide) rfl (fun ls hl => ?_)
              obtain ⟨K100, eK100, h⟩ := gj h
              have hK100 : ∀ (x16 : Int32) (w : gW) (H : Heap) (locs : List Loc) (ls : Array Slot), K100 x16 w = some r → gI D s A w H locs → lv_has ls 6 [(0, .ref a0), (1, .int p1), (2, .int p2), (3, .int x16), (4, .int z11)] → W p l e rm_M_pair s m args below meth c H locs 0 0 Q (F0 m 100 ls []) := by
                intro x16 w H locs ls h hI hl
                have h := gk2 eK100 h
                refine lv_iinc (v := z11 + 1) (lv' := [(4, .int (z11 + 1)), (0, .ref a0), (1, .int p1), (2, .int p2), (3, .int x16)]) hx hb d_M_pair_100 hl (k := 4) rfl rfl (by decide) rfl (fun ls hl => ?_)
                refine lv_goto (tgt := 32) hx hb d_M_pair_103 (by decide) ?_
                exact ih _ _ w H locs ls h hI (lv_sub hl [1, 2, 3, 4, 0] rfl)
              have hL51 : ∀ (n : Nat), ∀ (z17 : Int32) (z18 : Int32) (w : gW) (H : Heap) (locs : List Loc) (ls : Array Slot), f_M_pair_L51 g0 a0 p1 p2 z11 K100 K79 n z17 z18 w = some r → gI D s A w H locs → lv_has ls 6 [(0, .ref a0), (1, .int p1), (2, .int p2), (4, .int z11), (3, .int z17), (5, .int z18)] → W p l e rm_M_pair s m args below meth c H locs 0 0 Q (F0 m 51 ls []) := by
                intro n
                induction n with
                | zero => intro z17 z18 w H locs ls h hI hl; exact absurd h (by simp [f_M_pair_L51])
                | succ n ih =>
                  intro z17 z18 w H locs ls h hI hl
                  rw [f_M_pair_L51] at h
                  refine lv_iload hx hb d_M_pair_51 (lv_at hl 5 rfl) ?_
                  refine lv_aload_n hx hb d_M_pair_53 rfl (lv_at hl 0 rfl) ?_
                  obtain ⟨v19, e20, h⟩ := gb h
                  refine gw_getI hx hb hT hown hK hI (ci := 7) rfl i_7 12 (by decide) wd_798 (fun _ h9 => h9) e20 d_M_pair_54 ?_
                  refine lv_icmp_ge (tgt := 100) hx hb d_M_pair_57 (by decide) (fun c21 => ?_) (fun c21 => ?_)
                  · skip
                    have h := git c21 h
                    exact hK100 _ w H locs ls h hI (lv_sub hl [0, 1, 2, 4, 3] rfl)
                  · skip
                    have h := gie c21 h
                    refine lv_aload_n hx hb d_M_pair_60 rfl (lv_at hl 0 rfl) ?_
                    refine lv_iload hx hb d_M_pair_61 (lv_at hl 3 rfl) ?_
                    refine lv_iload hx hb d_M_pair_63 (lv_at hl 5 rfl) ?_
                    obtain ⟨q24, e25, h⟩ := gb h
                    obtain ⟨u22, e23⟩ := gsome h
                    refine gw_callI e23 h (gw_runV (As := [.int z11, .int z18]) (rest := []) hx hb hml hown hT hK hZ hA hI (ci := 7) rfl e25 (m_M_meet l hst D g0 a0 z11 z18 w u22 e23) ce_M_meet wd_963 wd_24 ⟨by decide, by decide⟩ rfl rfl hl.1 rfl (lv_room (Nat.le_of_ble_eq_true rfl)) d_M_pair_65 ⟨(show 0 + 0 ≤ 0 by omega), (show 0 + 0 ≤ 0 by omega)⟩) hI hA hexc (show 0 + 0 ≤ 0 by omega) (show 0 + 0 ≤ 0 by omega) (fun v26 w H locs h hI => ?_)
                    refine lv_iconst (v := 2) hx hb d_M_pair_68 (by decide) ?_
                    obtain ⟨K94, eK94, h⟩ := gj h
                    have hK94 : ∀ (x27 : Int32) (w : gW) (H : Heap) (locs : List Loc) (ls : Array Slot), K94 x27 w = some r → gI D s A w H locs → lv_has ls 6 [(0, .ref a0), (1, .int p1), (2, .int p2), (3, .int x27), (4, .int z11), (5, .int z18)] → W p l e rm_M_pair s m args below meth c H locs 0 0 Q (F0 m 94 ls []) := by
                      intro x27 w H locs ls h hI hl
                      have h := gk2 eK94 h
                      refine lv_iinc (v := z18 + 1) (lv' := [(5, .int (z18 + 1)), (0, .ref a0), (1, .int p1), (2, .int p2), (3, .int x27), (4, .int z11)]) hx hb d_M_pair_94 hl (k := 5) rfl rfl (by decide) rfl (fun ls hl => ?_)
                      refine lv_goto (tgt := 51) hx hb d_M_pair_97 (by decide) ?_
                      exact ih _ _ w H locs ls h hI (lv_sub hl [1, 2, 3, 5, 4, 0] rfl)
                    refine lv_icmp_eq (tgt := 75) hx hb d_M_pair_69 (by decide) (fun c28 => ?_) (fun c28 => ?_)
                    · skip
                      have h := git c28 h
                      refine lv_iload_n hx hb d_M_pair_75 rfl (lv_at hl 4 rfl) ?_
                      refine lv_if_ne (tgt := 91) hx hb d_M_pair_76 (by decide) (fun c29 => ?_) (fun c29 => ?_)
                      · skip
                        have h := gie c29 h
                        refine lv_iinc (v := z17 + (-1)) (lv' := [(3, .int (z17 + (-1))), (0, .ref a0), (1, .int p1), (2, .int p2), (4, .int z11), (5, .int z18)]) hx hb d_M_pair_91 hl (k := 4) rfl rfl (by decide) rfl (fun ls hl => ?_)
                        exact hK94 _ w H locs ls h hI (lv_sub hl [1, 2, 3, 0, 4, 5] rfl)
                      · skip
                        have h := git c29 h
                        exact hK79 _ _ w H locs ls h hI (lv_sub hl [2, 3, 5] rfl)
                    · skip
                      have h := gie c28 h
                      refine lv_goto (tgt := 94) hx hb d_M_pair_72 (by decide) ?_
                      exact hK94 _ w H locs ls h hI (lv_sub hl [0, 1, 2, 4, 3, 5] rfl)
              exact hL51 64 _ _ w H locs ls h hI (lv_sub hl [1, 2, 3, 5, 4, 0] rfl)
      exact hL32 64 _ _ w H locs ls h hI (lv_sub hl [2, 3, 4, 1, 0] rfl)
    · skip
      have h := gie c5 h
      refine lv_iconst (v := 0) hx hb d_M_pair_25 (by decide) ?_
      exact W.widen (show 0 ≤ 0 by omega) (show 0 ≤ 0 by omega) (hret _ _ (Option.some.inj h).symm _ _ _ _ d_M_pair_26 hI)
  obtain ⟨K10, eK10, h⟩ := gj h
  have hK10 : ∀ (w : gW) (H : Heap) (locs : List Loc) (ls : Array Slot), K10 w = some r → gI D s A w H locs → lv_has ls 6 [(0, .ref a0), (1, .int p1), (2, .int p2)] → W p l e rm_M_pair s m args below meth c H locs 0 0 Q (F0 m 10 ls [.ref a0]) := by
    intro w H locs ls h hI hl
    have h := gk1 eK10 h
    refine lv_iconst (v := 0) hx hb d_M_pair_10 (by decide) ?_
    refine lv_goto (tgt := 15) hx hb d_M_pair_11 (by decide) ?_
    exact hK15 _ w H locs ls h hI (lv_sub hl [0, 1, 2] rfl)
  refine lv_if_eq (tgt := 10) hx hb d_M_pair_2 (by decide) (fun c30 => ?_) (fun c30 => ?_)
  · skip
    have h := git c30 h
    exact hK10 w H locs ls h hI (lv_sub hl [0, 1, 2] rfl)
  · skip
    have h := gie c30 h
    refine lv_iload_n hx hb d_M_pair_5 rfl (lv_at hl 2 rfl) ?_
    refine lv_iconst (v := 1) hx hb d_M_pair_6 (by decide) ?_
    refine lv_icmp_ne (tgt := 14) hx hb d_M_pair_7 (by decide) (fun c31 => ?_) (fun c31 => ?_)
    · skip
      have h := gie c31 h
      refine lv_iconst (v := 1) hx hb d_M_pair_14 (by decide) ?_
      exact hK15 _ w H locs ls h hI (lv_sub hl [0, 1, 2] rfl)
    · skip
      have h := git c31 h
      exact hK10 w H locs ls h hI (lv_sub hl [0, 1, 2] rfl)

abbrev b_M_thrown : ByteArray := prog_9_method_2_code
def y_M_thrown : MethodName := ⟨"BodySolidsModel", "thrown", "()I"⟩
theorem d_M_thrown_0 : decode b_M_thrown 0 = .ok (.aload_n 0, 1) := by decide +kernel
theorem d_M_thrown_1 : decode b_M_thrown 1 = .ok (.getfield 80, 3) := by decide +kernel
theorem d_M_thrown_4 : decode b_M_thrown 4 = .ok (.ireturn, 1) := by decide +kernel
abbrev rm_M_thrown : Room := { frames := 0, cells := 0, slots := 0, locals := 0 }
theorem ce_M_thrown : gCe y_M_thrown (.code y_M_thrown b_M_thrown 1 (some .int)) 1 0 false := gCe.code wd_871 wd_57 wd_869 (by decide) (by decide +kernel)
def f_M_thrown (g0 : gG) (a0 : Nat) (w : gW) : gX Int32 := (gfI w a0 7 0).bind fun v1 => some (.inr v1, w)
set_option maxHeartbeats 4000000 in
set_option maxRecDepth 100000 in
theorem m_M_thrown (l : Launch) (hst : l.stackTraces = false) (D : gD) (g0 : gG) (a0 : Nat) (w : gW) (r : (String ⊕ Int32) × gW) (h : f_M_thrown g0 a0 w = some r) : gMet l y_M_thrown (.code y_M_thrown b_M_thrown 1 (some .int)) rm_M_thrown D g0 [.ref a0] w (goI r) := by
  refine gw_ofI (by decide +kernel) (Nat.le_of_ble_eq_true rfl) ?_
  intro p e s m below meth c ls args A Q hx hb hml hown hlocks hin hnt hT hK hZ hA hret hexc hthr hI hl
  obtain ⟨H, hH⟩ : ∃ H, H = s.heap := ⟨_, rfl⟩
  rw [← hH] at hI ⊢
  obtain ⟨locs, hlocs⟩ : ∃ z : List Loc, z = [] := ⟨_, rfl⟩
  rw [← hlocs] at hI ⊢
  have hl : lv_has ls 1 [(0, .ref a0)] := hl
  unfold f_M_thrown at h
  refine lv_aload_n hx hb d_M_thrown_0 rfl (lv_at hl 0 rfl) ?_
  obtain ⟨v1, e2, h⟩ := gb h
  refine gw_getI hx hb hT hown hK hI (ci := 7) rfl i_7 0 (by decide) wd_786 (fun _ h9 => h9) e2 d_M_thrown_1 ?_
  exact W.widen (show 0 ≤ 0 by omega) (show 0 ≤ 0 by omega) (hret _ _ (Option.some.inj h).symm _ _ _ _ d_M_thrown_4 hI)
