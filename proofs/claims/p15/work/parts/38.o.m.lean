abbrev b_M_doesBreak : ByteArray := prog_9_method_58_code
def y_M_doesBreak : MethodName := ⟨"BodySolidsModel", "doesBreak", "(I)Z"⟩
theorem d_M_doesBreak_0 : decode b_M_doesBreak 0 = .ok (.iconst 0, 1) := by decide +kernel
theorem d_M_doesBreak_1 : decode b_M_doesBreak 1 = .ok (.istore_n 2, 1) := by decide +kernel
theorem d_M_doesBreak_2 : decode b_M_doesBreak 2 = .ok (.iload_n 2, 1) := by decide +kernel
theorem d_M_doesBreak_3 : decode b_M_doesBreak 3 = .ok (.aload_n 0, 1) := by decide +kernel
theorem d_M_doesBreak_4 : decode b_M_doesBreak 4 = .ok (.getfield 269, 3) := by decide +kernel
theorem d_M_doesBreak_7 : decode b_M_doesBreak 7 = .ok (.if_icmp .ge 89, 3) := by decide +kernel
theorem d_M_doesBreak_10 : decode b_M_doesBreak 10 = .ok (.aload_n 0, 1) := by decide +kernel
theorem d_M_doesBreak_11 : decode b_M_doesBreak 11 = .ok (.getfield 50, 3) := by decide +kernel
theorem d_M_doesBreak_14 : decode b_M_doesBreak 14 = .ok (.bipush 6, 2) := by decide +kernel
theorem d_M_doesBreak_16 : decode b_M_doesBreak 16 = .ok (.iload_n 2, 1) := by decide +kernel
theorem d_M_doesBreak_17 : decode b_M_doesBreak 17 = .ok (.imul, 1) := by decide +kernel
theorem d_M_doesBreak_18 : decode b_M_doesBreak 18 = .ok (.iconst 4, 1) := by decide +kernel
theorem d_M_doesBreak_19 : decode b_M_doesBreak 19 = .ok (.iadd, 1) := by decide +kernel
theorem d_M_doesBreak_20 : decode b_M_doesBreak 20 = .ok (.laload, 1) := by decide +kernel
theorem d_M_doesBreak_21 : decode b_M_doesBreak 21 = .ok (.aload_n 0, 1) := by decide +kernel
theorem d_M_doesBreak_22 : decode b_M_doesBreak 22 = .ok (.getfield 47, 3) := by decide +kernel
theorem d_M_doesBreak_25 : decode b_M_doesBreak 25 = .ok (.iload_n 1, 1) := by decide +kernel
theorem d_M_doesBreak_26 : decode b_M_doesBreak 26 = .ok (.iaload, 1) := by decide +kernel
theorem d_M_doesBreak_27 : decode b_M_doesBreak 27 = .ok (.i2l, 1) := by decide +kernel
theorem d_M_doesBreak_28 : decode b_M_doesBreak 28 = .ok (.lcmp, 1) := by decide +kernel
theorem d_M_doesBreak_29 : decode b_M_doesBreak 29 = .ok (.ifCond .eq 6, 3) := by decide +kernel
theorem d_M_doesBreak_32 : decode b_M_doesBreak 32 = .ok (.goto 58, 3) := by decide +kernel
theorem d_M_doesBreak_35 : decode b_M_doesBreak 35 = .ok (.iconst 0, 1) := by decide +kernel
theorem d_M_doesBreak_36 : decode b_M_doesBreak 36 = .ok (.istore_n 3, 1) := by decide +kernel
theorem d_M_doesBreak_37 : decode b_M_doesBreak 37 = .ok (.iload_n 3, 1) := by decide +kernel
theorem d_M_doesBreak_38 : decode b_M_doesBreak 38 = .ok (.aload_n 0, 1) := by decide +kernel
theorem d_M_doesBreak_39 : decode b_M_doesBreak 39 = .ok (.getfield 7, 3) := by decide +kernel
theorem d_M_doesBreak_42 : decode b_M_doesBreak 42 = .ok (.aload_n 0, 1) := by decide +kernel
theorem d_M_doesBreak_43 : decode b_M_doesBreak 43 = .ok (.getfield 35, 3) := by decide +kernel
theorem d_M_doesBreak_46 : decode b_M_doesBreak 46 = .ok (.iload_n 1, 1) := by decide +kernel
theorem d_M_doesBreak_47 : decode b_M_doesBreak 47 = .ok (.iaload, 1) := by decide +kernel
theorem d_M_doesBreak_48 : decode b_M_doesBreak 48 = .ok (.iaload, 1) := by decide +kernel
theorem d_M_doesBreak_49 : decode b_M_doesBreak 49 = .ok (.if_icmp .ge 41, 3) := by decide +kernel
theorem d_M_doesBreak_52 : decode b_M_doesBreak 52 = .ok (.aload_n 0, 1) := by decide +kernel
theorem d_M_doesBreak_53 : decode b_M_doesBreak 53 = .ok (.iconst 0, 1) := by decide +kernel
theorem d_M_doesBreak_54 : decode b_M_doesBreak 54 = .ok (.iload_n 1, 1) := by decide +kernel
theorem d_M_doesBreak_55 : decode b_M_doesBreak 55 = .ok (.bipush 12, 2) := by decide +kernel
theorem d_M_doesBreak_57 : decode b_M_doesBreak 57 = .ok (.aload_n 0, 1) := by decide +kernel
theorem d_M_doesBreak_58 : decode b_M_doesBreak 58 = .ok (.getfield 35, 3) := by decide +kernel
theorem d_M_doesBreak_61 : decode b_M_doesBreak 61 = .ok (.iload_n 1, 1) := by decide +kernel
theorem d_M_doesBreak_62 : decode b_M_doesBreak 62 = .ok (.iaload, 1) := by decide +kernel
theorem d_M_doesBreak_63 : decode b_M_doesBreak 63 = .ok (.imul, 1) := by decide +kernel
theorem d_M_doesBreak_64 : decode b_M_doesBreak 64 = .ok (.iload_n 3, 1) := by decide +kernel
theorem d_M_doesBreak_65 : decode b_M_doesBreak 65 = .ok (.iadd, 1) := by decide +kernel
theorem d_M_doesBreak_66 : decode b_M_doesBreak 66 = .ok (.invokevirtual 252, 3) := by decide +kernel
theorem d_M_doesBreak_69 : decode b_M_doesBreak 69 = .ok (.aload_n 0, 1) := by decide +kernel
theorem d_M_doesBreak_70 : decode b_M_doesBreak 70 = .ok (.iload_n 2, 1) := by decide +kernel
theorem d_M_doesBreak_71 : decode b_M_doesBreak 71 = .ok (.invokevirtual 272, 3) := by decide +kernel
theorem d_M_doesBreak_74 : decode b_M_doesBreak 74 = .ok (.aload_n 0, 1) := by decide +kernel
theorem d_M_doesBreak_75 : decode b_M_doesBreak 75 = .ok (.invokevirtual 256, 3) := by decide +kernel
theorem d_M_doesBreak_78 : decode b_M_doesBreak 78 = .ok (.iconst 2, 1) := by decide +kernel
theorem d_M_doesBreak_79 : decode b_M_doesBreak 79 = .ok (.if_icmp .ne 5, 3) := by decide +kernel
theorem d_M_doesBreak_82 : decode b_M_doesBreak 82 = .ok (.iconst 1, 1) := by decide +kernel
theorem d_M_doesBreak_83 : decode b_M_doesBreak 83 = .ok (.ireturn, 1) := by decide +kernel
theorem d_M_doesBreak_84 : decode b_M_doesBreak 84 = .ok (.iinc 3 1, 3) := by decide +kernel
theorem d_M_doesBreak_87 : decode b_M_doesBreak 87 = .ok (.goto (-50), 3) := by decide +kernel
theorem d_M_doesBreak_90 : decode b_M_doesBreak 90 = .ok (.iinc 2 1, 3) := by decide +kernel
theorem d_M_doesBreak_93 : decode b_M_doesBreak 93 = .ok (.goto (-91), 3) := by decide +kernel
theorem d_M_doesBreak_96 : decode b_M_doesBreak 96 = .ok (.iconst 0, 1) := by decide +kernel
theorem d_M_doesBreak_97 : decode b_M_doesBreak 97 = .ok (.ireturn, 1) := by decide +kernel
abbrev rm_M_doesBreak : Room := { frames := 5, cells := 0, slots := 0, locals := 163 }
theorem ce_M_doesBreak : gCe y_M_doesBreak (.code y_M_doesBreak b_M_doesBreak 4 (some .boolean)) 4 1 false := gCe.code wd_1087 wd_57 wd_1086 (by decide) (by decide +kernel)
def f_M_doesBreak_L37 (g0 : gG) (c0 : Nat) (c1 : Int32) (c2 : Int32) (K90 : gW → gX Int32) (K82 : gW → gX Int32) : Nat → Int32 → gW → gX Int32
  | 0, _, _ => none
  | n + 1, z3, w => (gfA w c0 7 3).bind fun v15 => (gfA w c0 7 13).bind fun v17 => (gaI w v17 c1).bind fun v19 => (gaI w v15 v19).bind fun v21 => if v21 ≤ z3 then (K90 w) else ((gfA w c0 7 13).bind fun v24 => (gaI w v24 c1).bind fun v26 => (gck w c0 7).bind fun _ => gbind (f_M_lay g0 c0 0 c1 ((12 * v26) + z3) w) fun v32 w => (gck w c0 7).bind fun _ => gbind (f_M_layOut g0 c0 c2 w) fun v37 w => (gck w c0 7).bind fun _ => gbind (f_M_both g0 c0 w) fun v42 w => if v42 = 2 then (K82 w) else (f_M_doesBreak_L37 g0 c0 c1 c2 K90 K82 n (z3 + 1) w))
def f_M_doesBreak_L2 (g0 : gG) (c0 : Nat) (c1 : Int32) (K96 : gW → gX Int32) (K82 : gW → gX Int32) : Nat → Int32 → gW → gX Int32
  | 0, _, _ => none
  | n + 1, z2, w => (gfI w c0 7 18).bind fun v3 => if v3 ≤ z2 then (K96 w) else ((gfA w c0 7 19).bind fun v6 => (gaJ w v6 ((6 * z2) + 4)).bind fun v8 => (gfA w c0 7 17).bind fun v10 => (gaI w v10 c1).bind fun v12 => gjoin (fun K90 => if v8 = (v12.toInt64) then (f_M_doesBreak_L37 g0 c0 c1 z2 K90 K82 64 0 w) else (K90 w)) (fun (w : gW) => f_M_doesBreak_L2 g0 c0 c1 K96 K82 n (z2 + 1) w))
def f_M_doesBreak (g0 : gG) (a0 : Nat) (p1 : Int32) (w : gW) : gX Int32 := gjoin (fun K96 => gjoin (fun K82 => f_M_doesBreak_L2 g0 a0 p1 K96 K82 64 0 w) (fun (w : gW) => gguard ((1 : Int32) = 0 ∨ (1 : Int32) = 1) (some (.inr 1, w)))) (fun (w : gW) => gguard ((0 : Int32) = 0 ∨ (0 : Int32) = 1) (some (.inr 0, w)))
set_option maxHeartbeats 4000000 in
set_option maxRecDepth 100000 in
theorem m_M_doesBreak (l : Launch) (hst : l.stackTraces = false) (D : gD) (g0 : gG) (a0 : Nat) (p1 : Int32) (w : gW) (r : (String ⊕ Int32) × gW) (h : f_M_doesBreak g0 a0 p1 w = some r) : gMet l y_M_doesBreak (.code y_M_doesBreak b_M_doesBreak 4 (some .boolean)) rm_M_doesBreak D g0 [.ref a0, .int p1] w (goI r) := by
  refine gw_ofZ (by decide +kernel) (Nat.le_of_ble_eq_true rfl) ?_
  intro p e s m below meth c ls args A Q hx hb hml hown hlocks hin hnt hT hK hZ hA hret hexc hthr hI hl
  obtain ⟨H, hH⟩ : ∃ H, H = s.heap := ⟨_, rfl⟩
  rw [← hH] at hI ⊢
  obtain ⟨locs, hlocs⟩ : ∃ z : List Loc, z = [] := ⟨_, rfl⟩
  rw [← hlocs] at hI ⊢
  have hl : lv_has ls 4 [(0, .ref a0), (1, .int p1)] := hl
  unfold f_M_doesBreak at h
  refine lv_iconst (v := 0) hx hb d_M_doesBreak_0 (by decide) ?_
  refine lv_istore_n (lv' := [(2, .int 0), (0, .ref a0), (1, .int p1)]) hx hb d_M_doesBreak_1 rfl hl (by decide) rfl (fun ls hl => ?_)
  obtain ⟨K96, eK96, h⟩ := gj h
  have hK96 : ∀ (w : gW) (H : Heap) (locs : List Loc) (ls : Array Slot), K96 w = some r → gI D s A w H locs → lv_has ls 4 [] → W p l e rm_M_doesBreak s m args below meth c H locs 0 0 Q (F0 m 96 ls []) := by
    intro w H locs ls h hI hl
    have h := gk1 eK96 h
    refine lv_iconst (v := 0) hx hb d_M_doesBreak_96 (by decide) ?_
    obtain ⟨g1, h⟩ := gif h
    exact W.widen (show 0 ≤ 0 by omega) (show 0 ≤ 0 by omega) (hret g1 0 _ (Option.some.inj h).symm _ _ _ _ d_M_doesBreak_97 hI)
  obtain ⟨K82, eK82, h⟩ := gj h
  have hK82 : ∀ (w : gW) (H : Heap) (locs : List Loc) (ls : Array Slot), K82 w = some r → gI D s A w H locs → lv_has ls 4 [] → W p l e rm_M_doesBreak s m args below meth c H locs 0 0 Q (F0 m 82 ls []) := by
    intro w H locs ls h hI hl
    have h := gk1 eK82 h
    refine lv_iconst (v := 1) hx hb d_M_doesBreak_82 (by decide) ?_
    obtain ⟨g2, h⟩ := gif h
    exact W.widen (show 0 ≤ 0 by omega) (show 0 ≤ 0 by omega) (hret g2 0 _ (Option.some.inj h).symm _ _ _ _ d_M_doesBreak_83 hI)
  have hL2 : ∀ (n : Nat), ∀ (z3 : Int32) (w : gW) (H : Heap) (locs : List Loc) (ls : Array Slot), f_M_doesBreak_L2 g0 a0 p1 K96 K82 n z3 w = some r → gI D s A w H locs → lv_has ls 4 [(0, .ref a0), (1, .int p1), (2, .int z3)] → W p l e rm_M_doesBreak s m args below meth c H locs 0 0 Q (F0 m 2 ls []) := by
    intro n
    induction n with
    | zero => intro z3 w H locs ls h hI hl; exact absurd h (by simp [f_M_doesBreak_L2])
    | succ n ih =>
      intro z3 w H locs ls h hI hl
      rw [f_M_doesBreak_L2] at h
      refine lv_iload_n hx hb d_M_doesBreak_2 rfl (lv_at hl 2 rfl) ?_
      refine lv_aload_n hx hb d_M_doesBreak_3 rfl (lv_at hl 0 rfl) ?_
      obtain ⟨v4, e5, h⟩ := gb h
      refine gw_getI hx hb hT hown hK hI (ci := 7) rfl i_7 18 (by decide) wd_804 (fun _ h9 => h9) e5 d_M_doesBreak_4 ?_
      refine lv_icmp_ge (tgt := 96) hx hb d_M_doesBreak_7 (by decide) (fun c6 => ?_) (fun c6 => ?_)
      · skip
        have h := git c6 h
        exact hK96 w H locs ls h hI (lv_sub hl [] rfl)
      · skip
        have h := gie c6 h
        refine lv_aload_n hx hb d_M_doesBreak_10 rfl (lv_at hl 0 rfl) ?_
        obtain ⟨v7, e8, h⟩ := gb h
        refine gw_getA hx hb hT hown hK hI (ci := 7) rfl i_7 19 (by decide) wd_805 (fun _ h9 => h9) e8 d_M_doesBreak_11 ?_
        refine lv_bipush (v := 6) hx hb d_M_doesBreak_14 (by decide) ?_
        refine lv_iload_n hx hb d_M_doesBreak_16 rfl (lv_at hl 2 rfl) ?_
        refine lv_imul hx hb d_M_doesBreak_17 ?_
        refine lv_iconst (v := 4) hx hb d_M_doesBreak_18 (by decide) ?_
        refine lv_iadd hx hb d_M_doesBreak_19 ?_
        obtain ⟨v9, e10, h⟩ := gb h
        refine gw_aldJ hx hb hK hI e10 d_M_doesBreak_20 ?_
        refine lv_aload_n hx hb d_M_doesBreak_21 rfl (lv_at hl 0 rfl) ?_
        obtain ⟨v11, e12, h⟩ := gb h
        refine gw_getA hx hb hT hown hK hI (ci := 7) rfl i_7 17 (by decide) wd_803 (fun _ h9 => h9) e12 d_M_doesBreak_22 ?_
        refine lv_iload_n hx hb d_M_doesBreak_25 rfl (lv_at hl 1 rfl) ?_
        obtain ⟨v13, e14, h⟩ := gb h
        refine gw_aldI hx hb hK hI e14 d_M_doesBreak_26 ?_
        refine lv_i2l (v := v13.toInt64) hx hb d_M_doesBreak_27 rfl ?_
        refine W.lcmp hx hb d_M_doesBreak_28 ?_
        obtain ⟨K90, eK90, h⟩ := gj h
        have hK90 : ∀ (w : gW) (H : Heap) (locs : List Loc) (ls : Array Slot), K90 w = some r → gI D s A w H locs → lv_has ls 4 [(0, .ref a0), (1, .int p1), (2, .int z3)] → W p l e rm_M_doesBreak s m args below meth c H locs 0 0 Q (F0 m 90 ls []) := by
          intro w H locs ls h hI hl
          have h := gk1 eK90 h
          refine lv_iinc (v := z3 + 1) (lv' := [(2, .int (z3 + 1)), (0, .ref a0), (1, .int p1)]) hx hb d_M_doesBreak_90 hl (k := 2) rfl rfl (by decide) rfl (fun ls hl => ?_)
          refine lv_goto (tgt := 2) hx hb d_M_doesBreak_93 (by decide) ?_
          exact ih _ w H locs ls h hI (lv_sub hl [1, 2, 0] rfl)
        refine lv_if_eq (tgt := 35) hx hb d_M_doesBreak_29 (by decide) (fun c15 => ?_) (fun c15 => ?_)
        · have c15 := (lg_cmp_eq _ _).mp c15
          have h := git c15 h
          refine lv_iconst (v := 0) hx hb d_M_doesBreak_35 (by decide) ?_
          refine lv_istore_n (lv' := [(3, .int 0), (0, .ref a0), (1, .int p1), (2, .int z3)]) hx hb d_M_doesBreak_36 rfl hl (by decide) rfl (fun ls hl => ?_)
          have hL37 : ∀ (n : Nat), ∀ (z16 : Int32) (w : gW) (H : Heap) (locs : List Loc) (ls : Array Slot), f_M_doesBreak_L37 g0 a0 p1 z3 K90 K82 n z16 w = some r → gI D s A w H locs → lv_has ls 4 [(0, .ref a0), (1, .int p1), (2, .int z3), (3, .int z16)] → W p l e rm_M_doesBreak s m args below meth c H locs 0 0 Q (F0 m 37 ls []) := by
            intro n
            induction n with
            | zero => intro z16 w H locs ls h hI hl; exact absurd h (by simp [f_M_doesBreak_L37])
            | succ n ih =>
              intro z16 w H locs ls h hI hl
              rw [f_M_doesBreak_L37] at h
              refine lv_iload_n hx hb d_M_doesBreak_37 rfl (lv_at hl 3 rfl) ?_
              refine lv_aload_n hx hb d_M_doesBreak_38 rfl (lv_at hl 0 rfl) ?_
              obtain ⟨v17, e18, h⟩ := gb h
              refine gw_getA hx hb hT hown hK hI (ci := 7) rfl i_7 3 (by decide) wd_789 (fun _ h9 => h9) e18 d_M_doesBreak_39 ?_
              refine lv_aload_n hx hb d_M_doesBreak_42 rfl (lv_at hl 0 rfl) ?_
              obtain ⟨v19, e20, h⟩ := gb h
              refine gw_getA hx hb hT hown hK hI (ci := 7) rfl i_7 13 (by decide) wd_799 (fun _ h9 => h9) e20 d_M_doesBreak_43 ?_
              refine lv_iload_n hx hb d_M_doesBreak_46 rfl (lv_at hl 1 rfl) ?_
              obtain ⟨v21, e22, h⟩ := gb h
              refine gw_aldI hx hb hK hI e22 d_M_doesBreak_47 ?_
              obtain ⟨v23, e24, h⟩ := gb h
              refine gw_aldI hx hb hK hI e24 d_M_doesBreak_48 ?_
              refine lv_icmp_ge (tgt := 90) hx hb d_M_doesBreak_49 (by decide) (fun c25 => ?_) (fun c25 => ?_)
              · skip
                have h := git c25 h
                exact hK90 w H locs ls h hI (lv_sub hl [0, 1, 2] rfl)
              · skip
                have h := gie c25 h
                refine lv_aload_n hx hb d_M_doesBreak_52 rfl (lv_at hl 0 rfl) ?_
                refine lv_iconst (v := 0) hx hb d_M_doesBreak_53 (by decide) ?_
                refine lv_iload_n hx hb d_M_doesBreak_54 rfl (lv_at hl 1 rfl) ?_
                refine lv_bipush (v := 12) hx hb d_M_doesBreak_55 (by decide) ?_
                refine lv_aload_n hx hb d_M_doesBreak_57 rfl (lv_at hl 0 rfl) ?_
                obtain ⟨v26, e27, h⟩ := gb h
                refine gw_getA hx hb hT hown hK hI (ci := 7) rfl i_7 13 (by decide) wd_799 (fun _ h9 => h9) e27 d_M_doesBreak_58 ?_
                refine lv_iload_n hx hb d_M_doesBreak_61 rfl (lv_at hl 1 rfl) ?_
                obtain ⟨v28, e29, h⟩ := gb h
                refine gw_aldI hx hb hK hI e29 d_M_doesBreak_62 ?_
                refine lv_imul hx hb d_M_doesBreak_63 ?_
                refine lv_iload_n hx hb d_M_doesBreak_64 rfl (lv_at hl 3 rfl) ?_
                refine lv_iadd hx hb d_M_doesBreak_65 ?_
                obtain ⟨q32, e33, h⟩ := gb h
                obtain ⟨u30, e31⟩ := gsome h
                refine gw_callV e31 h (gw_runV (As := [.int 0, .int p1, .int ((12 * v28) + z16)]) (rest := []) hx hb hml hown hT hK hZ hA hI (ci := 7) rfl e33 (m_M_lay l hst D g0 a0 0 p1 ((12 * v28) + z16) w u30 e31) ce_M_lay wd_963 wd_25 ⟨by decide, by decide⟩ rfl rfl hl.1 rfl (lv_room (Nat.le_of_ble_eq_true rfl)) d_M_doesBreak_66 ⟨(show 0 + 0 ≤ 0 by omega), (show 0 + 0 ≤ 0 by omega)⟩) hI hA hexc (show 0 + 0 ≤ 0 by omega) (show 0 + 0 ≤ 0 by omega) (fun v34 w H locs h hI => ?_)
                refine lv_aload_n hx hb d_M_doesBreak_69 rfl (lv_at hl 0 rfl) ?_
                refine lv_iload_n hx hb d_M_doesBreak_70 rfl (lv_at hl 2 rfl) ?_
                obtain ⟨q37, e38, h⟩ := gb h
                obtain ⟨u35, e36⟩ := gsome h
                refine gw_callV e36 h (gw_runV (As := [.int z3]) (rest := []) hx hb hml hown hT hK hZ hA hI (ci := 7) rfl e38 (m_M_layOut l hst D g0 a0 z3 w u35 e36) ce_M_layOut wd_1088 wd_45 ⟨by decide, by decide⟩ rfl rfl hl.1 rfl (lv_room (Nat.le_of_ble_eq_true rfl)) d_M_doesBreak_71 ⟨(show 0 + 0 ≤ 0 by omega), (show 0 + 0 ≤ 0 by omega)⟩) hI hA hexc (show 0 + 0 ≤ 0 by omega) (show 0 + 0 ≤ 0 by omega) (fun v39 w H locs h hI => ?_)
                refine lv_aload_n hx hb d_M_doesBreak_74 rfl (lv_at hl 0 rfl) ?_
                obtain ⟨q42, e43, h⟩ := gb h
                obtain ⟨u40, e41⟩ := gsome h
                refine gw_callI e41 h (gw_runV (As := []) (rest := []) hx hb hml hown hT hK hZ hA hI (ci := 7) rfl e43 (m_M_both l hst D g0 a0 w u40 e41) ce_M_both wd_996 wd_33 ⟨by decide, by decide⟩ rfl rfl hl.1 rfl (lv_room (Nat.le_of_ble_eq_true rfl)) d_M_doesBreak_75 ⟨(show 0 + 0 ≤ 0 by omega), (show 0 + 0 ≤ 0 by omega)⟩) hI hA hexc (show 0 + 0 ≤ 0 by omega) (show 0 + 0 ≤ 0 by omega) (fun v44 w H locs h hI => ?_)
                refine lv_iconst (v := 2) hx hb d_M_doesBreak_78 (by decide) ?_
                refine lv_icmp_ne (tgt := 84) hx hb d_M_doesBreak_79 (by decide) (fun c45 => ?_) (fun c45 => ?_)
                · skip
                  have h := gie c45 h
                  refine lv_iinc (v := z16 + 1) (lv' := [(3, .int (z16 + 1)), (0, .ref a0), (1, .int p1), (2, .int z3)]) hx hb d_M_doesBreak_84 hl (k := 3) rfl rfl (by decide) rfl (fun ls hl => ?_)
                  refine lv_goto (tgt := 37) hx hb d_M_doesBreak_87 (by decide) ?_
                  exact ih _ w H locs ls h hI (lv_sub hl [1, 2, 3, 0] rfl)
                · skip
                  have h := git c45 h
                  exact hK82 w H locs ls h hI (lv_sub hl [] rfl)
          exact hL37 64 _ w H locs ls h hI (lv_sub hl [1, 2, 3, 0] rfl)
        · have c15 := mt (lg_cmp_eq _ _).mpr c15
          have h := gie c15 h
          refine lv_goto (tgt := 90) hx hb d_M_doesBreak_32 (by decide) ?_
          exact hK90 w H locs ls h hI (lv_sub hl [0, 1, 2] rfl)
  exact hL2 64 _ w H locs ls h hI (lv_sub hl [1, 2, 0] rfl)

abbrev b_M_breaks : ByteArray := prog_9_method_59_code
def y_M_breaks : MethodName := ⟨"BodySolidsModel", "breaks", "(I)I"⟩
theorem d_M_breaks_0 : decode b_M_breaks 0 = .ok (.aload_n 0, 1) := by decide +kernel
theorem d_M_breaks_1 : decode b_M_breaks 1 = .ok (.iconst 0, 1) := by decide +kernel
theorem d_M_breaks_2 : decode b_M_breaks 2 = .ok (.putfield 80, 3) := by decide +kernel
theorem d_M_breaks_5 : decode b_M_breaks 5 = .ok (.iload_n 1, 1) := by decide +kernel
theorem d_M_breaks_6 : decode b_M_breaks 6 = .ok (.istore_n 2, 1) := by decide +kernel
theorem d_M_breaks_7 : decode b_M_breaks 7 = .ok (.iconst 0, 1) := by decide +kernel
theorem d_M_breaks_8 : decode b_M_breaks 8 = .ok (.istore_n 3, 1) := by decide +kernel
theorem d_M_breaks_9 : decode b_M_breaks 9 = .ok (.iload_n 3, 1) := by decide +kernel
theorem d_M_breaks_10 : decode b_M_breaks 10 = .ok (.aload_n 0, 1) := by decide +kernel
theorem d_M_breaks_11 : decode b_M_breaks 11 = .ok (.getfield 95, 3) := by decide +kernel
theorem d_M_breaks_14 : decode b_M_breaks 14 = .ok (.if_icmp .ge 33, 3) := by decide +kernel
theorem d_M_breaks_17 : decode b_M_breaks 17 = .ok (.iload_n 1, 1) := by decide +kernel
theorem d_M_breaks_18 : decode b_M_breaks 18 = .ok (.ifCond .lt 29, 3) := by decide +kernel
theorem d_M_breaks_21 : decode b_M_breaks 21 = .ok (.aload_n 0, 1) := by decide +kernel
theorem d_M_breaks_22 : decode b_M_breaks 22 = .ok (.iload_n 3, 1) := by decide +kernel
theorem d_M_breaks_23 : decode b_M_breaks 23 = .ok (.invokevirtual 276, 3) := by decide +kernel
theorem d_M_breaks_26 : decode b_M_breaks 26 = .ok (.ifCond .ne 6, 3) := by decide +kernel
theorem d_M_breaks_29 : decode b_M_breaks 29 = .ok (.goto 12, 3) := by decide +kernel
theorem d_M_breaks_32 : decode b_M_breaks 32 = .ok (.iload_n 2, 1) := by decide +kernel
theorem d_M_breaks_33 : decode b_M_breaks 33 = .ok (.ifCond .ne 5, 3) := by decide +kernel
theorem d_M_breaks_36 : decode b_M_breaks 36 = .ok (.iload_n 3, 1) := by decide +kernel
theorem d_M_breaks_37 : decode b_M_breaks 37 = .ok (.ireturn, 1) := by decide +kernel
theorem d_M_breaks_38 : decode b_M_breaks 38 = .ok (.iinc 2 (-1), 3) := by decide +kernel
theorem d_M_breaks_41 : decode b_M_breaks 41 = .ok (.iinc 3 1, 3) := by decide +kernel
theorem d_M_breaks_44 : decode b_M_breaks 44 = .ok (.goto (-35), 3) := by decide +kernel
theorem d_M_breaks_47 : decode b_M_breaks 47 = .ok (.iconst (-1), 1) := by decide +kernel
theorem d_M_breaks_48 : decode b_M_breaks 48 = .ok (.ireturn, 1) := by decide +kernel
abbrev rm_M_breaks : Room := { frames := 6, cells := 0, slots := 0, locals := 186 }
theorem ce_M_breaks : gCe y_M_breaks (.code y_M_breaks b_M_breaks 4 (some .int)) 4 1 false := gCe.code wd_1083 wd_57 wd_1081 (by decide) (by decide +kernel)
def f_M_breaks_L9 (g0 : gG) (c0 : Nat) (c1 : Int32) (K47 : gW → gX Int32) (K36 : Int32 → gW → gX Int32) : Nat → Int32 → Int32 → gW → gX Int32
  | 0, _, _, _ => none
  | n + 1, z2, z3, w => (gfI w c0 7 12).bind fun v3 => if v3 ≤ z3 then (K47 w) else (if c1 < 0 then (K47 w) else ((gck w c0 7).bind fun _ => gbind (f_M_doesBreak g0 c0 z3 w) fun v11 w => gjoin (fun K41 => if v11 = 0 then (K41 z2 w) else (if z2 = 0 then (K36 z3 w) else (K41 (z2 + (-1)) w))) (fun (x12 : Int32) (w : gW) => f_M_breaks_L9 g0 c0 c1 K47 K36 n x12 (z3 + 1) w)))
def f_M_breaks (g0 : gG) (a0 : Nat) (p1 : Int32) (w : gW) : gX Int32 := (gp w a0 7 0 (.int 0)).bind fun w => gjoin (fun K47 => gjoin (fun K36 => f_M_breaks_L9 g0 a0 p1 K47 K36 64 p1 0 w) (fun (x2 : Int32) (w : gW) => some (.inr x2, w))) (fun (w : gW) => some (.inr (-1), w))
set_option maxHeartbeats 4000000 in
set_option maxRecDepth 100000 in
theorem m_M_breaks (l : Launch) (hst : l.stackTraces = false) (D : gD) (g0 : gG) (a0 : Nat) (p1 : Int32) (w : gW) (r : (String ⊕ Int32) × gW) (h : f_M_breaks g0 a0 p1 w = some r) : gMet l y_M_breaks (.code y_M_breaks b_M_breaks 4 (some .int)) rm_M_breaks D g0 [.ref a0, .int p1] w (goI r) := by
  refine gw_ofI (by decide +kernel) (Nat.le_of_ble_eq_true rfl) ?_
  intro p e s m below meth c ls args A Q hx hb hml hown hlocks hin hnt hT hK hZ hA hret hexc hthr hI hl
  obtain ⟨H, hH⟩ : ∃ H, H = s.heap := ⟨_, rfl⟩
  rw [← hH] at hI ⊢
  obtain ⟨locs, hlocs⟩ : ∃ z : List Loc, z = [] := ⟨_, rfl⟩
  rw [← hlocs] at hI ⊢
  have hl : lv_has ls 4 [(0, .ref a0), (1, .int p1)] := hl
  unfold f_M_breaks at h
  refine lv_aload_n hx hb d_M_breaks_0 rfl (lv_at hl 0 rfl) ?_
  refine lv_iconst (v := 0) hx hb d_M_breaks_1 (by decide) ?_
  obtain ⟨w, e1, h⟩ := gb h
  refine gw_put hx hb hT hown hK hI (ci := 7) rfl i_7 t_7 t_7_ok n_7 0 (by decide) wd_786 (fun _ h9 => h9) rfl (ty := .int) (by decide +kernel) rfl rfl e1 d_M_breaks_2 (fun H locs hI => ?_)
  refine lv_iload_n hx hb d_M_breaks_5 rfl (lv_at hl 1 rfl) ?_
  refine lv_istore_n (lv' := [(2, .int p1), (0, .ref a0), (1, .int p1)]) hx hb d_M_breaks_6 rfl hl (by decide) rfl (fun ls hl => ?_)
  refine lv_iconst (v := 0) hx hb d_M_breaks_7 (by decide) ?_
  refine lv_istore_n (lv' := [(3, .int 0), (2, .int p1), (0, .ref a0), (1, .int p1)]) hx hb d_M_breaks_8 rfl hl (by decide) rfl (fun ls hl => ?_)
  obtain ⟨K47, eK47, h⟩ := gj h
  have hK47 : ∀ (w : gW) (H : Heap) (locs : List Loc) (ls : Array Slot), K47 w = some r → gI D s A w H locs → lv_has ls 4 [] → W p l e rm_M_breaks s m args below meth c H locs 0 0 Q (F0 m 47 ls []) := by
    intro w H locs ls h hI hl
    have h := gk1 eK47 h
    refine lv_iconst (v := -1) hx hb d_M_breaks_47 (by decide) ?_
    exact W.widen (show 0 ≤ 0 by omega) (show 0 ≤ 0 by omega) (hret _ _ (Option.some.inj h).symm _ _ _ _ d_M_breaks_48 hI)
  obtain ⟨K36, eK36, h⟩ := gj h
  have hK36 : ∀ (x2 : Int32) (w : gW) (H : Heap) (locs : List Loc) (ls : Array Slot), K36 x2 w = some r → gI D s A w H locs → lv_has ls 4 [(3, .int x2)] → W p l e rm_M_breaks s m args below meth c H locs 0 0 Q (F0 m 36 ls []) := by
    intro x2 w H locs ls h hI hl
    have h := gk2 eK36 h
    refine lv_iload_n hx hb d_M_breaks_36 rfl (lv_at hl 0 rfl) ?_
    exact W.widen (show 0 ≤ 0 by omega) (show 0 ≤ 0 by omega) (hret _ _ (Option.some.inj h).symm _ _ _ _ d_M_breaks_37 hI)
  have hL9 : ∀ (n : Nat), ∀ (z3 : Int32) (z4 : Int32) (w : gW) (H : Heap) (locs : List Loc) (ls : Array Slot), f_M_breaks_L9 g0 a0 p1 K47 K36 n z3 z4 w = some r → gI D s A w H locs → lv_has ls 4 [(0, .ref a0), (1, .int p1), (2, .int z3), (3, .int z4)] → W p l e rm_M_breaks s m args below meth c H locs 0 0 Q (F0 m 9 ls []) := by
    intro n
    induction n with
    | zero => intro z3 z4 w H locs ls h hI hl; exact absurd h (by simp [f_M_breaks_L9])
    | succ n ih =>
      intro z3 z4 w H locs ls h hI hl
      rw [f_M_breaks_L9] at h
      refine lv_iload_n hx hb d_M_breaks_9 rfl (lv_at hl 3 rfl) ?_
      refine lv_aload_n hx hb d_M_breaks_10 rfl (lv_at hl 0 rfl) ?_
      obtain ⟨v5, e6, h⟩ := gb h
      refine gw_getI hx hb hT hown hK hI (ci := 7) rfl i_7 12 (by decide) wd_798 (fun _ h9 => h9) e6 d_M_breaks_11 ?_
      refine lv_icmp_ge (tgt := 47) hx hb d_M_breaks_14 (by decide) (fun c7 => ?_) (fun c7 => ?_)
      · skip
        have h := git c7 h
        exact hK47 w H locs ls h hI (lv_sub hl [] rfl)
      · skip
        have h := gie c7 h
        refine lv_iload_n hx hb d_M_breaks_17 rfl (lv_at hl 1 rfl) ?_
        refine lv_if_lt (tgt := 47) hx hb d_M_breaks_18 (by decide) (fun c8 => ?_) (fun c8 => ?_)
        · skip
          have h := git c8 h
          exact hK47 w H locs ls h hI (lv_sub hl [] rfl)
        · skip
          have h := gie c8 h
          refine lv_aload_n hx hb d_M_breaks_21 rfl (lv_at hl 0 rfl) ?_
          refine lv_iload_n hx hb d_M_breaks_22 rfl (lv_at hl 3 rfl) ?_
          obtain ⟨q11, e12, h⟩ := gb h
          obtain ⟨u9, e10⟩ := gsome h
          refine gw_callI e10 h (gw_runV (As := [.int z4]) (rest := []) hx hb hml hown hT hK hZ hA hI (ci := 7) rfl e12 (m_M_doesBreak l hst D g0 a0 z4 w u9 e10) ce_M_doesBreak wd_1084 wd_44 ⟨by decide, by decide⟩ rfl rfl hl.1 rfl (lv_room (Nat.le_of_ble_eq_true rfl)) d_M_breaks_23 ⟨(show 0 + 0 ≤ 0 by omega), (show 0 + 0 ≤ 0 by omega)⟩) hI hA hexc (show 0 + 0 ≤ 0 by omega) (show 0 + 0 ≤ 0 by omega) (fun v13 w H locs h hI => ?_)
          obtain ⟨K41, eK41, h⟩ := gj h
          have hK41 : ∀ (x14 : Int32) (w : gW) (H : Heap) (locs : List Loc) (ls : Array Slot), K41 x14 w = some r → gI D s A w H locs → lv_has ls 4 [(0, .ref a0), (1, .int p1), (2, .int x14), (3, .int z4)] → W p l e rm_M_breaks s m args below meth c H locs 0 0 Q (F0 m 41 ls []) := by
            intro x14 w H locs ls h hI hl
            have h := gk2 eK41 h
            refine lv_iinc (v := z4 + 1) (lv' := [(3, .int (z4 + 1)), (0, .ref a0), (1, .int p1), (2, .int x14)]) hx hb d_M_breaks_41 hl (k := 3) rfl rfl (by decide) rfl (fun ls hl => ?_)
            refine lv_goto (tgt := 9) hx hb d_M_breaks_44 (by decide) ?_
            exact ih _ _ w H locs ls h hI (lv_sub hl [1, 2, 3, 0] rfl)
          refine lv_if_ne (tgt := 32) hx hb d_M_breaks_26 (by decide) (fun c15 => ?_) (fun c15 => ?_)
          · skip
            have h := gie c15 h
            refine lv_iload_n hx hb d_M_breaks_32 rfl (lv_at hl 2 rfl) ?_
            refine lv_if_ne (tgt := 38) hx hb d_M_breaks_33 (by decide) (fun c16 => ?_) (fun c16 => ?_)
            · skip
              have h := gie c16 h
              refine lv_iinc (v := z3 + (-1)) (lv' := [(2, .int (z3 + (-1))), (0, .ref a0), (1, .int p1), (3, .int z4)]) hx hb d_M_breaks_38 hl (k := 2) rfl rfl (by decide) rfl (fun ls hl => ?_)
              exact hK41 _ w H locs ls h hI (lv_sub hl [1, 2, 0, 3] rfl)
            · skip
              have h := git c16 h
              exact hK36 _ w H locs ls h hI (lv_sub hl [3] rfl)
          · skip
            have h := git c15 h
            refine lv_goto (tgt := 41) hx hb d_M_breaks_29 (by decide) ?_
            exact hK41 _ w H locs ls h hI (lv_sub hl [0, 1, 2, 3] rfl)
  exact hL9 64 _ _ w H locs ls h hI (lv_sub hl [2, 3, 1, 0] rfl)
