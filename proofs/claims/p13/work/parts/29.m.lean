abbrev b_M_copy : ByteArray := prog_9_method_20_code
def y_M_copy : MethodName := ⟨"BodySolidsModel", "copy", "(II)V"⟩
theorem d_M_copy_0 : decode b_M_copy 0 = .ok (.aload_n 0, 1) := by decide +kernel
theorem d_M_copy_1 : decode b_M_copy 1 = .ok (.getfield 13, 3) := by decide +kernel
theorem d_M_copy_4 : decode b_M_copy 4 = .ok (.iload_n 2, 1) := by decide +kernel
theorem d_M_copy_5 : decode b_M_copy 5 = .ok (.aload_n 0, 1) := by decide +kernel
theorem d_M_copy_6 : decode b_M_copy 6 = .ok (.getfield 13, 3) := by decide +kernel
theorem d_M_copy_9 : decode b_M_copy 9 = .ok (.iload_n 1, 1) := by decide +kernel
theorem d_M_copy_10 : decode b_M_copy 10 = .ok (.iaload, 1) := by decide +kernel
theorem d_M_copy_11 : decode b_M_copy 11 = .ok (.iastore, 1) := by decide +kernel
theorem d_M_copy_12 : decode b_M_copy 12 = .ok (.iconst 0, 1) := by decide +kernel
theorem d_M_copy_13 : decode b_M_copy 13 = .ok (.istore_n 3, 1) := by decide +kernel
theorem d_M_copy_14 : decode b_M_copy 14 = .ok (.iload_n 3, 1) := by decide +kernel
theorem d_M_copy_15 : decode b_M_copy 15 = .ok (.bipush 6, 2) := by decide +kernel
theorem d_M_copy_17 : decode b_M_copy 17 = .ok (.if_icmp .ge 31, 3) := by decide +kernel
theorem d_M_copy_20 : decode b_M_copy 20 = .ok (.aload_n 0, 1) := by decide +kernel
theorem d_M_copy_21 : decode b_M_copy 21 = .ok (.getfield 16, 3) := by decide +kernel
theorem d_M_copy_24 : decode b_M_copy 24 = .ok (.bipush 6, 2) := by decide +kernel
theorem d_M_copy_26 : decode b_M_copy 26 = .ok (.iload_n 2, 1) := by decide +kernel
theorem d_M_copy_27 : decode b_M_copy 27 = .ok (.imul, 1) := by decide +kernel
theorem d_M_copy_28 : decode b_M_copy 28 = .ok (.iload_n 3, 1) := by decide +kernel
theorem d_M_copy_29 : decode b_M_copy 29 = .ok (.iadd, 1) := by decide +kernel
theorem d_M_copy_30 : decode b_M_copy 30 = .ok (.aload_n 0, 1) := by decide +kernel
theorem d_M_copy_31 : decode b_M_copy 31 = .ok (.getfield 16, 3) := by decide +kernel
theorem d_M_copy_34 : decode b_M_copy 34 = .ok (.bipush 6, 2) := by decide +kernel
theorem d_M_copy_36 : decode b_M_copy 36 = .ok (.iload_n 1, 1) := by decide +kernel
theorem d_M_copy_37 : decode b_M_copy 37 = .ok (.imul, 1) := by decide +kernel
theorem d_M_copy_38 : decode b_M_copy 38 = .ok (.iload_n 3, 1) := by decide +kernel
theorem d_M_copy_39 : decode b_M_copy 39 = .ok (.iadd, 1) := by decide +kernel
theorem d_M_copy_40 : decode b_M_copy 40 = .ok (.laload, 1) := by decide +kernel
theorem d_M_copy_41 : decode b_M_copy 41 = .ok (.lastore, 1) := by decide +kernel
theorem d_M_copy_42 : decode b_M_copy 42 = .ok (.iinc 3 1, 3) := by decide +kernel
theorem d_M_copy_45 : decode b_M_copy 45 = .ok (.goto (-31), 3) := by decide +kernel
theorem d_M_copy_48 : decode b_M_copy 48 = .ok (.aload_n 0, 1) := by decide +kernel
theorem d_M_copy_49 : decode b_M_copy 49 = .ok (.getfield 20, 3) := by decide +kernel
theorem d_M_copy_52 : decode b_M_copy 52 = .ok (.iload_n 2, 1) := by decide +kernel
theorem d_M_copy_53 : decode b_M_copy 53 = .ok (.aload_n 0, 1) := by decide +kernel
theorem d_M_copy_54 : decode b_M_copy 54 = .ok (.getfield 20, 3) := by decide +kernel
theorem d_M_copy_57 : decode b_M_copy 57 = .ok (.iload_n 1, 1) := by decide +kernel
theorem d_M_copy_58 : decode b_M_copy 58 = .ok (.iaload, 1) := by decide +kernel
theorem d_M_copy_59 : decode b_M_copy 59 = .ok (.iastore, 1) := by decide +kernel
theorem d_M_copy_60 : decode b_M_copy 60 = .ok (.iconst 0, 1) := by decide +kernel
theorem d_M_copy_61 : decode b_M_copy 61 = .ok (.istore_n 3, 1) := by decide +kernel
theorem d_M_copy_62 : decode b_M_copy 62 = .ok (.iload_n 3, 1) := by decide +kernel
theorem d_M_copy_63 : decode b_M_copy 63 = .ok (.bipush 8, 2) := by decide +kernel
theorem d_M_copy_65 : decode b_M_copy 65 = .ok (.if_icmp .ge 53, 3) := by decide +kernel
theorem d_M_copy_68 : decode b_M_copy 68 = .ok (.aload_n 0, 1) := by decide +kernel
theorem d_M_copy_69 : decode b_M_copy 69 = .ok (.getfield 23, 3) := by decide +kernel
theorem d_M_copy_72 : decode b_M_copy 72 = .ok (.bipush 8, 2) := by decide +kernel
theorem d_M_copy_74 : decode b_M_copy 74 = .ok (.iload_n 2, 1) := by decide +kernel
theorem d_M_copy_75 : decode b_M_copy 75 = .ok (.imul, 1) := by decide +kernel
theorem d_M_copy_76 : decode b_M_copy 76 = .ok (.iload_n 3, 1) := by decide +kernel
theorem d_M_copy_77 : decode b_M_copy 77 = .ok (.iadd, 1) := by decide +kernel
theorem d_M_copy_78 : decode b_M_copy 78 = .ok (.aload_n 0, 1) := by decide +kernel
theorem d_M_copy_79 : decode b_M_copy 79 = .ok (.getfield 23, 3) := by decide +kernel
theorem d_M_copy_82 : decode b_M_copy 82 = .ok (.bipush 8, 2) := by decide +kernel
theorem d_M_copy_84 : decode b_M_copy 84 = .ok (.iload_n 1, 1) := by decide +kernel
theorem d_M_copy_85 : decode b_M_copy 85 = .ok (.imul, 1) := by decide +kernel
theorem d_M_copy_86 : decode b_M_copy 86 = .ok (.iload_n 3, 1) := by decide +kernel
theorem d_M_copy_87 : decode b_M_copy 87 = .ok (.iadd, 1) := by decide +kernel
theorem d_M_copy_88 : decode b_M_copy 88 = .ok (.laload, 1) := by decide +kernel
theorem d_M_copy_89 : decode b_M_copy 89 = .ok (.lastore, 1) := by decide +kernel
theorem d_M_copy_90 : decode b_M_copy 90 = .ok (.aload_n 0, 1) := by decide +kernel
theorem d_M_copy_91 : decode b_M_copy 91 = .ok (.getfield 26, 3) := by decide +kernel
theorem d_M_copy_94 : decode b_M_copy 94 = .ok (.bipush 8, 2) := by decide +kernel
theorem d_M_copy_96 : decode b_M_copy 96 = .ok (.iload_n 2, 1) := by decide +kernel
theorem d_M_copy_97 : decode b_M_copy 97 = .ok (.imul, 1) := by decide +kernel
theorem d_M_copy_98 : decode b_M_copy 98 = .ok (.iload_n 3, 1) := by decide +kernel
theorem d_M_copy_99 : decode b_M_copy 99 = .ok (.iadd, 1) := by decide +kernel
theorem d_M_copy_100 : decode b_M_copy 100 = .ok (.aload_n 0, 1) := by decide +kernel
theorem d_M_copy_101 : decode b_M_copy 101 = .ok (.getfield 26, 3) := by decide +kernel
theorem d_M_copy_104 : decode b_M_copy 104 = .ok (.bipush 8, 2) := by decide +kernel
theorem d_M_copy_106 : decode b_M_copy 106 = .ok (.iload_n 1, 1) := by decide +kernel
theorem d_M_copy_107 : decode b_M_copy 107 = .ok (.imul, 1) := by decide +kernel
theorem d_M_copy_108 : decode b_M_copy 108 = .ok (.iload_n 3, 1) := by decide +kernel
theorem d_M_copy_109 : decode b_M_copy 109 = .ok (.iadd, 1) := by decide +kernel
theorem d_M_copy_110 : decode b_M_copy 110 = .ok (.laload, 1) := by decide +kernel
theorem d_M_copy_111 : decode b_M_copy 111 = .ok (.lastore, 1) := by decide +kernel
theorem d_M_copy_112 : decode b_M_copy 112 = .ok (.iinc 3 1, 3) := by decide +kernel
theorem d_M_copy_115 : decode b_M_copy 115 = .ok (.goto (-53), 3) := by decide +kernel
theorem d_M_copy_118 : decode b_M_copy 118 = .ok (.return_, 1) := by decide +kernel
abbrev rm_M_copy : Room := { frames := 0, cells := 0, slots := 0, locals := 0 }
theorem ce_M_copy : gCe y_M_copy (.code y_M_copy b_M_copy 4 none) 4 2 false := gCe.code wd_939 wd_57 wd_938 (by decide) (by decide +kernel)
def f_M_copy_L62 (g0 : gG) (c0 : Nat) (c1 : Int32) (c2 : Int32) (K118 : gW → gX Unit) : Nat → Int32 → gW → gX Unit
  | 0, _, _ => none
  | n + 1, z3, w => if 8 ≤ z3 then (K118 w) else ((gfA w c0 7 7).bind fun v16 => (gfA w c0 7 7).bind fun v18 => (gaJ w v18 ((8 * c1) + z3)).bind fun v20 => (gsJ w v16 ((8 * c2) + z3) v20).bind fun w => (gfA w c0 7 8).bind fun v23 => (gfA w c0 7 8).bind fun v25 => (gaJ w v25 ((8 * c1) + z3)).bind fun v27 => (gsJ w v23 ((8 * c2) + z3) v27).bind fun w => f_M_copy_L62 g0 c0 c1 c2 K118 n (z3 + 1) w)
def f_M_copy_L14 (g0 : gG) (c0 : Nat) (c1 : Int32) (c2 : Int32) (K48 : gW → gX Unit) : Nat → Int32 → gW → gX Unit
  | 0, _, _ => none
  | n + 1, z3, w => if 6 ≤ z3 then (K48 w) else ((gfA w c0 7 5).bind fun v32 => (gfA w c0 7 5).bind fun v34 => (gaJ w v34 ((6 * c1) + z3)).bind fun v36 => (gsJ w v32 ((6 * c2) + z3) v36).bind fun w => f_M_copy_L14 g0 c0 c1 c2 K48 n (z3 + 1) w)
def f_M_copy (g0 : gG) (a0 : Nat) (p1 : Int32) (p2 : Int32) (w : gW) : gX Unit := (gfA w a0 7 4).bind fun v1 => (gfA w a0 7 4).bind fun v3 => (gaI w v3 p1).bind fun v5 => (gsI w v1 p2 v5).bind fun w => gjoin (fun K48 => f_M_copy_L14 g0 a0 p1 p2 K48 64 0 w) (fun (w : gW) => (gfA w a0 7 6).bind fun v8 => (gfA w a0 7 6).bind fun v10 => (gaI w v10 p1).bind fun v12 => (gsI w v8 p2 v12).bind fun w => gjoin (fun K118 => f_M_copy_L62 g0 a0 p1 p2 K118 64 0 w) (fun (w : gW) => some (.inr (), w)))
set_option maxHeartbeats 4000000 in
set_option maxRecDepth 100000 in
theorem m_M_copy (l : Launch) (hst : l.stackTraces = false) (D : gD) (g0 : gG) (a0 : Nat) (p1 : Int32) (p2 : Int32) (w : gW) (r : (String ⊕ Unit) × gW) (h : f_M_copy g0 a0 p1 p2 w = some r) : gMet l y_M_copy (.code y_M_copy b_M_copy 4 none) rm_M_copy D g0 [.ref a0, .int p1, .int p2] w (goV r) := by
  refine gw_ofV (by decide +kernel) (Nat.le_of_ble_eq_true rfl) ?_
  intro p e s m below meth c ls args A Q hx hb hml hown hlocks hin hnt hT hK hZ hA hret hexc hthr hI hl
  obtain ⟨H, hH⟩ : ∃ H, H = s.heap := ⟨_, rfl⟩
  rw [← hH] at hI ⊢
  obtain ⟨locs, hlocs⟩ : ∃ z : List Loc, z = [] := ⟨_, rfl⟩
  rw [← hlocs] at hI ⊢
  have hl : lv_has ls 4 [(0, .ref a0), (1, .int p1), (2, .int p2)] := hl
  unfold f_M_copy at h
  refine lv_aload_n hx hb d_M_copy_0 rfl (lv_at hl 0 rfl) ?_
  obtain ⟨v1, e2, h⟩ := gb h
  refine gw_getA hx hb hT hown hK hI (ci := 7) rfl i_7 4 (by decide) wd_790 (fun _ h9 => h9) e2 d_M_copy_1 ?_
  refine lv_iload_n hx hb d_M_copy_4 rfl (lv_at hl 2 rfl) ?_
  refine lv_aload_n hx hb d_M_copy_5 rfl (lv_at hl 0 rfl) ?_
  obtain ⟨v3, e4, h⟩ := gb h
  refine gw_getA hx hb hT hown hK hI (ci := 7) rfl i_7 4 (by decide) wd_790 (fun _ h9 => h9) e4 d_M_copy_6 ?_
  refine lv_iload_n hx hb d_M_copy_9 rfl (lv_at hl 1 rfl) ?_
  obtain ⟨v5, e6, h⟩ := gb h
  refine gw_aldI hx hb hK hI e6 d_M_copy_10 ?_
  obtain ⟨w, e7, h⟩ := gb h
  refine gw_astI hx hb hK hI e7 d_M_copy_11 (fun H locs hI => ?_)
  refine lv_iconst (v := 0) hx hb d_M_copy_12 (by decide) ?_
  refine lv_istore_n (lv' := [(3, .int 0), (0, .ref a0), (1, .int p1), (2, .int p2)]) hx hb d_M_copy_13 rfl hl (by decide) rfl (fun ls hl => ?_)
  obtain ⟨K48, eK48, h⟩ := gj h
  have hK48 : ∀ (w : gW) (H : Heap) (locs : List Loc) (ls : Array Slot), K48 w = some r → gI D s A w H locs → lv_has ls 4 [(0, .ref a0), (1, .int p1), (2, .int p2)] → W p l e rm_M_copy s m args below meth c H locs 0 0 Q (F0 m 48 ls []) := by
    intro w H locs ls h hI hl
    have h := gk1 eK48 h
    refine lv_aload_n hx hb d_M_copy_48 rfl (lv_at hl 0 rfl) ?_
    obtain ⟨v8, e9, h⟩ := gb h
    refine gw_getA hx hb hT hown hK hI (ci := 7) rfl i_7 6 (by decide) wd_792 (fun _ h9 => h9) e9 d_M_copy_49 ?_
    refine lv_iload_n hx hb d_M_copy_52 rfl (lv_at hl 2 rfl) ?_
    refine lv_aload_n hx hb d_M_copy_53 rfl (lv_at hl 0 rfl) ?_
    obtain ⟨v10, e11, h⟩ := gb h
    refine gw_getA hx hb hT hown hK hI (ci := 7) rfl i_7 6 (by decide) wd_792 (fun _ h9 => h9) e11 d_M_copy_54 ?_
    refine lv_iload_n hx hb d_M_copy_57 rfl (lv_at hl 1 rfl) ?_
    obtain ⟨v12, e13, h⟩ := gb h
    refine gw_aldI hx hb hK hI e13 d_M_copy_58 ?_
    obtain ⟨w, e14, h⟩ := gb h
    refine gw_astI hx hb hK hI e14 d_M_copy_59 (fun H locs hI => ?_)
    refine lv_iconst (v := 0) hx hb d_M_copy_60 (by decide) ?_
    refine lv_istore_n (lv' := [(3, .int 0), (0, .ref a0), (1, .int p1), (2, .int p2)]) hx hb d_M_copy_61 rfl hl (by decide) rfl (fun ls hl => ?_)
    obtain ⟨K118, eK118, h⟩ := gj h
    have hK118 : ∀ (w : gW) (H : Heap) (locs : List Loc) (ls : Array Slot), K118 w = some r → gI D s A w H locs → lv_has ls 4 [] → W p l e rm_M_copy s m args below meth c H locs 0 0 Q (F0 m 118 ls []) := by
      intro w H locs ls h hI hl
      have h := gk1 eK118 h
      exact W.widen (show 0 ≤ 0 by omega) (show 0 ≤ 0 by omega) (hret _ _ (Option.some.inj h).symm _ _ _ _ d_M_copy_118 hI)
    have hL62 : ∀ (n : Nat), ∀ (z15 : Int32) (w : gW) (H : Heap) (locs : List Loc) (ls : Array Slot), f_M_copy_L62 g0 a0 p1 p2 K118 n z15 w = some r → gI D s A w H locs → lv_has ls 4 [(0, .ref a0), (1, .int p1), (2, .int p2), (3, .int z15)] → W p l e rm_M_copy s m args below meth c H locs 0 0 Q (F0 m 62 ls []) := by
      intro n
      induction n with
      | zero => intro z15 w H locs ls h hI hl; exact absurd h (by simp [f_M_copy_L62])
      | succ n ih =>
        intro z15 w H locs ls h hI hl
        rw [f_M_copy_L62] at h
        refine lv_iload_n hx hb d_M_copy_62 rfl (lv_at hl 3 rfl) ?_
        refine lv_bipush (v := 8) hx hb d_M_copy_63 (by decide) ?_
        refine lv_icmp_ge (tgt := 118) hx hb d_M_copy_65 (by decide) (fun c16 => ?_) (fun c16 => ?_)
        · skip
          have h := git c16 h
          exact hK118 w H locs ls h hI (lv_sub hl [] rfl)
        · skip
          have h := gie c16 h
          refine lv_aload_n hx hb d_M_copy_68 rfl (lv_at hl 0 rfl) ?_
          obtain ⟨v17, e18, h⟩ := gb h
          refine gw_getA hx hb hT hown hK hI (ci := 7) rfl i_7 7 (by decide) wd_793 (fun _ h9 => h9) e18 d_M_copy_69 ?_
          refine lv_bipush (v := 8) hx hb d_M_copy_72 (by decide) ?_
          refine lv_iload_n hx hb d_M_copy_74 rfl (lv_at hl 2 rfl) ?_
          refine lv_imul hx hb d_M_copy_75 ?_
          refine lv_iload_n hx hb d_M_copy_76 rfl (lv_at hl 3 rfl) ?_
          refine lv_iadd hx hb d_M_copy_77 ?_
          refine lv_aload_n hx hb d_M_copy_78 rfl (lv_at hl 0 rfl) ?_
          obtain ⟨v19, e20, h⟩ := gb h
          refine gw_getA hx hb hT hown hK hI (ci := 7) rfl i_7 7 (by decide) wd_793 (fun _ h9 => h9) e20 d_M_copy_79 ?_
          refine lv_bipush (v := 8) hx hb d_M_copy_82 (by decide) ?_
          refine lv_iload_n hx hb d_M_copy_84 rfl (lv_at hl 1 rfl) ?_
          refine lv_imul hx hb d_M_copy_85 ?_
          refine lv_iload_n hx hb d_M_copy_86 rfl (lv_at hl 3 rfl) ?_
          refine lv_iadd hx hb d_M_copy_87 ?_
          obtain ⟨v21, e22, h⟩ := gb h
          refine gw_aldJ hx hb hK hI e22 d_M_copy_88 ?_
          obtain ⟨w, e23, h⟩ := gb h
          refine gw_astJ hx hb hK hI e23 d_M_copy_89 (fun H locs hI => ?_)
          refine lv_aload_n hx hb d_M_copy_90 rfl (lv_at hl 0 rfl) ?_
          obtain ⟨v24, e25, h⟩ := gb h
          refine gw_getA hx hb hT hown hK hI (ci := 7) rfl i_7 8 (by decide) wd_794 (fun _ h9 => h9) e25 d_M_copy_91 ?_
          refine lv_bipush (v := 8) hx hb d_M_copy_94 (by decide) ?_
          refine lv_iload_n hx hb d_M_copy_96 rfl (lv_at hl 2 rfl) ?_
          refine lv_imul hx hb d_M_copy_97 ?_
          refine lv_iload_n hx hb d_M_copy_98 rfl (lv_at hl 3 rfl) ?_
          refine lv_iadd hx hb d_M_copy_99 ?_
          refine lv_aload_n hx hb d_M_copy_100 rfl (lv_at hl 0 rfl) ?_
          obtain ⟨v26, e27, h⟩ := gb h
          refine gw_getA hx hb hT hown hK hI (ci := 7) rfl i_7 8 (by decide) wd_794 (fun _ h9 => h9) e27 d_M_copy_101 ?_
          refine lv_bipush (v := 8) hx hb d_M_copy_104 (by decide) ?_
          refine lv_iload_n hx hb d_M_copy_106 rfl (lv_at hl 1 rfl) ?_
          refine lv_imul hx hb d_M_copy_107 ?_
          refine lv_iload_n hx hb d_M_copy_108 rfl (lv_at hl 3 rfl) ?_
          refine lv_iadd hx hb d_M_copy_109 ?_
          obtain ⟨v28, e29, h⟩ := gb h
          refine gw_aldJ hx hb hK hI e29 d_M_copy_110 ?_
          obtain ⟨w, e30, h⟩ := gb h
          refine gw_astJ hx hb hK hI e30 d_M_copy_111 (fun H locs hI => ?_)
          refine lv_iinc (v := z15 + 1) (lv' := [(3, .int (z15 + 1)), (0, .ref a0), (1, .int p1), (2, .int p2)]) hx hb d_M_copy_112 hl (k := 3) rfl rfl (by decide) rfl (fun ls hl => ?_)
          refine lv_goto (tgt := 62) hx hb d_M_copy_115 (by decide) ?_
          exact ih _ w H locs ls h hI (lv_sub hl [1, 2, 3, 0] rfl)
    exact hL62 64 _ w H locs ls h hI (lv_sub hl [1, 2, 3, 0] rfl)
  have hL14 : ∀ (n : Nat), ∀ (z31 : Int32) (w : gW) (H : Heap) (locs : List Loc) (ls : Array Slot), f_M_copy_L14 g0 a0 p1 p2 K48 n z31 w = some r → gI D s A w H locs → lv_has ls 4 [(0, .ref a0), (1, .int p1), (2, .int p2), (3, .int z31)] → W p l e rm_M_copy s m args below meth c H locs 0 0 Q (F0 m 14 ls []) := by
    intro n
    induction n with
    | zero => intro z31 w H locs ls h hI hl; exact absurd h (by simp [f_M_copy_L14])
    | succ n ih =>
      intro z31 w H locs ls h hI hl
      rw [f_M_copy_L14] at h
      refine lv_iload_n hx hb d_M_copy_14 rfl (lv_at hl 3 rfl) ?_
      refine lv_bipush (v := 6) hx hb d_M_copy_15 (by decide) ?_
      refine lv_icmp_ge (tgt := 48) hx hb d_M_copy_17 (by decide) (fun c32 => ?_) (fun c32 => ?_)
      · skip
        have h := git c32 h
        exact hK48 w H locs ls h hI (lv_sub hl [0, 1, 2] rfl)
      · skip
        have h := gie c32 h
        refine lv_aload_n hx hb d_M_copy_20 rfl (lv_at hl 0 rfl) ?_
        obtain ⟨v33, e34, h⟩ := gb h
        refine gw_getA hx hb hT hown hK hI (ci := 7) rfl i_7 5 (by decide) wd_791 (fun _ h9 => h9) e34 d_M_copy_21 ?_
        refine lv_bipush (v := 6) hx hb d_M_copy_24 (by decide) ?_
        refine lv_iload_n hx hb d_M_copy_26 rfl (lv_at hl 2 rfl) ?_
        refine lv_imul hx hb d_M_copy_27 ?_
        refine lv_iload_n hx hb d_M_copy_28 rfl (lv_at hl 3 rfl) ?_
        refine lv_iadd hx hb d_M_copy_29 ?_
        refine lv_aload_n hx hb d_M_copy_30 rfl (lv_at hl 0 rfl) ?_
        obtain ⟨v35, e36, h⟩ := gb h
        refine gw_getA hx hb hT hown hK hI (ci := 7) rfl i_7 5 (by decide) wd_791 (fun _ h9 => h9) e36 d_M_copy_31 ?_
        refine lv_bipush (v := 6) hx hb d_M_copy_34 (by decide) ?_
        refine lv_iload_n hx hb d_M_copy_36 rfl (lv_at hl 1 rfl) ?_
        refine lv_imul hx hb d_M_copy_37 ?_
        refine lv_iload_n hx hb d_M_copy_38 rfl (lv_at hl 3 rfl) ?_
        refine lv_iadd hx hb d_M_copy_39 ?_
        obtain ⟨v37, e38, h⟩ := gb h
        refine gw_aldJ hx hb hK hI e38 d_M_copy_40 ?_
        obtain ⟨w, e39, h⟩ := gb h
        refine gw_astJ hx hb hK hI e39 d_M_copy_41 (fun H locs hI => ?_)
        refine lv_iinc (v := z31 + 1) (lv' := [(3, .int (z31 + 1)), (0, .ref a0), (1, .int p1), (2, .int p2)]) hx hb d_M_copy_42 hl (k := 3) rfl rfl (by decide) rfl (fun ls hl => ?_)
        refine lv_goto (tgt := 14) hx hb d_M_copy_45 (by decide) ?_
        exact ih _ w H locs ls h hI (lv_sub hl [1, 2, 3, 0] rfl)
  exact hL14 64 _ w H locs ls h hI (lv_sub hl [1, 2, 3, 0] rfl)

abbrev b_M_join : ByteArray := prog_9_method_21_code
def y_M_join : MethodName := ⟨"BodySolidsModel", "join", "(II)I"⟩
theorem d_M_join_0 : decode b_M_join 0 = .ok (.aload_n 0, 1) := by decide +kernel
theorem d_M_join_1 : decode b_M_join 1 = .ok (.aload_n 0, 1) := by decide +kernel
theorem d_M_join_2 : decode b_M_join 2 = .ok (.iload_n 1, 1) := by decide +kernel
theorem d_M_join_3 : decode b_M_join 3 = .ok (.invokevirtual 109, 3) := by decide +kernel
theorem d_M_join_6 : decode b_M_join 6 = .ok (.ifCond .eq 15, 3) := by decide +kernel
theorem d_M_join_9 : decode b_M_join 9 = .ok (.aload_n 0, 1) := by decide +kernel
theorem d_M_join_10 : decode b_M_join 10 = .ok (.iload_n 2, 1) := by decide +kernel
theorem d_M_join_11 : decode b_M_join 11 = .ok (.invokevirtual 109, 3) := by decide +kernel
theorem d_M_join_14 : decode b_M_join 14 = .ok (.ifCond .eq 7, 3) := by decide +kernel
theorem d_M_join_17 : decode b_M_join 17 = .ok (.iconst 0, 1) := by decide +kernel
theorem d_M_join_18 : decode b_M_join 18 = .ok (.goto 4, 3) := by decide +kernel
theorem d_M_join_21 : decode b_M_join 21 = .ok (.iconst 1, 1) := by decide +kernel
theorem d_M_join_22 : decode b_M_join 22 = .ok (.putfield 80, 3) := by decide +kernel
theorem d_M_join_25 : decode b_M_join 25 = .ok (.aload_n 0, 1) := by decide +kernel
theorem d_M_join_26 : decode b_M_join 26 = .ok (.getfield 80, 3) := by decide +kernel
theorem d_M_join_29 : decode b_M_join 29 = .ok (.ifCond .eq 5, 3) := by decide +kernel
theorem d_M_join_32 : decode b_M_join 32 = .ok (.iconst 0, 1) := by decide +kernel
theorem d_M_join_33 : decode b_M_join 33 = .ok (.ireturn, 1) := by decide +kernel
theorem d_M_join_34 : decode b_M_join 34 = .ok (.aload_n 0, 1) := by decide +kernel
theorem d_M_join_35 : decode b_M_join 35 = .ok (.getfield 92, 3) := by decide +kernel
theorem d_M_join_38 : decode b_M_join 38 = .ok (.bipush 30, 2) := by decide +kernel
theorem d_M_join_40 : decode b_M_join 40 = .ok (.if_icmp .eq 21, 3) := by decide +kernel
theorem d_M_join_43 : decode b_M_join 43 = .ok (.aload_n 0, 1) := by decide +kernel
theorem d_M_join_44 : decode b_M_join 44 = .ok (.getfield 7, 3) := by decide +kernel
theorem d_M_join_47 : decode b_M_join 47 = .ok (.iload_n 1, 1) := by decide +kernel
theorem d_M_join_48 : decode b_M_join 48 = .ok (.iaload, 1) := by decide +kernel
theorem d_M_join_49 : decode b_M_join 49 = .ok (.aload_n 0, 1) := by decide +kernel
theorem d_M_join_50 : decode b_M_join 50 = .ok (.getfield 7, 3) := by decide +kernel
theorem d_M_join_53 : decode b_M_join 53 = .ok (.iload_n 2, 1) := by decide +kernel
theorem d_M_join_54 : decode b_M_join 54 = .ok (.iaload, 1) := by decide +kernel
theorem d_M_join_55 : decode b_M_join 55 = .ok (.iadd, 1) := by decide +kernel
theorem d_M_join_56 : decode b_M_join 56 = .ok (.bipush 12, 2) := by decide +kernel
theorem d_M_join_58 : decode b_M_join 58 = .ok (.if_icmp .le 5, 3) := by decide +kernel
theorem d_M_join_61 : decode b_M_join 61 = .ok (.iconst (-1), 1) := by decide +kernel
theorem d_M_join_62 : decode b_M_join 62 = .ok (.ireturn, 1) := by decide +kernel
theorem d_M_join_63 : decode b_M_join 63 = .ok (.bipush 12, 2) := by decide +kernel
theorem d_M_join_65 : decode b_M_join 65 = .ok (.aload_n 0, 1) := by decide +kernel
theorem d_M_join_66 : decode b_M_join 66 = .ok (.getfield 92, 3) := by decide +kernel
theorem d_M_join_69 : decode b_M_join 69 = .ok (.imul, 1) := by decide +kernel
theorem d_M_join_70 : decode b_M_join 70 = .ok (.istore_n 3, 1) := by decide +kernel
theorem d_M_join_71 : decode b_M_join 71 = .ok (.iconst 0, 1) := by decide +kernel
theorem d_M_join_72 : decode b_M_join 72 = .ok (.istore 4, 2) := by decide +kernel
theorem d_M_join_74 : decode b_M_join 74 = .ok (.iload 4, 2) := by decide +kernel
theorem d_M_join_76 : decode b_M_join 76 = .ok (.aload_n 0, 1) := by decide +kernel
theorem d_M_join_77 : decode b_M_join 77 = .ok (.getfield 7, 3) := by decide +kernel
theorem d_M_join_80 : decode b_M_join 80 = .ok (.iload_n 1, 1) := by decide +kernel
theorem d_M_join_81 : decode b_M_join 81 = .ok (.iaload, 1) := by decide +kernel
theorem d_M_join_82 : decode b_M_join 82 = .ok (.if_icmp .ge 24, 3) := by decide +kernel
theorem d_M_join_85 : decode b_M_join 85 = .ok (.aload_n 0, 1) := by decide +kernel
theorem d_M_join_86 : decode b_M_join 86 = .ok (.bipush 12, 2) := by decide +kernel
theorem d_M_join_88 : decode b_M_join 88 = .ok (.iload_n 1, 1) := by decide +kernel
theorem d_M_join_89 : decode b_M_join 89 = .ok (.imul, 1) := by decide +kernel
theorem d_M_join_90 : decode b_M_join 90 = .ok (.iload 4, 2) := by decide +kernel
theorem d_M_join_92 : decode b_M_join 92 = .ok (.iadd, 1) := by decide +kernel
theorem d_M_join_93 : decode b_M_join 93 = .ok (.iload_n 3, 1) := by decide +kernel
theorem d_M_join_94 : decode b_M_join 94 = .ok (.iload 4, 2) := by decide +kernel
theorem d_M_join_96 : decode b_M_join 96 = .ok (.iadd, 1) := by decide +kernel
theorem d_M_join_97 : decode b_M_join 97 = .ok (.invokevirtual 138, 3) := by decide +kernel
theorem d_M_join_100 : decode b_M_join 100 = .ok (.iinc 4 1, 3) := by decide +kernel
theorem d_M_join_103 : decode b_M_join 103 = .ok (.goto (-29), 3) := by decide +kernel
theorem d_M_join_106 : decode b_M_join 106 = .ok (.iconst 0, 1) := by decide +kernel
theorem d_M_join_107 : decode b_M_join 107 = .ok (.istore 4, 2) := by decide +kernel
theorem d_M_join_109 : decode b_M_join 109 = .ok (.iload 4, 2) := by decide +kernel
theorem d_M_join_111 : decode b_M_join 111 = .ok (.aload_n 0, 1) := by decide +kernel
theorem d_M_join_112 : decode b_M_join 112 = .ok (.getfield 7, 3) := by decide +kernel
theorem d_M_join_115 : decode b_M_join 115 = .ok (.iload_n 2, 1) := by decide +kernel
theorem d_M_join_116 : decode b_M_join 116 = .ok (.iaload, 1) := by decide +kernel
theorem d_M_join_117 : decode b_M_join 117 = .ok (.if_icmp .ge 31, 3) := by decide +kernel
theorem d_M_join_120 : decode b_M_join 120 = .ok (.aload_n 0, 1) := by decide +kernel
theorem d_M_join_121 : decode b_M_join 121 = .ok (.bipush 12, 2) := by decide +kernel
theorem d_M_join_123 : decode b_M_join 123 = .ok (.iload_n 2, 1) := by decide +kernel
theorem d_M_join_124 : decode b_M_join 124 = .ok (.imul, 1) := by decide +kernel
theorem d_M_join_125 : decode b_M_join 125 = .ok (.iload 4, 2) := by decide +kernel
theorem d_M_join_127 : decode b_M_join 127 = .ok (.iadd, 1) := by decide +kernel
theorem d_M_join_128 : decode b_M_join 128 = .ok (.iload_n 3, 1) := by decide +kernel
theorem d_M_join_129 : decode b_M_join 129 = .ok (.aload_n 0, 1) := by decide +kernel
theorem d_M_join_130 : decode b_M_join 130 = .ok (.getfield 7, 3) := by decide +kernel
theorem d_M_join_133 : decode b_M_join 133 = .ok (.iload_n 1, 1) := by decide +kernel
theorem d_M_join_134 : decode b_M_join 134 = .ok (.iaload, 1) := by decide +kernel
theorem d_M_join_135 : decode b_M_join 135 = .ok (.iadd, 1) := by decide +kernel
theorem d_M_join_136 : decode b_M_join 136 = .ok (.iload 4, 2) := by decide +kernel
theorem d_M_join_138 : decode b_M_join 138 = .ok (.iadd, 1) := by decide +kernel
theorem d_M_join_139 : decode b_M_join 139 = .ok (.invokevirtual 138, 3) := by decide +kernel
theorem d_M_join_142 : decode b_M_join 142 = .ok (.iinc 4 1, 3) := by decide +kernel
theorem d_M_join_145 : decode b_M_join 145 = .ok (.goto (-36), 3) := by decide +kernel
theorem d_M_join_148 : decode b_M_join 148 = .ok (.aload_n 0, 1) := by decide +kernel
theorem d_M_join_149 : decode b_M_join 149 = .ok (.getfield 7, 3) := by decide +kernel
theorem d_M_join_152 : decode b_M_join 152 = .ok (.aload_n 0, 1) := by decide +kernel
theorem d_M_join_153 : decode b_M_join 153 = .ok (.getfield 92, 3) := by decide +kernel
theorem d_M_join_156 : decode b_M_join 156 = .ok (.aload_n 0, 1) := by decide +kernel
theorem d_M_join_157 : decode b_M_join 157 = .ok (.getfield 7, 3) := by decide +kernel
theorem d_M_join_160 : decode b_M_join 160 = .ok (.iload_n 1, 1) := by decide +kernel
theorem d_M_join_161 : decode b_M_join 161 = .ok (.iaload, 1) := by decide +kernel
theorem d_M_join_162 : decode b_M_join 162 = .ok (.aload_n 0, 1) := by decide +kernel
theorem d_M_join_163 : decode b_M_join 163 = .ok (.getfield 7, 3) := by decide +kernel
theorem d_M_join_166 : decode b_M_join 166 = .ok (.iload_n 2, 1) := by decide +kernel
theorem d_M_join_167 : decode b_M_join 167 = .ok (.iaload, 1) := by decide +kernel
theorem d_M_join_168 : decode b_M_join 168 = .ok (.iadd, 1) := by decide +kernel
theorem d_M_join_169 : decode b_M_join 169 = .ok (.iastore, 1) := by decide +kernel
theorem d_M_join_170 : decode b_M_join 170 = .ok (.aload_n 0, 1) := by decide +kernel
theorem d_M_join_171 : decode b_M_join 171 = .ok (.dup, 1) := by decide +kernel
theorem d_M_join_172 : decode b_M_join 172 = .ok (.getfield 92, 3) := by decide +kernel
theorem d_M_join_175 : decode b_M_join 175 = .ok (.iconst 1, 1) := by decide +kernel
theorem d_M_join_176 : decode b_M_join 176 = .ok (.iadd, 1) := by decide +kernel
theorem d_M_join_177 : decode b_M_join 177 = .ok (.putfield 92, 3) := by decide +kernel
theorem d_M_join_180 : decode b_M_join 180 = .ok (.aload_n 0, 1) := by decide +kernel
theorem d_M_join_181 : decode b_M_join 181 = .ok (.getfield 92, 3) := by decide +kernel
theorem d_M_join_184 : decode b_M_join 184 = .ok (.iconst 1, 1) := by decide +kernel
theorem d_M_join_185 : decode b_M_join 185 = .ok (.isub, 1) := by decide +kernel
theorem d_M_join_186 : decode b_M_join 186 = .ok (.ireturn, 1) := by decide +kernel
abbrev rm_M_join : Room := { frames := 1, cells := 0, slots := 0, locals := 23 }
theorem ce_M_join : gCe y_M_join (.code y_M_join b_M_join 5 (some .int)) 5 2 false := gCe.code wd_935 wd_57 wd_933 (by decide) (by decide +kernel)
def f_M_join_L109 (g0 : gG) (c0 : Nat) (c1 : Int32) (c2 : Int32) (c3 : Int32) (K148 : gW → gX Int32) : Nat → Int32 → gW → gX Int32
  | 0, _, _ => none
  | n + 1, z4, w => (gfA w c0 7 3).bind fun v43 => (gaI w v43 c2).bind fun v45 => if v45 ≤ z4 then (K148 w) else ((gfA w c0 7 3).bind fun v48 => (gaI w v48 c1).bind fun v50 => (gck w c0 7).bind fun _ => gbind (f_M_copy g0 c0 ((12 * c2) + z4) ((c3 + v50) + z4) w) fun v56 w => f_M_join_L109 g0 c0 c1 c2 c3 K148 n (z4 + 1) w)
def f_M_join_L74 (g0 : gG) (c0 : Nat) (c1 : Int32) (c2 : Int32) (c3 : Int32) (K106 : gW → gX Int32) : Nat → Int32 → gW → gX Int32
  | 0, _, _ => none
  | n + 1, z4, w => (gfA w c0 7 3).bind fun v58 => (gaI w v58 c1).bind fun v60 => if v60 ≤ z4 then (K106 w) else ((gck w c0 7).bind fun _ => gbind (f_M_copy g0 c0 ((12 * c1) + z4) (c3 + z4) w) fun v67 w => f_M_join_L74 g0 c0 c1 c2 c3 K106 n (z4 + 1) w)
def f_M_join (g0 : gG) (a0 : Nat) (p1 : Int32) (p2 : Int32) (w : gW) : gX Int32 := (gck w a0 7).bind fun _ => gbind (f_M_isBody g0 a0 p1 w) fun v5 w => gjoin (fun K22 => gjoin (fun K21 => if v5 = 0 then (K21 w) else ((gck w a0 7).bind fun _ => gbind (f_M_isBody g0 a0 p2 w) fun v74 w => if v74 = 0 then (K21 w) else (K22 0 w))) (fun (w : gW) => K22 1 w)) (fun (y6 : Int32) (w : gW) => (gp w a0 7 0 (.int y6)).bind fun w => (gfI w a0 7 0).bind fun v8 => if v8 = 0 then ((gfI w a0 7 2).bind fun v11 => gjoin (fun K61 => if v11 = 30 then (K61 w) else ((gfA w a0 7 3).bind fun v14 => (gaI w v14 p1).bind fun v16 => (gfA w a0 7 3).bind fun v18 => (gaI w v18 p2).bind fun v20 => if (v16 + v20) ≤ 12 then ((gfI w a0 7 2).bind fun v23 => gjoin (fun K106 => f_M_join_L74 g0 a0 p1 p2 (12 * v23) K106 64 0 w) (fun (w : gW) => gjoin (fun K148 => f_M_join_L109 g0 a0 p1 p2 (12 * v23) K148 64 0 w) (fun (w : gW) => (gfA w a0 7 3).bind fun v25 => (gfI w a0 7 2).bind fun v27 => (gfA w a0 7 3).bind fun v29 => (gaI w v29 p1).bind fun v31 => (gfA w a0 7 3).bind fun v33 => (gaI w v33 p2).bind fun v35 => (gsI w v25 v27 (v31 + v35)).bind fun w => (gfI w a0 7 2).bind fun v38 => (gp w a0 7 2 (.int (v38 + 1))).bind fun w => (gfI w a0 7 2).bind fun v41 => some (.inr (v41 - 1), w)))) else (K61 w))) (fun (w : gW) => some (.inr (-1), w))) else (some (.inr 0, w)))
set_option maxHeartbeats 4000000 in
set_option maxRecDepth 100000 in
theorem m_M_join (l : Launch) (hst : l.stackTraces = false) (D : gD) (g0 : gG) (a0 : Nat) (p1 : Int32) (p2 : Int32) (w : gW) (r : (String ⊕ Int32) × gW) (h : f_M_join g0 a0 p1 p2 w = some r) : gMet l y_M_join (.code y_M_join b_M_join 5 (some .int)) rm_M_join D g0 [.ref a0, .int p1, .int p2] w (goI r) := by
  refine gw_ofI (by decide +kernel) (Nat.le_of_ble_eq_true rfl) ?_
  intro p e s m below meth c ls args A Q hx hb hml hown hlocks hin hnt hT hK hZ hA hret hexc hthr hI hl
  obtain ⟨H, hH⟩ : ∃ H, H = s.heap := ⟨_, rfl⟩
  rw [← hH] at hI ⊢
  obtain ⟨locs, hlocs⟩ : ∃ z : List Loc, z = [] := ⟨_, rfl⟩
  rw [← hlocs] at hI ⊢
  have hl : lv_has ls 5 [(0, .ref a0), (1, .int p1), (2, .int p2)] := hl
  unfold f_M_join at h
  refine lv_aload_n hx hb d_M_join_0 rfl (lv_at hl 0 rfl) ?_
  refine lv_aload_n hx hb d_M_join_1 rfl (lv_at hl 0 rfl) ?_
  refine lv_iload_n hx hb d_M_join_2 rfl (lv_at hl 1 rfl) ?_
  obtain ⟨q3, e4, h⟩ := gb h
  obtain ⟨u1, e2⟩ := gsome h
  refine gw_callI e2 h (gw_runV (As := [.int p1]) (rest := [.ref a0]) hx hb hml hown hT hK hZ hA hI (ci := 7) rfl e4 (m_M_isBody l hst D g0 a0 p1 w u1 e2) ce_M_isBody wd_894 wd_17 ⟨by decide, by decide⟩ rfl rfl hl.1 rfl (lv_room (Nat.le_of_ble_eq_true rfl)) d_M_join_3 ⟨(show 0 + 0 ≤ 0 by omega), (show 0 + 0 ≤ 0 by omega)⟩) hI hA hexc (show 0 + 0 ≤ 0 by omega) (show 0 + 0 ≤ 0 by omega) (fun v5 w H locs h hI => ?_)
  obtain ⟨K22, eK22, h⟩ := gj h
  have hK22 : ∀ (y6 : Int32) (w : gW) (H : Heap) (locs : List Loc) (ls : Array Slot), K22 y6 w = some r → gI D s A w H locs → lv_has ls 5 [(0, .ref a0), (1, .int p1), (2, .int p2)] → W p l e rm_M_join s m args below meth c H locs 0 0 Q (F0 m 22 ls [.int y6, .ref a0]) := by
    intro y6 w H locs ls h hI hl
    have h := gk2 eK22 h
    obtain ⟨w, e7, h⟩ := gb h
    refine gw_put hx hb hT hown hK hI (ci := 7) rfl i_7 t_7 t_7_ok n_7 0 (by decide) wd_786 (fun _ h9 => h9) rfl (ty := .int) (by decide +kernel) rfl rfl e7 d_M_join_22 (fun H locs hI => ?_)
    refine lv_aload_n hx hb d_M_join_25 rfl (lv_at hl 0 rfl) ?_
    obtain ⟨v8, e9, h⟩ := gb h
    refine gw_getI hx hb hT hown hK hI (ci := 7) rfl i_7 0 (by decide) wd_786 (fun _ h9 => h9) e9 d_M_join_26 ?_
    refine lv_if_eq (tgt := 34) hx hb d_M_join_29 (by decide) (fun c10 => ?_) (fun c10 => ?_)
    · skip
      have h := git c10 h
      refine lv_aload_n hx hb d_M_join_34 rfl (lv_at hl 0 rfl) ?_
      obtain ⟨v11, e12, h⟩ := gb h
      refine gw_getI hx hb hT hown hK hI (ci := 7) rfl i_7 2 (by decide) wd_788 (fun _ h9 => h9) e12 d_M_join_35 ?_
      refine lv_bipush (v := 30) hx hb d_M_join_38 (by decide) ?_
      obtain ⟨K61, eK61, h⟩ := gj h
      have hK61 : ∀ (w : gW) (H : Heap) (locs : List Loc) (ls : Array Slot), K61 w = some r → gI D s A w H locs → lv_has ls 5 [] → W p l e rm_M_join s m args below meth c H locs 0 0 Q (F0 m 61 ls []) := by
        intro w H locs ls h hI hl
        have h := gk1 eK61 h
        refine lv_iconst (v := -1) hx hb d_M_join_61 (by decide) ?_
        exact W.widen (show 0 ≤ 0 by omega) (show 0 ≤ 0 by omega) (hret _ _ (Option.some.inj h).symm _ _ _ _ d_M_join_62 hI)
      refine lv_icmp_eq (tgt := 61) hx hb d_M_join_40 (by decide) (fun c13 => ?_) (fun c13 => ?_)
      · skip
        have h := git c13 h
        exact hK61 w H locs ls h hI (lv_sub hl [] rfl)
      · skip
        have h := gie c13 h
        refine lv_aload_n hx hb d_M_join_43 rfl (lv_at hl 0 rfl) ?_
        obtain ⟨v14, e15, h⟩ := gb h
        refine gw_getA hx hb hT hown hK hI (ci := 7) rfl i_7 3 (by decide) wd_789 (fun _ h9 => h9) e15 d_M_join_44 ?_
        refine lv_iload_n hx hb d_M_join_47 rfl (lv_at hl 1 rfl) ?_
        obtain ⟨v16, e17, h⟩ := gb h
        refine gw_aldI hx hb hK hI e17 d_M_join_48 ?_
        refine lv_aload_n hx hb d_M_join_49 rfl (lv_at hl 0 rfl) ?_
        obtain ⟨v18, e19, h⟩ := gb h
        refine gw_getA hx hb hT hown hK hI (ci := 7) rfl i_7 3 (by decide) wd_789 (fun _ h9 => h9) e19 d_M_join_50 ?_
        refine lv_iload_n hx hb d_M_join_53 rfl (lv_at hl 2 rfl) ?_
        obtain ⟨v20, e21, h⟩ := gb h
        refine gw_aldI hx hb hK hI e21 d_M_join_54 ?_
        refine lv_iadd hx hb d_M_join_55 ?_
        refine lv_bipush (v := 12) hx hb d_M_join_56 (by decide) ?_
        refine lv_icmp_le (tgt := 63) hx hb d_M_join_58 (by decide) (fun c22 => ?_) (fun c22 => ?_)
        · skip
          have h := git c22 h
          refine lv_bipush (v := 12) hx hb d_M_join_63 (by decide) ?_
          refine lv_aload_n hx hb d_M_join_65 rfl (lv_at hl 0 rfl) ?_
          obtain ⟨v23, e24, h⟩ := gb h
          refine gw_getI hx hb hT hown hK hI (ci := 7) rfl i_7 2 (by decide) wd_788 (fun _ h9 => h9) e24 d_M_join_66 ?_
          refine lv_imul hx hb d_M_join_69 ?_
          refine lv_istore_n (lv' := [(3, .int (12 * v23)), (0, .ref a0), (1, .int p1), (2, .int p2)]) hx hb d_M_join_70 rfl hl (by decide) rfl (fun ls hl => ?_)
          refine lv_iconst (v := 0) hx hb d_M_join_71 (by decide) ?_
          refine lv_istore (lv' := [(4, .int 0), (3, .int (12 * v23)), (0, .ref a0), (1, .int p1), (2, .int p2)]) hx hb d_M_join_72 hl (by decide) rfl (fun ls hl => ?_)
          obtain ⟨K106, eK106, h⟩ := gj h
          have hK106 : ∀ (w : gW) (H : Heap) (locs : List Loc) (ls : Array Slot), K106 w = some r → gI D s A w H locs → lv_has ls 5 [(0, .ref a0), (1, .int p1), (2, .int p2), (3, .int (12 * v23))] → W p l e rm_M_join s m args below meth c H locs 0 0 Q (F0 m 106 ls []) := by
            intro w H locs ls h hI hl
            have h := gk1 eK106 h
            refine lv_iconst (v := 0) hx hb d_M_join_106 (by decide) ?_
            refine lv_istore (lv' := [(4, .int 0), (0, .ref a0), (1, .int p1), (2, .int p2), (3, .int (12 * v23))]) hx hb d_M_join_107 hl (by decide) rfl (fun ls hl => ?_)
            obtain ⟨K148, eK148, h⟩ := gj h
            have hK148 : ∀ (w : gW) (H : Heap) (locs : List Loc) (ls : Array Slot), K148 w = some r → gI D s A w H locs → lv_has ls 5 [(0, .ref a0), (1, .int p1), (2, .int p2)] → W p l e rm_M_join s m args below meth c H locs 0 0 Q (F0 m 148 ls []) := by
              intro w H locs ls h hI hl
              have h := gk1 eK148 h
              refine lv_aload_n hx hb d_M_join_148 rfl (lv_at hl 0 rfl) ?_
              obtain ⟨v25, e26, h⟩ := gb h
              refine gw_getA hx hb hT hown hK hI (ci := 7) rfl i_7 3 (by decide) wd_789 (fun _ h9 => h9) e26 d_M_join_149 ?_
              refine lv_aload_n hx hb d_M_join_152 rfl (lv_at hl 0 rfl) ?_
              obtain ⟨v27, e28, h⟩ := gb h
              refine gw_getI hx hb hT hown hK hI (ci := 7) rfl i_7 2 (by decide) wd_788 (fun _ h9 => h9) e28 d_M_join_153 ?_
              refine lv_aload_n hx hb d_M_join_156 rfl (lv_at hl 0 rfl) ?_
              obtain ⟨v29, e30, h⟩ := gb h
              refine gw_getA hx hb hT hown hK hI (ci := 7) rfl i_7 3 (by decide) wd_789 (fun _ h9 => h9) e30 d_M_join_157 ?_
              refine lv_iload_n hx hb d_M_join_160 rfl (lv_at hl 1 rfl) ?_
              obtain ⟨v31, e32, h⟩ := gb h
              refine gw_aldI hx hb hK hI e32 d_M_join_161 ?_
              refine lv_aload_n hx hb d_M_join_162 rfl (lv_at hl 0 rfl) ?_
              obtain ⟨v33, e34, h⟩ := gb h
              refine gw_getA hx hb hT hown hK hI (ci := 7) rfl i_7 3 (by decide) wd_789 (fun _ h9 => h9) e34 d_M_join_163 ?_
              refine lv_iload_n hx hb d_M_join_166 rfl (lv_at hl 2 rfl) ?_
              obtain ⟨v35, e36, h⟩ := gb h
              refine gw_aldI hx hb hK hI e36 d_M_join_167 ?_
              refine lv_iadd hx hb d_M_join_168 ?_
              obtain ⟨w, e37, h⟩ := gb h
              refine gw_astI hx hb hK hI e37 d_M_join_169 (fun H locs hI => ?_)
              refine lv_aload_n hx hb d_M_join_170 rfl (lv_at hl 0 rfl) ?_
              refine lv_dup hx hb d_M_join_171 rfl ?_
              obtain ⟨v38, e39, h⟩ := gb h
              refine gw_getI hx hb hT hown hK hI (ci := 7) rfl i_7 2 (by decide) wd_788 (fun _ h9 => h9) e39 d_M_join_172 ?_
              refine lv_iconst (v := 1) hx hb d_M_join_175 (by decide) ?_
              refine lv_iadd hx hb d_M_join_176 ?_
              obtain ⟨w, e40, h⟩ := gb h
              refine gw_put hx hb hT hown hK hI (ci := 7) rfl i_7 t_7 t_7_ok n_7 2 (by decide) wd_788 (fun _ h9 => h9) rfl (ty := .int) (by decide +kernel) rfl rfl e40 d_M_join_177 (fun H locs hI => ?_)
              refine lv_aload_n hx hb d_M_join_180 rfl (lv_at hl 0 rfl) ?_
              obtain ⟨v41, e42, h⟩ := gb h
              refine gw_getI hx hb hT hown hK hI (ci := 7) rfl i_7 2 (by decide) wd_788 (fun _ h9 => h9) e42 d_M_join_181 ?_
              refine lv_iconst (v := 1) hx hb d_M_join_184 (by decide) ?_
              refine lv_isub hx hb d_M_join_185 ?_
              exact W.widen (show 0 ≤ 0 by omega) (show 0 ≤ 0 by omega) (hret _ _ (Option.some.inj h).symm _ _ _ _ d_M_join_186 hI)
            have hL109 : ∀ (n : Nat), ∀ (z43 : Int32) (w : gW) (H : Heap) (locs : List Loc) (ls : Array Slot), f_M_join_L109 g0 a0 p1 p2 (12 * v23) K148 n z43 w = some r → gI D s A w H locs → lv_has ls 5 [(0, .ref a0), (1, .int p1), (2, .int p2), (3, .int (12 * v23)), (4, .int z43)] → W p l e rm_M_join s m args below meth c H locs 0 0 Q (F0 m 109 ls []) := by
              intro n
              induction n with
              | zero => intro z43 w H locs ls h hI hl; exact absurd h (by simp [f_M_join_L109])
              | succ n ih =>
                intro z43 w H locs ls h hI hl
                rw [f_M_join_L109] at h
                refine lv_iload hx hb d_M_join_109 (lv_at hl 4 rfl) ?_
                refine lv_aload_n hx hb d_M_join_111 rfl (lv_at hl 0 rfl) ?_
                obtain ⟨v44, e45, h⟩ := gb h
                refine gw_getA hx hb hT hown hK hI (ci := 7) rfl i_7 3 (by decide) wd_789 (fun _ h9 => h9) e45 d_M_join_112 ?_
                refine lv_iload_n hx hb d_M_join_115 rfl (lv_at hl 2 rfl) ?_
                obtain ⟨v46, e47, h⟩ := gb h
                refine gw_aldI hx hb hK hI e47 d_M_join_116 ?_
                refine lv_icmp_ge (tgt := 148) hx hb d_M_join_117 (by decide) (fun c48 => ?_) (fun c48 => ?_)
                · skip
                  have h := git c48 h
                  exact hK148 w H locs ls h hI (lv_sub hl [0, 1, 2] rfl)
                · skip
                  have h := gie c48 h
                  refine lv_aload_n hx hb d_M_join_120 rfl (lv_at hl 0 rfl) ?_
                  refine lv_bipush (v := 12) hx hb d_M_join_121 (by decide) ?_
                  refine lv_iload_n hx hb d_M_join_123 rfl (lv_at hl 2 rfl) ?_
                  refine lv_imul hx hb d_M_join_124 ?_
                  refine lv_iload hx hb d_M_join_125 (lv_at hl 4 rfl) ?_
                  refine lv_iadd hx hb d_M_join_127 ?_
                  refine lv_iload_n hx hb d_M_join_128 rfl (lv_at hl 3 rfl) ?_
                  refine lv_aload_n hx hb d_M_join_129 rfl (lv_at hl 0 rfl) ?_
                  obtain ⟨v49, e50, h⟩ := gb h
                  refine gw_getA hx hb hT hown hK hI (ci := 7) rfl i_7 3 (by decide) wd_789 (fun _ h9 => h9) e50 d_M_join_130 ?_
                  refine lv_iload_n hx hb d_M_join_133 rfl (lv_at hl 1 rfl) ?_
                  obtain ⟨v51, e52, h⟩ := gb h
                  refine gw_aldI hx hb hK hI e52 d_M_join_134 ?_
                  refine lv_iadd hx hb d_M_join_135 ?_
                  refine lv_iload hx hb d_M_join_136 (lv_at hl 4 rfl) ?_
                  refine lv_iadd hx hb d_M_join_138 ?_
                  obtain ⟨q55, e56, h⟩ := gb h
                  obtain ⟨u53, e54⟩ := gsome h
                  refine gw_callV e54 h (gw_runV (As := [.int ((12 * p2) + z43), .int (((12 * v23) + v51) + z43)]) (rest := []) hx hb hml hown hT hK hZ hA hI (ci := 7) rfl e56 (m_M_copy l hst D g0 a0 ((12 * p2) + z43) (((12 * v23) + v51) + z43) w u53 e54) ce_M_copy wd_936 wd_21 ⟨by decide, by decide⟩ rfl rfl hl.1 rfl (lv_room (Nat.le_of_ble_eq_true rfl)) d_M_join_139 ⟨(show 0 + 0 ≤ 0 by omega), (show 0 + 0 ≤ 0 by omega)⟩) hI hA hexc (show 0 + 0 ≤ 0 by omega) (show 0 + 0 ≤ 0 by omega) (fun v57 w H locs h hI => ?_)
                  refine lv_iinc (v := z43 + 1) (lv' := [(4, .int (z43 + 1)), (0, .ref a0), (1, .int p1), (2, .int p2), (3, .int (12 * v23))]) hx hb d_M_join_142 hl (k := 4) rfl rfl (by decide) rfl (fun ls hl => ?_)
                  refine lv_goto (tgt := 109) hx hb d_M_join_145 (by decide) ?_
                  exact ih _ w H locs ls h hI (lv_sub hl [1, 2, 3, 4, 0] rfl)
            exact hL109 64 _ w H locs ls h hI (lv_sub hl [1, 2, 3, 4, 0] rfl)
          have hL74 : ∀ (n : Nat), ∀ (z58 : Int32) (w : gW) (H : Heap) (locs : List Loc) (ls : Array Slot), f_M_join_L74 g0 a0 p1 p2 (12 * v23) K106 n z58 w = some r → gI D s A w H locs → lv_has ls 5 [(0, .ref a0), (1, .int p1), (2, .int p2), (3, .int (12 * v23)), (4, .int z58)] → W p l e rm_M_join s m args below meth c H locs 0 0 Q (F0 m 74 ls []) := by
            intro n
            induction n with
            | zero => intro z58 w H locs ls h hI hl; exact absurd h (by simp [f_M_join_L74])
            | succ n ih =>
              intro z58 w H locs ls h hI hl
              rw [f_M_join_L74] at h
              refine lv_iload hx hb d_M_join_74 (lv_at hl 4 rfl) ?_
              refine lv_aload_n hx hb d_M_join_76 rfl (lv_at hl 0 rfl) ?_
              obtain ⟨v59, e60, h⟩ := gb h
              refine gw_getA hx hb hT hown hK hI (ci := 7) rfl i_7 3 (by decide) wd_789 (fun _ h9 => h9) e60 d_M_join_77 ?_
              refine lv_iload_n hx hb d_M_join_80 rfl (lv_at hl 1 rfl) ?_
              obtain ⟨v61, e62, h⟩ := gb h
              refine gw_aldI hx hb hK hI e62 d_M_join_81 ?_
              refine lv_icmp_ge (tgt := 106) hx hb d_M_join_82 (by decide) (fun c63 => ?_) (fun c63 => ?_)
              · skip
                have h := git c63 h
                exact hK106 w H locs ls h hI (lv_sub hl [0, 1, 2, 3] rfl)
              · skip
                have h := gie c63 h
                refine lv_aload_n hx hb d_M_join_85 rfl (lv_at hl 0 rfl) ?_
                refine lv_bipush (v := 12) hx hb d_M_join_86 (by decide) ?_
                refine lv_iload_n hx hb d_M_join_88 rfl (lv_at hl 1 rfl) ?_
                refine lv_imul hx hb d_M_join_89 ?_
                refine lv_iload hx hb d_M_join_90 (lv_at hl 4 rfl) ?_
                refine lv_iadd hx hb d_M_join_92 ?_
                refine lv_iload_n hx hb d_M_join_93 rfl (lv_at hl 3 rfl) ?_
                refine lv_iload hx hb d_M_join_94 (lv_at hl 4 rfl) ?_
                refine lv_iadd hx hb d_M_join_96 ?_
                obtain ⟨q66, e67, h⟩ := gb h
                obtain ⟨u64, e65⟩ := gsome h
                refine gw_callV e65 h (gw_runV (As := [.int ((12 * p1) + z58), .int ((12 * v23) + z58)]) (rest := []) hx hb hml hown hT hK hZ hA hI (ci := 7) rfl e67 (m_M_copy l hst D g0 a0 ((12 * p1) + z58) ((12 * v23) + z58) w u64 e65) ce_M_copy wd_936 wd_21 ⟨by decide, by decide⟩ rfl rfl hl.1 rfl (lv_room (Nat.le_of_ble_eq_true rfl)) d_M_join_97 ⟨(show 0 + 0 ≤ 0 by omega), (show 0 + 0 ≤ 0 by omega)⟩) hI hA hexc (show 0 + 0 ≤ 0 by omega) (show 0 + 0 ≤ 0 by omega) (fun v68 w H locs h hI => ?_)
                refine lv_iinc (v := z58 + 1) (lv' := [(4, .int (z58 + 1)), (0, .ref a0), (1, .int p1), (2, .int p2), (3, .int (12 * v23))]) hx hb d_M_join_100 hl (k := 4) rfl rfl (by decide) rfl (fun ls hl => ?_)
                refine lv_goto (tgt := 74) hx hb d_M_join_103 (by decide) ?_
                exact ih _ w H locs ls h hI (lv_sub hl [1, 2, 3, 4, 0] rfl)
          exact hL74 64 _ w H locs ls h hI (lv_sub hl [2, 3, 4, 1, 0] rfl)
        · skip
          have h := gie c22 h
          exact hK61 w H locs ls h hI (lv_sub hl [] rfl)
    · skip
      have h := gie c10 h
      refine lv_iconst (v := 0) hx hb d_M_join_32 (by decide) ?_
      exact W.widen (show 0 ≤ 0 by omega) (show 0 ≤ 0 by omega) (hret _ _ (Option.some.inj h).symm _ _ _ _ d_M_join_33 hI)
  obtain ⟨K21, eK21, h⟩ := gj h
  have hK21 : ∀ (w : gW) (H : Heap) (locs : List Loc) (ls : Array Slot), K21 w = some r → gI D s A w H locs → lv_has ls 5 [(0, .ref a0), (1, .int p1), (2, .int p2)] → W p l e rm_M_join s m args below meth c H locs 0 0 Q (F0 m 21 ls [.ref a0]) := by
    intro w H locs ls h hI hl
    have h := gk1 eK21 h
    refine lv_iconst (v := 1) hx hb d_M_join_21 (by decide) ?_
    exact hK22 _ w H locs ls h hI (lv_sub hl [0, 1, 2] rfl)
  refine lv_if_eq (tgt := 21) hx hb d_M_join_6 (by decide) (fun c69 => ?_) (fun c69 => ?_)
  · skip
    have h := git c69 h
    exact hK21 w H locs ls h hI (lv_sub hl [0, 1, 2] rfl)
  · skip
    have h := gie c69 h
    refine lv_aload_n hx hb d_M_join_9 rfl (lv_at hl 0 rfl) ?_
    refine lv_iload_n hx hb d_M_join_10 rfl (lv_at hl 2 rfl) ?_
    obtain ⟨q72, e73, h⟩ := gb h
    obtain ⟨u70, e71⟩ := gsome h
    refine gw_callI e71 h (gw_runV (As := [.int p2]) (rest := [.ref a0]) hx hb hml hown hT hK hZ hA hI (ci := 7) rfl e73 (m_M_isBody l hst D g0 a0 p2 w u70 e71) ce_M_isBody wd_894 wd_17 ⟨by decide, by decide⟩ rfl rfl hl.1 rfl (lv_room (Nat.le_of_ble_eq_true rfl)) d_M_join_11 ⟨(show 0 + 0 ≤ 0 by omega), (show 0 + 0 ≤ 0 by omega)⟩) hI hA hexc (show 0 + 0 ≤ 0 by omega) (show 0 + 0 ≤ 0 by omega) (fun v74 w H locs h hI => ?_)
    refine lv_if_eq (tgt := 21) hx hb d_M_join_14 (by decide) (fun c75 => ?_) (fun c75 => ?_)
    · skip
      have h := git c75 h
      exact hK21 w H locs ls h hI (lv_sub hl [0, 1, 2] rfl)
    · skip
      have h := gie c75 h
      refine lv_iconst (v := 0) hx hb d_M_join_17 (by decide) ?_
      refine lv_goto (tgt := 22) hx hb d_M_join_18 (by decide) ?_
      exact hK22 _ w H locs ls h hI (lv_sub hl [0, 1, 2] rfl)

abbrev b_B_needPosition : ByteArray := prog_1_method_24_code
def y_B_needPosition : MethodName := ⟨"BodySolids", "needPosition", "(JJII)V"⟩
theorem d_B_needPosition_0 : decode b_B_needPosition 0 = .ok (.lload_n 0, 1) := by decide +kernel
theorem d_B_needPosition_1 : decode b_B_needPosition 1 = .ok (.ldc2_w 144, 3) := by decide +kernel
theorem d_B_needPosition_4 : decode b_B_needPosition 4 = .ok (.ldc2_w 146, 3) := by decide +kernel
theorem d_B_needPosition_7 : decode b_B_needPosition 7 = .ok (.invokestatic 138, 3) := by decide +kernel
theorem d_B_needPosition_10 : decode b_B_needPosition 10 = .ok (.lload_n 2, 1) := by decide +kernel
theorem d_B_needPosition_11 : decode b_B_needPosition 11 = .ok (.ldc2_w 144, 3) := by decide +kernel
theorem d_B_needPosition_14 : decode b_B_needPosition 14 = .ok (.ldc2_w 146, 3) := by decide +kernel
theorem d_B_needPosition_17 : decode b_B_needPosition 17 = .ok (.invokestatic 138, 3) := by decide +kernel
theorem d_B_needPosition_20 : decode b_B_needPosition 20 = .ok (.iload 4, 2) := by decide +kernel
theorem d_B_needPosition_22 : decode b_B_needPosition 22 = .ok (.i2l, 1) := by decide +kernel
theorem d_B_needPosition_23 : decode b_B_needPosition 23 = .ok (.lconst 0, 1) := by decide +kernel
theorem d_B_needPosition_24 : decode b_B_needPosition 24 = .ok (.ldc2_w 259, 3) := by decide +kernel
theorem d_B_needPosition_27 : decode b_B_needPosition 27 = .ok (.invokestatic 138, 3) := by decide +kernel
theorem d_B_needPosition_30 : decode b_B_needPosition 30 = .ok (.iload 5, 2) := by decide +kernel
theorem d_B_needPosition_32 : decode b_B_needPosition 32 = .ok (.i2l, 1) := by decide +kernel
theorem d_B_needPosition_33 : decode b_B_needPosition 33 = .ok (.lconst 0, 1) := by decide +kernel
theorem d_B_needPosition_34 : decode b_B_needPosition 34 = .ok (.lconst 1, 1) := by decide +kernel
theorem d_B_needPosition_35 : decode b_B_needPosition 35 = .ok (.invokestatic 138, 3) := by decide +kernel
theorem d_B_needPosition_38 : decode b_B_needPosition 38 = .ok (.return_, 1) := by decide +kernel
abbrev rm_B_needPosition : Room := { frames := 8, cells := 4, slots := 24, locals := 115 }
theorem ce_B_needPosition : gCe y_B_needPosition (.code y_B_needPosition b_B_needPosition 6 none) 6 4 true := gCe.code wd_644 wd_49 wd_643 (by decide) (by decide +kernel)
def f_B_needPosition (g0 : gG) (p0 : Int64) (p1 : Int64) (p2 : Int32) (p3 : Int32) (w : gW) : gX Unit := gbind (f_B_needWithin g0 p0 (-10000) 10000 w) fun v3 w => gbind (f_B_needWithin g0 p1 (-10000) 10000 w) fun v6 w => gbind (f_B_needWithin g0 (p2.toInt64) 0 3 w) fun v9 w => gbind (f_B_needWithin g0 (p3.toInt64) 0 1 w) fun v12 w => some (.inr (), w)
set_option maxHeartbeats 4000000 in
set_option maxRecDepth 100000 in
theorem m_B_needPosition (l : Launch) (hst : l.stackTraces = false) (D : gD) (g0 : gG) (p0 : Int64) (p1 : Int64) (p2 : Int32) (p3 : Int32) (w : gW) (r : (String ⊕ Unit) × gW) (h : f_B_needPosition g0 p0 p1 p2 p3 w = some r) : gMet l y_B_needPosition (.code y_B_needPosition b_B_needPosition 6 none) rm_B_needPosition D g0 [.long p0, .long p1, .int p2, .int p3] w (goV r) := by
  refine gw_ofV (by decide +kernel) (Nat.le_of_ble_eq_true rfl) ?_
  intro p e s m below meth c ls args A Q hx hb hml hown hlocks hin hnt hT hK hZ hA hret hexc hthr hI hl
  obtain ⟨H, hH⟩ : ∃ H, H = s.heap := ⟨_, rfl⟩
  rw [← hH] at hI ⊢
  obtain ⟨locs, hlocs⟩ : ∃ z : List Loc, z = [] := ⟨_, rfl⟩
  rw [← hlocs] at hI ⊢
  have hl : lv_has ls 6 [(0, .long p0), (2, .long p1), (4, .int p2), (5, .int p3)] := hl
  unfold f_B_needPosition at h
  refine lv_lload_n hx hb d_B_needPosition_0 rfl (lv_at hl 0 rfl) ?_
  refine lv_ldc2 (v := (-10000)) hx hb hown (hT _ wd_617 args) d_B_needPosition_1 ?_
  refine lv_ldc2 (v := 10000) hx hb hown (hT _ wd_618 args) d_B_needPosition_4 ?_
  obtain ⟨u1, e2⟩ := gsome h
  refine gw_callV e2 h (gw_runS (As := [.long p0, .long (-10000), .long 10000]) (rest := []) hx hb hml hown hT hK hZ hA hI (m_B_needWithin l hst D g0 p0 (-10000) 10000 w u1 e2) ce_B_needWithin wd_516 ⟨by decide, by decide⟩ rfl rfl hl.1 rfl (lv_room (Nat.le_of_ble_eq_true rfl)) d_B_needPosition_7 ⟨(show 0 + 1 ≤ 4 by omega), (show 0 + 6 ≤ 24 by omega)⟩) hI hA hexc (show 0 + 1 ≤ 4 by omega) (show 0 + 6 ≤ 24 by omega) (fun v3 w H locs h hI => ?_)
  refine W.widen (k := 1) (n := 6) (show 0 + 1 ≤ 1 by omega) (show 0 + 6 ≤ 6 by omega) ?_
  refine lv_lload_n hx hb d_B_needPosition_10 rfl (lv_at hl 1 rfl) ?_
  refine lv_ldc2 (v := (-10000)) hx hb hown (hT _ wd_617 args) d_B_needPosition_11 ?_
  refine lv_ldc2 (v := 10000) hx hb hown (hT _ wd_618 args) d_B_needPosition_14 ?_
  obtain ⟨u4, e5⟩ := gsome h
  refine gw_callV e5 h (gw_runS (As := [.long p1, .long (-10000), .long 10000]) (rest := []) hx hb hml hown hT hK hZ hA hI (m_B_needWithin l hst D g0 p1 (-10000) 10000 w u4 e5) ce_B_needWithin wd_516 ⟨by decide, by decide⟩ rfl rfl hl.1 rfl (lv_room (Nat.le_of_ble_eq_true rfl)) d_B_needPosition_17 ⟨(show 1 + 1 ≤ 4 by omega), (show 6 + 6 ≤ 24 by omega)⟩) hI hA hexc (show 1 + 1 ≤ 4 by omega) (show 6 + 6 ≤ 24 by omega) (fun v6 w H locs h hI => ?_)
  refine W.widen (k := 2) (n := 12) (show 1 + 1 ≤ 2 by omega) (show 6 + 6 ≤ 12 by omega) ?_
  refine lv_iload hx hb d_B_needPosition_20 (lv_at hl 2 rfl) ?_
  refine lv_i2l (v := p2.toInt64) hx hb d_B_needPosition_22 rfl ?_
  refine lv_lconst (v := 0) hx hb d_B_needPosition_23 (by decide) ?_
  refine lv_ldc2 (v := 3) hx hb hown (hT _ wd_645 args) d_B_needPosition_24 ?_
  obtain ⟨u7, e8⟩ := gsome h
  refine gw_callV e8 h (gw_runS (As := [.long (p2.toInt64), .long 0, .long 3]) (rest := []) hx hb hml hown hT hK hZ hA hI (m_B_needWithin l hst D g0 (p2.toInt64) 0 3 w u7 e8) ce_B_needWithin wd_516 ⟨by decide, by decide⟩ rfl rfl hl.1 rfl (lv_room (Nat.le_of_ble_eq_true rfl)) d_B_needPosition_27 ⟨(show 2 + 1 ≤ 4 by omega), (show 12 + 6 ≤ 24 by omega)⟩) hI hA hexc (show 2 + 1 ≤ 4 by omega) (show 12 + 6 ≤ 24 by omega) (fun v9 w H locs h hI => ?_)
  refine W.widen (k := 3) (n := 18) (show 2 + 1 ≤ 3 by omega) (show 12 + 6 ≤ 18 by omega) ?_
  refine lv_iload hx hb d_B_needPosition_30 (lv_at hl 3 rfl) ?_
  refine lv_i2l (v := p3.toInt64) hx hb d_B_needPosition_32 rfl ?_
  refine lv_lconst (v := 0) hx hb d_B_needPosition_33 (by decide) ?_
  refine lv_lconst (v := 1) hx hb d_B_needPosition_34 (by decide) ?_
  obtain ⟨u10, e11⟩ := gsome h
  refine gw_callV e11 h (gw_runS (As := [.long (p3.toInt64), .long 0, .long 1]) (rest := []) hx hb hml hown hT hK hZ hA hI (m_B_needWithin l hst D g0 (p3.toInt64) 0 1 w u10 e11) ce_B_needWithin wd_516 ⟨by decide, by decide⟩ rfl rfl hl.1 rfl (lv_room (Nat.le_of_ble_eq_true rfl)) d_B_needPosition_35 ⟨(show 3 + 1 ≤ 4 by omega), (show 18 + 6 ≤ 24 by omega)⟩) hI hA hexc (show 3 + 1 ≤ 4 by omega) (show 18 + 6 ≤ 24 by omega) (fun v12 w H locs h hI => ?_)
  refine W.widen (k := 4) (n := 24) (show 3 + 1 ≤ 4 by omega) (show 18 + 6 ≤ 24 by omega) ?_
  exact W.widen (show 4 ≤ 4 by omega) (show 24 ≤ 24 by omega) (hret _ _ (Option.some.inj h).symm _ _ _ _ d_B_needPosition_38 hI)

abbrev b_Pl_init : ByteArray := prog_6_method_1_code
def y_Pl_init : MethodName := ⟨"BodySolids$Placement", "<init>", "(LBodySolids$Body;)V"⟩
theorem d_Pl_init_0 : decode b_Pl_init 0 = .ok (.aload_n 0, 1) := by decide +kernel
theorem d_Pl_init_1 : decode b_Pl_init 1 = .ok (.invokespecial 1, 3) := by decide +kernel
theorem d_Pl_init_4 : decode b_Pl_init 4 = .ok (.aload_n 0, 1) := by decide +kernel
theorem d_Pl_init_5 : decode b_Pl_init 5 = .ok (.aload_n 1, 1) := by decide +kernel
theorem d_Pl_init_6 : decode b_Pl_init 6 = .ok (.putfield 7, 3) := by decide +kernel
theorem d_Pl_init_9 : decode b_Pl_init 9 = .ok (.return_, 1) := by decide +kernel
abbrev rm_Pl_init : Room := { frames := 1, cells := 0, slots := 0, locals := 22 }
theorem ce_Pl_init : gCe y_Pl_init (.code y_Pl_init b_Pl_init 2 none) 2 1 false := gCe.code wd_649 wd_68 wd_648 (by decide) (by decide +kernel)
def f_Pl_init (g0 : gG) (a0 : Nat) (a1 : Nat) (w : gW) : gX Unit := (gp w a0 5 0 (.ref a1)).bind fun w => some (.inr (), w)
set_option maxHeartbeats 4000000 in
set_option maxRecDepth 100000 in
theorem m_Pl_init (l : Launch) (hst : l.stackTraces = false) (D : gD) (g0 : gG) (a0 : Nat) (a1 : Nat) (w : gW) (r : (String ⊕ Unit) × gW) (h : f_Pl_init g0 a0 a1 w = some r) : gMet l y_Pl_init (.code y_Pl_init b_Pl_init 2 none) rm_Pl_init D g0 [.ref a0, .ref a1] w (goV r) := by
  refine gw_ofV (by decide +kernel) (Nat.le_of_ble_eq_true rfl) ?_
  intro p e s m below meth c ls args A Q hx hb hml hown hlocks hin hnt hT hK hZ hA hret hexc hthr hI hl
  obtain ⟨H, hH⟩ : ∃ H, H = s.heap := ⟨_, rfl⟩
  rw [← hH] at hI ⊢
  obtain ⟨locs, hlocs⟩ : ∃ z : List Loc, z = [] := ⟨_, rfl⟩
  rw [← hlocs] at hI ⊢
  have hl : lv_has ls 2 [(0, .ref a0), (1, .ref a1)] := hl
  unfold f_Pl_init at h
  refine lv_aload_n hx hb d_Pl_init_0 rfl (lv_at hl 0 rfl) ?_
  refine W.objInit hx hb hown (hT _ wd_650 args) (hT _ wd_78 args) (hT _ wd_79 args) rfl (by rw [hml]; exact hl.1) rfl d_Pl_init_1 (Nat.le_of_ble_eq_true rfl) (Nat.le_of_ble_eq_true rfl) ?_
  refine W.eq (g2 := F0 m 4 ls []) rfl ?_
  refine lv_aload_n hx hb d_Pl_init_4 rfl (lv_at hl 0 rfl) ?_
  refine lv_aload_n hx hb d_Pl_init_5 rfl (lv_at hl 1 rfl) ?_
  obtain ⟨w, e1, h⟩ := gb h
  refine gw_putF hx hb hT hown hK hI (ci := 5) rfl i_5 t_5 t_5_ok n_5 0 (by decide) wd_651 (fun _ h9 => h9) rfl hin rfl (ty := .object "BodySolids$Body") (by decide +kernel) rfl rfl e1 d_Pl_init_6 (fun H locs hI => ?_)
  exact W.widen (show 0 ≤ 0 by omega) (show 0 ≤ 0 by omega) (hret _ _ (Option.some.inj h).symm _ _ _ _ d_Pl_init_9 hI)

abbrev b_Pl_goTo : ByteArray := prog_6_method_3_code
def y_Pl_goTo : MethodName := ⟨"BodySolids$Placement", "goTo", "(JJII)V"⟩
theorem d_Pl_goTo_0 : decode b_Pl_goTo 0 = .ok (.aload_n 0, 1) := by decide +kernel
theorem d_Pl_goTo_1 : decode b_Pl_goTo 1 = .ok (.lload_n 1, 1) := by decide +kernel
theorem d_Pl_goTo_2 : decode b_Pl_goTo 2 = .ok (.putfield 13, 3) := by decide +kernel
theorem d_Pl_goTo_5 : decode b_Pl_goTo 5 = .ok (.aload_n 0, 1) := by decide +kernel
theorem d_Pl_goTo_6 : decode b_Pl_goTo 6 = .ok (.lload_n 3, 1) := by decide +kernel
theorem d_Pl_goTo_7 : decode b_Pl_goTo 7 = .ok (.putfield 17, 3) := by decide +kernel
theorem d_Pl_goTo_10 : decode b_Pl_goTo 10 = .ok (.aload_n 0, 1) := by decide +kernel
theorem d_Pl_goTo_11 : decode b_Pl_goTo 11 = .ok (.iload 5, 2) := by decide +kernel
theorem d_Pl_goTo_13 : decode b_Pl_goTo 13 = .ok (.putfield 20, 3) := by decide +kernel
theorem d_Pl_goTo_16 : decode b_Pl_goTo 16 = .ok (.aload_n 0, 1) := by decide +kernel
theorem d_Pl_goTo_17 : decode b_Pl_goTo 17 = .ok (.iload 6, 2) := by decide +kernel
theorem d_Pl_goTo_19 : decode b_Pl_goTo 19 = .ok (.putfield 24, 3) := by decide +kernel
theorem d_Pl_goTo_22 : decode b_Pl_goTo 22 = .ok (.return_, 1) := by decide +kernel
abbrev rm_Pl_goTo : Room := { frames := 0, cells := 0, slots := 0, locals := 0 }
theorem ce_Pl_goTo : gCe y_Pl_goTo (.code y_Pl_goTo b_Pl_goTo 7 none) 7 4 false := gCe.code wd_674 wd_68 wd_672 (by decide) (by decide +kernel)
def f_Pl_goTo (g0 : gG) (a0 : Nat) (p1 : Int64) (p2 : Int64) (p3 : Int32) (p4 : Int32) (w : gW) : gX Unit := (gp w a0 5 1 (.long p1)).bind fun w => (gp w a0 5 2 (.long p2)).bind fun w => (gp w a0 5 3 (.int p3)).bind fun w => (gp w a0 5 4 (.int p4)).bind fun w => some (.inr (), w)
set_option maxHeartbeats 4000000 in
set_option maxRecDepth 100000 in
theorem m_Pl_goTo (l : Launch) (hst : l.stackTraces = false) (D : gD) (g0 : gG) (a0 : Nat) (p1 : Int64) (p2 : Int64) (p3 : Int32) (p4 : Int32) (w : gW) (r : (String ⊕ Unit) × gW) (h : f_Pl_goTo g0 a0 p1 p2 p3 p4 w = some r) : gMet l y_Pl_goTo (.code y_Pl_goTo b_Pl_goTo 7 none) rm_Pl_goTo D g0 [.ref a0, .long p1, .long p2, .int p3, .int p4] w (goV r) := by
  refine gw_ofV (by decide +kernel) (Nat.le_of_ble_eq_true rfl) ?_
  intro p e s m below meth c ls args A Q hx hb hml hown hlocks hin hnt hT hK hZ hA hret hexc hthr hI hl
  obtain ⟨H, hH⟩ : ∃ H, H = s.heap := ⟨_, rfl⟩
  rw [← hH] at hI ⊢
  obtain ⟨locs, hlocs⟩ : ∃ z : List Loc, z = [] := ⟨_, rfl⟩
  rw [← hlocs] at hI ⊢
  have hl : lv_has ls 7 [(0, .ref a0), (1, .long p1), (3, .long p2), (5, .int p3), (6, .int p4)] := hl
  unfold f_Pl_goTo at h
  refine lv_aload_n hx hb d_Pl_goTo_0 rfl (lv_at hl 0 rfl) ?_
  refine lv_lload_n hx hb d_Pl_goTo_1 rfl (lv_at hl 1 rfl) ?_
  obtain ⟨w, e1, h⟩ := gb h
  refine gw_put hx hb hT hown hK hI (ci := 5) rfl i_5 t_5 t_5_ok n_5 1 (by decide) wd_654 (fun _ h9 => h9) rfl (ty := .long) (by decide +kernel) rfl rfl e1 d_Pl_goTo_2 (fun H locs hI => ?_)
  refine lv_aload_n hx hb d_Pl_goTo_5 rfl (lv_at hl 0 rfl) ?_
  refine lv_lload_n hx hb d_Pl_goTo_6 rfl (lv_at hl 2 rfl) ?_
  obtain ⟨w, e2, h⟩ := gb h
  refine gw_put hx hb hT hown hK hI (ci := 5) rfl i_5 t_5 t_5_ok n_5 2 (by decide) wd_655 (fun _ h9 => h9) rfl (ty := .long) (by decide +kernel) rfl rfl e2 d_Pl_goTo_7 (fun H locs hI => ?_)
  refine lv_aload_n hx hb d_Pl_goTo_10 rfl (lv_at hl 0 rfl) ?_
  refine lv_iload hx hb d_Pl_goTo_11 (lv_at hl 3 rfl) ?_
  obtain ⟨w, e3, h⟩ := gb h
  refine gw_put hx hb hT hown hK hI (ci := 5) rfl i_5 t_5 t_5_ok n_5 3 (by decide) wd_656 (fun _ h9 => h9) rfl (ty := .int) (by decide +kernel) rfl rfl e3 d_Pl_goTo_13 (fun H locs hI => ?_)
  refine lv_aload_n hx hb d_Pl_goTo_16 rfl (lv_at hl 0 rfl) ?_
  refine lv_iload hx hb d_Pl_goTo_17 (lv_at hl 4 rfl) ?_
  obtain ⟨w, e4, h⟩ := gb h
  refine gw_put hx hb hT hown hK hI (ci := 5) rfl i_5 t_5 t_5_ok n_5 4 (by decide) wd_657 (fun _ h9 => h9) rfl (ty := .int) (by decide +kernel) rfl rfl e4 d_Pl_goTo_19 (fun H locs hI => ?_)
  exact W.widen (show 0 ≤ 0 by omega) (show 0 ≤ 0 by omega) (hret _ _ (Option.some.inj h).symm _ _ _ _ d_Pl_goTo_22 hI)

abbrev b_B_place : ByteArray := prog_1_method_9_code
def y_B_place : MethodName := ⟨"BodySolids", "place", "(IJJII)I"⟩
theorem d_B_place_0 : decode b_B_place 0 = .ok (.aload_n 0, 1) := by decide +kernel
theorem d_B_place_1 : decode b_B_place 1 = .ok (.iload_n 1, 1) := by decide +kernel
theorem d_B_place_2 : decode b_B_place 2 = .ok (.invokevirtual 79, 3) := by decide +kernel
theorem d_B_place_5 : decode b_B_place 5 = .ok (.astore 8, 2) := by decide +kernel
theorem d_B_place_7 : decode b_B_place 7 = .ok (.lload_n 2, 1) := by decide +kernel
theorem d_B_place_8 : decode b_B_place 8 = .ok (.lload 4, 2) := by decide +kernel
theorem d_B_place_10 : decode b_B_place 10 = .ok (.iload 6, 2) := by decide +kernel
theorem d_B_place_12 : decode b_B_place 12 = .ok (.iload 7, 2) := by decide +kernel
theorem d_B_place_14 : decode b_B_place 14 = .ok (.invokestatic 160, 3) := by decide +kernel
theorem d_B_place_17 : decode b_B_place 17 = .ok (.aload_n 0, 1) := by decide +kernel
theorem d_B_place_18 : decode b_B_place 18 = .ok (.getfield 31, 3) := by decide +kernel
theorem d_B_place_21 : decode b_B_place 21 = .ok (.invokevirtual 68, 3) := by decide +kernel
theorem d_B_place_24 : decode b_B_place 24 = .ok (.istore 9, 2) := by decide +kernel
theorem d_B_place_26 : decode b_B_place 26 = .ok (.iload 9, 2) := by decide +kernel
theorem d_B_place_28 : decode b_B_place 28 = .ok (.bipush 30, 2) := by decide +kernel
theorem d_B_place_30 : decode b_B_place 30 = .ok (.if_icmp .lt 5, 3) := by decide +kernel
theorem d_B_place_33 : decode b_B_place 33 = .ok (.iconst (-1), 1) := by decide +kernel
theorem d_B_place_34 : decode b_B_place 34 = .ok (.ireturn, 1) := by decide +kernel
theorem d_B_place_35 : decode b_B_place 35 = .ok (.new 164, 3) := by decide +kernel
theorem d_B_place_38 : decode b_B_place 38 = .ok (.dup, 1) := by decide +kernel
theorem d_B_place_39 : decode b_B_place 39 = .ok (.aload 8, 2) := by decide +kernel
theorem d_B_place_41 : decode b_B_place 41 = .ok (.invokespecial 166, 3) := by decide +kernel
theorem d_B_place_44 : decode b_B_place 44 = .ok (.astore 10, 2) := by decide +kernel
theorem d_B_place_46 : decode b_B_place 46 = .ok (.aload 10, 2) := by decide +kernel
theorem d_B_place_48 : decode b_B_place 48 = .ok (.lload_n 2, 1) := by decide +kernel
theorem d_B_place_49 : decode b_B_place 49 = .ok (.lload 4, 2) := by decide +kernel
theorem d_B_place_51 : decode b_B_place 51 = .ok (.iload 6, 2) := by decide +kernel
theorem d_B_place_53 : decode b_B_place 53 = .ok (.iload 7, 2) := by decide +kernel
theorem d_B_place_55 : decode b_B_place 55 = .ok (.invokevirtual 168, 3) := by decide +kernel
theorem d_B_place_58 : decode b_B_place 58 = .ok (.aload_n 0, 1) := by decide +kernel
theorem d_B_place_59 : decode b_B_place 59 = .ok (.getfield 31, 3) := by decide +kernel
theorem d_B_place_62 : decode b_B_place 62 = .ok (.aload 10, 2) := by decide +kernel
theorem d_B_place_64 : decode b_B_place 64 = .ok (.invokevirtual 171, 3) := by decide +kernel
theorem d_B_place_67 : decode b_B_place 67 = .ok (.pop, 1) := by decide +kernel
theorem d_B_place_68 : decode b_B_place 68 = .ok (.iload 9, 2) := by decide +kernel
theorem d_B_place_70 : decode b_B_place 70 = .ok (.ireturn, 1) := by decide +kernel
abbrev rm_B_place : Room := { frames := 9, cells := 7, slots := 99, locals := 179 }
theorem ce_B_place : gCe y_B_place (.code y_B_place b_B_place 11 (some .int)) 11 5 false := gCe.code wd_641 wd_49 wd_639 (by decide) (by decide +kernel)
def f_B_place (g0 : gG) (a0 : Nat) (p1 : Int32) (p2 : Int64) (p3 : Int64) (p4 : Int32) (p5 : Int32) (w : gW) : gX Int32 := (gck w a0 0).bind fun _ => gbind (f_B_bodyAt g0 a0 p1 w) fun v5 w => gbind (f_B_needPosition g0 p2 p3 p4 p5 w) fun v8 w => (gfA w a0 0 2).bind fun v9 => (gck w v9 1).bind fun _ => gbind (f_AL_size g0 v9 w) fun v15 w => if v15 < 30 then (gb2f (gnw w 5 [.null, .long 0, .long 0, .int 0, .int 0]) fun o17 w => gbind (f_Pl_init g0 o17 v5 w) fun v21 w => (gck w o17 5).bind fun _ => gbind (f_Pl_goTo g0 o17 p2 p3 p4 p5 w) fun v26 w => (gfA w a0 0 2).bind fun v27 => (gck w v27 1).bind fun _ => gbind (f_AL_add g0 v27 o17 w) fun v33 w => some (.inr v15, w)) else (some (.inr (-1), w))
set_option maxHeartbeats 4000000 in
set_option maxRecDepth 100000 in
theorem m_B_place (l : Launch) (hst : l.stackTraces = false) (D : gD) (g0 : gG) (a0 : Nat) (p1 : Int32) (p2 : Int64) (p3 : Int64) (p4 : Int32) (p5 : Int32) (w : gW) (r : (String ⊕ Int32) × gW) (h : f_B_place g0 a0 p1 p2 p3 p4 p5 w = some r) : gMet l y_B_place (.code y_B_place b_B_place 11 (some .int)) rm_B_place D g0 [.ref a0, .int p1, .long p2, .long p3, .int p4, .int p5] w (goI r) := by
  refine gw_ofI (by decide +kernel) (Nat.le_of_ble_eq_true rfl) ?_
  intro p e s m below meth c ls args A Q hx hb hml hown hlocks hin hnt hT hK hZ hA hret hexc hthr hI hl
  obtain ⟨H, hH⟩ : ∃ H, H = s.heap := ⟨_, rfl⟩
  rw [← hH] at hI ⊢
  obtain ⟨locs, hlocs⟩ : ∃ z : List Loc, z = [] := ⟨_, rfl⟩
  rw [← hlocs] at hI ⊢
  have hl : lv_has ls 11 [(0, .ref a0), (1, .int p1), (2, .long p2), (4, .long p3), (6, .int p4), (7, .int p5)] := hl
  unfold f_B_place at h
  refine lv_aload_n hx hb d_B_place_0 rfl (lv_at hl 0 rfl) ?_
  refine lv_iload_n hx hb d_B_place_1 rfl (lv_at hl 1 rfl) ?_
  obtain ⟨q3, e4, h⟩ := gb h
  obtain ⟨u1, e2⟩ := gsome h
  refine gw_callA e2 h (gw_runV (As := [.int p1]) (rest := []) hx hb hml hown hT hK hZ hA hI (ci := 0) rfl e4 (m_B_bodyAt l hst D g0 a0 p1 w u1 e2) ce_B_bodyAt wd_436 wd_7 ⟨by decide, by decide⟩ rfl rfl hl.1 rfl (lv_room (Nat.le_of_ble_eq_true rfl)) d_B_place_2 ⟨(show 0 + 1 ≤ 7 by omega), (show 0 + 6 ≤ 99 by omega)⟩) hI hA hexc (show 0 + 1 ≤ 7 by omega) (show 0 + 6 ≤ 99 by omega) (fun v5 w H locs h hI => ?_)
  refine W.widen (k := 1) (n := 6) (show 0 + 1 ≤ 1 by omega) (show 0 + 6 ≤ 6 by omega) ?_
  refine lv_astore (lv' := [(8, .ref v5), (0, .ref a0), (1, .int p1), (2, .long p2), (4, .long p3), (6, .int p4), (7, .int p5)]) hx hb d_B_place_5 hl (by decide) rfl (fun ls hl => ?_)
  refine lv_lload_n hx hb d_B_place_7 rfl (lv_at hl 3 rfl) ?_
  refine lv_lload hx hb d_B_place_8 (lv_at hl 4 rfl) ?_
  refine lv_iload hx hb d_B_place_10 (lv_at hl 5 rfl) ?_
  refine lv_iload hx hb d_B_place_12 (lv_at hl 6 rfl) ?_
  obtain ⟨u6, e7⟩ := gsome h
  refine gw_callV e7 h (gw_runS (As := [.long p2, .long p3, .int p4, .int p5]) (rest := []) hx hb hml hown hT hK hZ hA hI (m_B_needPosition l hst D g0 p2 p3 p4 p5 w u6 e7) ce_B_needPosition wd_642 ⟨by decide, by decide⟩ rfl rfl hl.1 rfl (lv_room (Nat.le_of_ble_eq_true rfl)) d_B_place_14 ⟨(show 1 + 4 ≤ 7 by omega), (show 6 + 24 ≤ 99 by omega)⟩) hI hA hexc (show 1 + 4 ≤ 7 by omega) (show 6 + 24 ≤ 99 by omega) (fun v8 w H locs h hI => ?_)
  refine W.widen (k := 5) (n := 30) (show 1 + 4 ≤ 5 by omega) (show 6 + 24 ≤ 30 by omega) ?_
  refine lv_aload_n hx hb d_B_place_17 rfl (lv_at hl 1 rfl) ?_
  obtain ⟨v9, e10, h⟩ := gb h
  refine gw_getA hx hb hT hown hK hI (ci := 0) rfl i_0 2 (by decide) wd_191 (fun _ h9 => h9) e10 d_B_place_18 ?_
  obtain ⟨q13, e14, h⟩ := gb h
  obtain ⟨u11, e12⟩ := gsome h
  refine gw_callI e12 h (gw_runV (As := []) (rest := []) hx hb hml hown hT hK hZ hA hI (ci := 1) rfl e14 (m_AL_size l hst D g0 v9 w u11 e12) ce_AL_size wd_224 wd_226 ⟨by decide, by decide⟩ rfl rfl hl.1 rfl (lv_room (Nat.le_of_ble_eq_true rfl)) d_B_place_21 ⟨(show 5 + 0 ≤ 7 by omega), (show 30 + 0 ≤ 99 by omega)⟩) hI hA hexc (show 5 + 0 ≤ 7 by omega) (show 30 + 0 ≤ 99 by omega) (fun v15 w H locs h hI => ?_)
  refine lv_istore (lv' := [(9, .int v15), (8, .ref v5), (0, .ref a0), (1, .int p1), (2, .long p2), (4, .long p3), (6, .int p4), (7, .int p5)]) hx hb d_B_place_24 hl (by decide) rfl (fun ls hl => ?_)
  refine lv_iload hx hb d_B_place_26 (lv_at hl 0 rfl) ?_
  refine lv_bipush (v := 30) hx hb d_B_place_28 (by decide) ?_
  refine lv_icmp_lt (tgt := 35) hx hb d_B_place_30 (by decide) (fun c16 => ?_) (fun c16 => ?_)
  · skip
    have h := git c16 h
    obtain ⟨o17, w, e18, h⟩ := gb2 h
    refine gw_new hx hb hT hown hK hI hA (ci := 5) rfl i_5 t_5 t_5_ok wd_335 wd_646 wd_68 (fs := [.null, .long 0, .long 0, .int 0, .int 0]) df_5 e18 (show 5 + 1 ≤ 7 by omega) (show 30 + 5 ≤ 99 by omega) d_B_place_35 (fun H hI => ?_)
    refine W.widen (k := 6) (n := 35) (show 5 + 1 ≤ 6 by omega) (show 30 + 5 ≤ 35 by omega) ?_
    refine lv_dup hx hb d_B_place_38 rfl ?_
    refine lv_aload hx hb d_B_place_39 (lv_at hl 1 rfl) ?_
    obtain ⟨u19, e20⟩ := gsome h
    refine gw_callV e20 h (gw_runI (As := [.ref v5]) (rest := [.ref o17]) hx hb hml hown hT hK hZ hA hI (m_Pl_init l hst D g0 o17 v5 w u19 e20) ce_Pl_init wd_647 rfl ⟨by decide, by decide⟩ rfl rfl hl.1 rfl (lv_room (Nat.le_of_ble_eq_true rfl)) d_B_place_41 ⟨(show 6 + 0 ≤ 7 by omega), (show 35 + 0 ≤ 99 by omega)⟩) hI hA hexc (show 6 + 0 ≤ 7 by omega) (show 35 + 0 ≤ 99 by omega) (fun v21 w H locs h hI => ?_)
    refine lv_astore (lv' := [(10, .ref o17), (9, .int v15), (8, .ref v5), (0, .ref a0), (1, .int p1), (2, .long p2), (4, .long p3), (6, .int p4), (7, .int p5)]) hx hb d_B_place_44 hl (by decide) rfl (fun ls hl => ?_)
    refine lv_aload hx hb d_B_place_46 (lv_at hl 0 rfl) ?_
    refine lv_lload_n hx hb d_B_place_48 rfl (lv_at hl 5 rfl) ?_
    refine lv_lload hx hb d_B_place_49 (lv_at hl 6 rfl) ?_
    refine lv_iload hx hb d_B_place_51 (lv_at hl 7 rfl) ?_
    refine lv_iload hx hb d_B_place_53 (lv_at hl 8 rfl) ?_
    obtain ⟨q24, e25, h⟩ := gb h
    obtain ⟨u22, e23⟩ := gsome h
    refine gw_callV e23 h (gw_runV (As := [.long p2, .long p3, .int p4, .int p5]) (rest := []) hx hb hml hown hT hK hZ hA hI (ci := 5) rfl e25 (m_Pl_goTo l hst D g0 o17 p2 p3 p4 p5 w u22 e23) ce_Pl_goTo wd_671 wd_673 ⟨by decide, by decide⟩ rfl rfl hl.1 rfl (lv_room (Nat.le_of_ble_eq_true rfl)) d_B_place_55 ⟨(show 6 + 0 ≤ 7 by omega), (show 35 + 0 ≤ 99 by omega)⟩) hI hA hexc (show 6 + 0 ≤ 7 by omega) (show 35 + 0 ≤ 99 by omega) (fun v26 w H locs h hI => ?_)
    refine lv_aload_n hx hb d_B_place_58 rfl (lv_at hl 3 rfl) ?_
    obtain ⟨v27, e28, h⟩ := gb h
    refine gw_getA hx hb hT hown hK hI (ci := 0) rfl i_0 2 (by decide) wd_191 (fun _ h9 => h9) e28 d_B_place_59 ?_
    refine lv_aload hx hb d_B_place_62 (lv_at hl 0 rfl) ?_
    obtain ⟨q31, e32, h⟩ := gb h
    obtain ⟨u29, e30⟩ := gsome h
    refine gw_callI e30 h (gw_runV (As := [.ref o17]) (rest := []) hx hb hml hown hT hK hZ hA hI (ci := 1) rfl e32 (m_AL_add l hst D g0 v27 o17 w u29 e30) ce_AL_add wd_250 wd_252 ⟨by decide, by decide⟩ rfl rfl hl.1 rfl (lv_room (Nat.le_of_ble_eq_true rfl)) d_B_place_64 ⟨(show 6 + 1 ≤ 7 by omega), (show 35 + 64 ≤ 99 by omega)⟩) hI hA hexc (show 6 + 1 ≤ 7 by omega) (show 35 + 64 ≤ 99 by omega) (fun v33 w H locs h hI => ?_)
    refine W.widen (k := 7) (n := 99) (show 6 + 1 ≤ 7 by omega) (show 35 + 64 ≤ 99 by omega) ?_
    refine lv_pop hx hb d_B_place_67 rfl ?_
    refine lv_iload hx hb d_B_place_68 (lv_at hl 1 rfl) ?_
    exact W.widen (show 7 ≤ 7 by omega) (show 99 ≤ 99 by omega) (hret _ _ (Option.some.inj h).symm _ _ _ _ d_B_place_70 hI)
  · skip
    have h := gie c16 h
    refine lv_iconst (v := -1) hx hb d_B_place_33 (by decide) ?_
    exact W.widen (show 5 ≤ 7 by omega) (show 30 ≤ 99 by omega) (hret _ _ (Option.some.inj h).symm _ _ _ _ d_B_place_34 hI)
