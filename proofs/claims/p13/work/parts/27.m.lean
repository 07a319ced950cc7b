abbrev b_M_cross : ByteArray := prog_9_method_16_code
def y_M_cross : MethodName := ⟨"BodySolidsModel", "cross", "(JJJJJJ)J"⟩
theorem d_M_cross_0 : decode b_M_cross 0 = .ok (.lload 4, 2) := by decide +kernel
theorem d_M_cross_2 : decode b_M_cross 2 = .ok (.lload_n 0, 1) := by decide +kernel
theorem d_M_cross_3 : decode b_M_cross 3 = .ok (.lsub, 1) := by decide +kernel
theorem d_M_cross_4 : decode b_M_cross 4 = .ok (.lload 10, 2) := by decide +kernel
theorem d_M_cross_6 : decode b_M_cross 6 = .ok (.lload_n 2, 1) := by decide +kernel
theorem d_M_cross_7 : decode b_M_cross 7 = .ok (.lsub, 1) := by decide +kernel
theorem d_M_cross_8 : decode b_M_cross 8 = .ok (.lmul, 1) := by decide +kernel
theorem d_M_cross_9 : decode b_M_cross 9 = .ok (.lload 6, 2) := by decide +kernel
theorem d_M_cross_11 : decode b_M_cross 11 = .ok (.lload_n 2, 1) := by decide +kernel
theorem d_M_cross_12 : decode b_M_cross 12 = .ok (.lsub, 1) := by decide +kernel
theorem d_M_cross_13 : decode b_M_cross 13 = .ok (.lload 8, 2) := by decide +kernel
theorem d_M_cross_15 : decode b_M_cross 15 = .ok (.lload_n 0, 1) := by decide +kernel
theorem d_M_cross_16 : decode b_M_cross 16 = .ok (.lsub, 1) := by decide +kernel
theorem d_M_cross_17 : decode b_M_cross 17 = .ok (.lmul, 1) := by decide +kernel
theorem d_M_cross_18 : decode b_M_cross 18 = .ok (.lsub, 1) := by decide +kernel
theorem d_M_cross_19 : decode b_M_cross 19 = .ok (.lreturn, 1) := by decide +kernel
abbrev rm_M_cross : Room := { frames := 0, cells := 0, slots := 0, locals := 0 }
theorem ce_M_cross : gCe y_M_cross (.code y_M_cross b_M_cross 12 (some .long)) 12 6 true := gCe.code wd_924 wd_57 wd_923 (by decide) (by decide +kernel)
def f_M_cross (g0 : gG) (p0 : Int64) (p1 : Int64) (p2 : Int64) (p3 : Int64) (p4 : Int64) (p5 : Int64) (w : gW) : gX Int64 := some (.inr (((p2 - p0) * (p5 - p1)) - ((p3 - p1) * (p4 - p0))), w)
set_option maxHeartbeats 4000000 in
set_option maxRecDepth 100000 in
theorem m_M_cross (l : Launch) (hst : l.stackTraces = false) (D : gD) (g0 : gG) (p0 : Int64) (p1 : Int64) (p2 : Int64) (p3 : Int64) (p4 : Int64) (p5 : Int64) (w : gW) (r : (String ⊕ Int64) × gW) (h : f_M_cross g0 p0 p1 p2 p3 p4 p5 w = some r) : gMet l y_M_cross (.code y_M_cross b_M_cross 12 (some .long)) rm_M_cross D g0 [.long p0, .long p1, .long p2, .long p3, .long p4, .long p5] w (goJ r) := by
  refine gw_ofJ (by decide +kernel) (Nat.le_of_ble_eq_true rfl) ?_
  intro p e s m below meth c ls args A Q hx hb hml hown hlocks hin hnt hT hK hZ hA hret hexc hthr hI hl
  obtain ⟨H, hH⟩ : ∃ H, H = s.heap := ⟨_, rfl⟩
  rw [← hH] at hI ⊢
  obtain ⟨locs, hlocs⟩ : ∃ z : List Loc, z = [] := ⟨_, rfl⟩
  rw [← hlocs] at hI ⊢
  have hl : lv_has ls 12 [(0, .long p0), (2, .long p1), (4, .long p2), (6, .long p3), (8, .long p4), (10, .long p5)] := hl
  unfold f_M_cross at h
  refine lv_lload hx hb d_M_cross_0 (lv_at hl 2 rfl) ?_
  refine lv_lload_n hx hb d_M_cross_2 rfl (lv_at hl 0 rfl) ?_
  refine lv_lsub hx hb d_M_cross_3 ?_
  refine lv_lload hx hb d_M_cross_4 (lv_at hl 5 rfl) ?_
  refine lv_lload_n hx hb d_M_cross_6 rfl (lv_at hl 1 rfl) ?_
  refine lv_lsub hx hb d_M_cross_7 ?_
  refine lv_lmul hx hb d_M_cross_8 ?_
  refine lv_lload hx hb d_M_cross_9 (lv_at hl 3 rfl) ?_
  refine lv_lload_n hx hb d_M_cross_11 rfl (lv_at hl 1 rfl) ?_
  refine lv_lsub hx hb d_M_cross_12 ?_
  refine lv_lload hx hb d_M_cross_13 (lv_at hl 4 rfl) ?_
  refine lv_lload_n hx hb d_M_cross_15 rfl (lv_at hl 0 rfl) ?_
  refine lv_lsub hx hb d_M_cross_16 ?_
  refine lv_lmul hx hb d_M_cross_17 ?_
  refine lv_lsub hx hb d_M_cross_18 ?_
  exact W.widen (show 0 ≤ 0 by omega) (show 0 ≤ 0 by omega) (hret _ _ (Option.some.inj h).symm _ _ _ _ d_M_cross_19 hI)

abbrev b_M_isRound : ByteArray := prog_9_method_17_code
def y_M_isRound : MethodName := ⟨"BodySolidsModel", "isRound", "()Z"⟩
theorem d_M_isRound_0 : decode b_M_isRound 0 = .ok (.aload_n 0, 1) := by decide +kernel
theorem d_M_isRound_1 : decode b_M_isRound 1 = .ok (.getfield 121, 3) := by decide +kernel
theorem d_M_isRound_4 : decode b_M_isRound 4 = .ok (.iconst 3, 1) := by decide +kernel
theorem d_M_isRound_5 : decode b_M_isRound 5 = .ok (.if_icmp .ge 5, 3) := by decide +kernel
theorem d_M_isRound_8 : decode b_M_isRound 8 = .ok (.iconst 0, 1) := by decide +kernel
theorem d_M_isRound_9 : decode b_M_isRound 9 = .ok (.ireturn, 1) := by decide +kernel
theorem d_M_isRound_10 : decode b_M_isRound 10 = .ok (.iconst 0, 1) := by decide +kernel
theorem d_M_isRound_11 : decode b_M_isRound 11 = .ok (.istore_n 1, 1) := by decide +kernel
theorem d_M_isRound_12 : decode b_M_isRound 12 = .ok (.iload_n 1, 1) := by decide +kernel
theorem d_M_isRound_13 : decode b_M_isRound 13 = .ok (.aload_n 0, 1) := by decide +kernel
theorem d_M_isRound_14 : decode b_M_isRound 14 = .ok (.getfield 121, 3) := by decide +kernel
theorem d_M_isRound_17 : decode b_M_isRound 17 = .ok (.if_icmp .ge 90, 3) := by decide +kernel
theorem d_M_isRound_20 : decode b_M_isRound 20 = .ok (.iload_n 1, 1) := by decide +kernel
theorem d_M_isRound_21 : decode b_M_isRound 21 = .ok (.iconst 1, 1) := by decide +kernel
theorem d_M_isRound_22 : decode b_M_isRound 22 = .ok (.iadd, 1) := by decide +kernel
theorem d_M_isRound_23 : decode b_M_isRound 23 = .ok (.aload_n 0, 1) := by decide +kernel
theorem d_M_isRound_24 : decode b_M_isRound 24 = .ok (.getfield 121, 3) := by decide +kernel
theorem d_M_isRound_27 : decode b_M_isRound 27 = .ok (.irem, 1) := by decide +kernel
theorem d_M_isRound_28 : decode b_M_isRound 28 = .ok (.istore_n 2, 1) := by decide +kernel
theorem d_M_isRound_29 : decode b_M_isRound 29 = .ok (.iconst 0, 1) := by decide +kernel
theorem d_M_isRound_30 : decode b_M_isRound 30 = .ok (.istore_n 3, 1) := by decide +kernel
theorem d_M_isRound_31 : decode b_M_isRound 31 = .ok (.iload_n 3, 1) := by decide +kernel
theorem d_M_isRound_32 : decode b_M_isRound 32 = .ok (.aload_n 0, 1) := by decide +kernel
theorem d_M_isRound_33 : decode b_M_isRound 33 = .ok (.getfield 121, 3) := by decide +kernel
theorem d_M_isRound_36 : decode b_M_isRound 36 = .ok (.if_icmp .ge 65, 3) := by decide +kernel
theorem d_M_isRound_39 : decode b_M_isRound 39 = .ok (.iload_n 3, 1) := by decide +kernel
theorem d_M_isRound_40 : decode b_M_isRound 40 = .ok (.iload_n 1, 1) := by decide +kernel
theorem d_M_isRound_41 : decode b_M_isRound 41 = .ok (.if_icmp .eq 54, 3) := by decide +kernel
theorem d_M_isRound_44 : decode b_M_isRound 44 = .ok (.iload_n 3, 1) := by decide +kernel
theorem d_M_isRound_45 : decode b_M_isRound 45 = .ok (.iload_n 2, 1) := by decide +kernel
theorem d_M_isRound_46 : decode b_M_isRound 46 = .ok (.if_icmp .eq 49, 3) := by decide +kernel
theorem d_M_isRound_49 : decode b_M_isRound 49 = .ok (.aload_n 0, 1) := by decide +kernel
theorem d_M_isRound_50 : decode b_M_isRound 50 = .ok (.getfield 29, 3) := by decide +kernel
theorem d_M_isRound_53 : decode b_M_isRound 53 = .ok (.iload_n 1, 1) := by decide +kernel
theorem d_M_isRound_54 : decode b_M_isRound 54 = .ok (.laload, 1) := by decide +kernel
theorem d_M_isRound_55 : decode b_M_isRound 55 = .ok (.aload_n 0, 1) := by decide +kernel
theorem d_M_isRound_56 : decode b_M_isRound 56 = .ok (.getfield 32, 3) := by decide +kernel
theorem d_M_isRound_59 : decode b_M_isRound 59 = .ok (.iload_n 1, 1) := by decide +kernel
theorem d_M_isRound_60 : decode b_M_isRound 60 = .ok (.laload, 1) := by decide +kernel
theorem d_M_isRound_61 : decode b_M_isRound 61 = .ok (.aload_n 0, 1) := by decide +kernel
theorem d_M_isRound_62 : decode b_M_isRound 62 = .ok (.getfield 29, 3) := by decide +kernel
theorem d_M_isRound_65 : decode b_M_isRound 65 = .ok (.iload_n 2, 1) := by decide +kernel
theorem d_M_isRound_66 : decode b_M_isRound 66 = .ok (.laload, 1) := by decide +kernel
theorem d_M_isRound_67 : decode b_M_isRound 67 = .ok (.aload_n 0, 1) := by decide +kernel
theorem d_M_isRound_68 : decode b_M_isRound 68 = .ok (.getfield 32, 3) := by decide +kernel
theorem d_M_isRound_71 : decode b_M_isRound 71 = .ok (.iload_n 2, 1) := by decide +kernel
theorem d_M_isRound_72 : decode b_M_isRound 72 = .ok (.laload, 1) := by decide +kernel
theorem d_M_isRound_73 : decode b_M_isRound 73 = .ok (.aload_n 0, 1) := by decide +kernel
theorem d_M_isRound_74 : decode b_M_isRound 74 = .ok (.getfield 29, 3) := by decide +kernel
theorem d_M_isRound_77 : decode b_M_isRound 77 = .ok (.iload_n 3, 1) := by decide +kernel
theorem d_M_isRound_78 : decode b_M_isRound 78 = .ok (.laload, 1) := by decide +kernel
theorem d_M_isRound_79 : decode b_M_isRound 79 = .ok (.aload_n 0, 1) := by decide +kernel
theorem d_M_isRound_80 : decode b_M_isRound 80 = .ok (.getfield 32, 3) := by decide +kernel
theorem d_M_isRound_83 : decode b_M_isRound 83 = .ok (.iload_n 3, 1) := by decide +kernel
theorem d_M_isRound_84 : decode b_M_isRound 84 = .ok (.laload, 1) := by decide +kernel
theorem d_M_isRound_85 : decode b_M_isRound 85 = .ok (.invokestatic 124, 3) := by decide +kernel
theorem d_M_isRound_88 : decode b_M_isRound 88 = .ok (.lconst 0, 1) := by decide +kernel
theorem d_M_isRound_89 : decode b_M_isRound 89 = .ok (.lcmp, 1) := by decide +kernel
theorem d_M_isRound_90 : decode b_M_isRound 90 = .ok (.ifCond .gt 5, 3) := by decide +kernel
theorem d_M_isRound_93 : decode b_M_isRound 93 = .ok (.iconst 0, 1) := by decide +kernel
theorem d_M_isRound_94 : decode b_M_isRound 94 = .ok (.ireturn, 1) := by decide +kernel
theorem d_M_isRound_95 : decode b_M_isRound 95 = .ok (.iinc 3 1, 3) := by decide +kernel
theorem d_M_isRound_98 : decode b_M_isRound 98 = .ok (.goto (-67), 3) := by decide +kernel
theorem d_M_isRound_101 : decode b_M_isRound 101 = .ok (.iinc 1 1, 3) := by decide +kernel
theorem d_M_isRound_104 : decode b_M_isRound 104 = .ok (.goto (-92), 3) := by decide +kernel
theorem d_M_isRound_107 : decode b_M_isRound 107 = .ok (.iconst 1, 1) := by decide +kernel
theorem d_M_isRound_108 : decode b_M_isRound 108 = .ok (.ireturn, 1) := by decide +kernel
abbrev rm_M_isRound : Room := { frames := 1, cells := 0, slots := 0, locals := 31 }
theorem ce_M_isRound : gCe y_M_isRound (.code y_M_isRound b_M_isRound 4 (some .boolean)) 4 0 false := gCe.code wd_921 wd_57 wd_920 (by decide) (by decide +kernel)
def f_M_isRound_L31 (g0 : gG) (c0 : Nat) (c1 : Int32) (c2 : Int32) (K101 : gW → gX Int32) (K93 : gW → gX Int32) : Nat → Int32 → gW → gX Int32
  | 0, _, _ => none
  | n + 1, z3, w => (gfI w c0 7 9).bind fun v12 => if v12 ≤ z3 then (K101 w) else (gjoin (fun K95 => if z3 = c1 then (K95 w) else (if z3 = c2 then (K95 w) else ((gfA w c0 7 10).bind fun v17 => (gaJ w v17 c1).bind fun v19 => (gfA w c0 7 11).bind fun v21 => (gaJ w v21 c1).bind fun v23 => (gfA w c0 7 10).bind fun v25 => (gaJ w v25 c2).bind fun v27 => (gfA w c0 7 11).bind fun v29 => (gaJ w v29 c2).bind fun v31 => (gfA w c0 7 10).bind fun v33 => (gaJ w v33 z3).bind fun v35 => (gfA w c0 7 11).bind fun v37 => (gaJ w v37 z3).bind fun v39 => gbind (f_M_cross g0 v19 v23 v27 v31 v35 v39 w) fun v43 w => if 0 < v43 then (K95 w) else (K93 w)))) (fun (w : gW) => f_M_isRound_L31 g0 c0 c1 c2 K101 K93 n (z3 + 1) w))
def f_M_isRound_L12 (g0 : gG) (c0 : Nat) (K107 : gW → gX Int32) (K93 : gW → gX Int32) : Nat → Int32 → gW → gX Int32
  | 0, _, _ => none
  | n + 1, z1, w => (gfI w c0 7 9).bind fun v6 => if v6 ≤ z1 then (K107 w) else ((gfI w c0 7 9).bind fun v9 => gguard (¬ v9 = 0) (gjoin (fun K101 => f_M_isRound_L31 g0 c0 z1 ((z1 + 1) - (z1 + 1) / v9 * v9) K101 K93 64 0 w) (fun (w : gW) => f_M_isRound_L12 g0 c0 K107 K93 n (z1 + 1) w)))
def f_M_isRound (g0 : gG) (a0 : Nat) (w : gW) : gX Int32 := (gfI w a0 7 9).bind fun v1 => if 3 ≤ v1 then (gjoin (fun K107 => gjoin (fun K93 => f_M_isRound_L12 g0 a0 K107 K93 64 0 w) (fun (w : gW) => gguard ((0 : Int32) = 0 ∨ (0 : Int32) = 1) (some (.inr 0, w)))) (fun (w : gW) => gguard ((1 : Int32) = 0 ∨ (1 : Int32) = 1) (some (.inr 1, w)))) else (gguard ((0 : Int32) = 0 ∨ (0 : Int32) = 1) (some (.inr 0, w)))
set_option maxHeartbeats 4000000 in
set_option maxRecDepth 100000 in
theorem m_M_isRound (l : Launch) (hst : l.stackTraces = false) (D : gD) (g0 : gG) (a0 : Nat) (w : gW) (r : (String ⊕ Int32) × gW) (h : f_M_isRound g0 a0 w = some r) : gMet l y_M_isRound (.code y_M_isRound b_M_isRound 4 (some .boolean)) rm_M_isRound D g0 [.ref a0] w (goI r) := by
  refine gw_ofZ (by decide +kernel) (Nat.le_of_ble_eq_true rfl) ?_
  intro p e s m below meth c ls args A Q hx hb hml hown hlocks hin hnt hT hK hZ hA hret hexc hthr hI hl
  obtain ⟨H, hH⟩ : ∃ H, H = s.heap := ⟨_, rfl⟩
  rw [← hH] at hI ⊢
  obtain ⟨locs, hlocs⟩ : ∃ z : List Loc, z = [] := ⟨_, rfl⟩
  rw [← hlocs] at hI ⊢
  have hl : lv_has ls 4 [(0, .ref a0)] := hl
  unfold f_M_isRound at h
  refine lv_aload_n hx hb d_M_isRound_0 rfl (lv_at hl 0 rfl) ?_
  obtain ⟨v1, e2, h⟩ := gb h
  refine gw_getI hx hb hT hown hK hI (ci := 7) rfl i_7 9 (by decide) wd_795 (fun _ h9 => h9) e2 d_M_isRound_1 ?_
  refine lv_iconst (v := 3) hx hb d_M_isRound_4 (by decide) ?_
  refine lv_icmp_ge (tgt := 10) hx hb d_M_isRound_5 (by decide) (fun c3 => ?_) (fun c3 => ?_)
  · skip
    have h := git c3 h
    refine lv_iconst (v := 0) hx hb d_M_isRound_10 (by decide) ?_
    refine lv_istore_n (lv' := [(1, .int 0), (0, .ref a0)]) hx hb d_M_isRound_11 rfl hl (by decide) rfl (fun ls hl => ?_)
    obtain ⟨K107, eK107, h⟩ := gj h
    have hK107 : ∀ (w : gW) (H : Heap) (locs : List Loc) (ls : Array Slot), K107 w = some r → gI D s A w H locs → lv_has ls 4 [] → W p l e rm_M_isRound s m args below meth c H locs 0 0 Q (F0 m 107 ls []) := by
      intro w H locs ls h hI hl
      have h := gk1 eK107 h
      refine lv_iconst (v := 1) hx hb d_M_isRound_107 (by decide) ?_
      obtain ⟨g4, h⟩ := gif h
      exact W.widen (show 0 ≤ 0 by omega) (show 0 ≤ 0 by omega) (hret g4 0 _ (Option.some.inj h).symm _ _ _ _ d_M_isRound_108 hI)
    obtain ⟨K93, eK93, h⟩ := gj h
    have hK93 : ∀ (w : gW) (H : Heap) (locs : List Loc) (ls : Array Slot), K93 w = some r → gI D s A w H locs → lv_has ls 4 [] → W p l e rm_M_isRound s m args below meth c H locs 0 0 Q (F0 m 93 ls []) := by
      intro w H locs ls h hI hl
      have h := gk1 eK93 h
      refine lv_iconst (v := 0) hx hb d_M_isRound_93 (by decide) ?_
      obtain ⟨g5, h⟩ := gif h
      exact W.widen (show 0 ≤ 0 by omega) (show 0 ≤ 0 by omega) (hret g5 0 _ (Option.some.inj h).symm _ _ _ _ d_M_isRound_94 hI)
    have hL12 : ∀ (n : Nat), ∀ (z6 : Int32) (w : gW) (H : Heap) (locs : List Loc) (ls : Array Slot), f_M_isRound_L12 g0 a0 K107 K93 n z6 w = some r → gI D s A w H locs → lv_has ls 4 [(0, .ref a0), (1, .int z6)] → W p l e rm_M_isRound s m args below meth c H locs 0 0 Q (F0 m 12 ls []) := by
      intro n
      induction n with
      | zero => intro z6 w H locs ls h hI hl; exact absurd h (by simp [f_M_isRound_L12])
      | succ n ih =>
        intro z6 w H locs ls h hI hl
        rw [f_M_isRound_L12] at h
        refine lv_iload_n hx hb d_M_isRound_12 rfl (lv_at hl 1 rfl) ?_
        refine lv_aload_n hx hb d_M_isRound_13 rfl (lv_at hl 0 rfl) ?_
        obtain ⟨v7, e8, h⟩ := gb h
        refine gw_getI hx hb hT hown hK hI (ci := 7) rfl i_7 9 (by decide) wd_795 (fun _ h9 => h9) e8 d_M_isRound_14 ?_
        refine lv_icmp_ge (tgt := 107) hx hb d_M_isRound_17 (by decide) (fun c9 => ?_) (fun c9 => ?_)
        · skip
          have h := git c9 h
          exact hK107 w H locs ls h hI (lv_sub hl [] rfl)
        · skip
          have h := gie c9 h
          refine lv_iload_n hx hb d_M_isRound_20 rfl (lv_at hl 1 rfl) ?_
          refine lv_iconst (v := 1) hx hb d_M_isRound_21 (by decide) ?_
          refine lv_iadd hx hb d_M_isRound_22 ?_
          refine lv_aload_n hx hb d_M_isRound_23 rfl (lv_at hl 0 rfl) ?_
          obtain ⟨v10, e11, h⟩ := gb h
          refine gw_getI hx hb hT hown hK hI (ci := 7) rfl i_7 9 (by decide) wd_795 (fun _ h9 => h9) e11 d_M_isRound_24 ?_
          obtain ⟨g12, h⟩ := gif h
          refine lv_irem hx hb d_M_isRound_27 g12 ?_
          refine lv_istore_n (lv' := [(2, .int ((z6 + 1) - (z6 + 1) / v10 * v10)), (0, .ref a0), (1, .int z6)]) hx hb d_M_isRound_28 rfl hl (by decide) rfl (fun ls hl => ?_)
          refine lv_iconst (v := 0) hx hb d_M_isRound_29 (by decide) ?_
          refine lv_istore_n (lv' := [(3, .int 0), (2, .int ((z6 + 1) - (z6 + 1) / v10 * v10)), (0, .ref a0), (1, .int z6)]) hx hb d_M_isRound_30 rfl hl (by decide) rfl (fun ls hl => ?_)
          obtain ⟨K101, eK101, h⟩ := gj h
          have hK101 : ∀ (w : gW) (H : Heap) (locs : List Loc) (ls : Array Slot), K101 w = some r → gI D s A w H locs → lv_has ls 4 [(0, .ref a0), (1, .int z6)] → W p l e rm_M_isRound s m args below meth c H locs 0 0 Q (F0 m 101 ls []) := by
            intro w H locs ls h hI hl
            have h := gk1 eK101 h
            refine lv_iinc (v := z6 + 1) (lv' := [(1, .int (z6 + 1)), (0, .ref a0)]) hx hb d_M_isRound_101 hl (k := 1) rfl rfl (by decide) rfl (fun ls hl => ?_)
            refine lv_goto (tgt := 12) hx hb d_M_isRound_104 (by decide) ?_
            exact ih _ w H locs ls h hI (lv_sub hl [1, 0] rfl)
          have hL31 : ∀ (n : Nat), ∀ (z13 : Int32) (w : gW) (H : Heap) (locs : List Loc) (ls : Array Slot), f_M_isRound_L31 g0 a0 z6 ((z6 + 1) - (z6 + 1) / v10 * v10) K101 K93 n z13 w = some r → gI D s A w H locs → lv_has ls 4 [(0, .ref a0), (1, .int z6), (2, .int ((z6 + 1) - (z6 + 1) / v10 * v10)), (3, .int z13)] → W p l e rm_M_isRound s m args below meth c H locs 0 0 Q (F0 m 31 ls []) := by
            intro n
            induction n with
            | zero => intro z13 w H locs ls h hI hl; exact absurd h (by simp [f_M_isRound_L31])
            | succ n ih =>
              intro z13 w H locs ls h hI hl
              rw [f_M_isRound_L31] at h
              refine lv_iload_n hx hb d_M_isRound_31 rfl (lv_at hl 3 rfl) ?_
              refine lv_aload_n hx hb d_M_isRound_32 rfl (lv_at hl 0 rfl) ?_
              obtain ⟨v14, e15, h⟩ := gb h
              refine gw_getI hx hb hT hown hK hI (ci := 7) rfl i_7 9 (by decide) wd_795 (fun _ h9 => h9) e15 d_M_isRound_33 ?_
              refine lv_icmp_ge (tgt := 101) hx hb d_M_isRound_36 (by decide) (fun c16 => ?_) (fun c16 => ?_)
              · skip
                have h := git c16 h
                exact hK101 w H locs ls h hI (lv_sub hl [0, 1] rfl)
              · skip
                have h := gie c16 h
                refine lv_iload_n hx hb d_M_isRound_39 rfl (lv_at hl 3 rfl) ?_
                refine lv_iload_n hx hb d_M_isRound_40 rfl (lv_at hl 1 rfl) ?_
                obtain ⟨K95, eK95, h⟩ := gj h
                have hK95 : ∀ (w : gW) (H : Heap) (locs : List Loc) (ls : Array Slot), K95 w = some r → gI D s A w H locs → lv_has ls 4 [(0, .ref a0), (1, .int z6), (2, .int ((z6 + 1) - (z6 + 1) / v10 * v10)), (3, .int z13)] → W p l e rm_M_isRound s m args below meth c H locs 0 0 Q (F0 m 95 ls []) := by
                  intro w H locs ls h hI hl
                  have h := gk1 eK95 h
                  refine lv_iinc (v := z13 + 1) (lv' := [(3, .int (z13 + 1)), (0, .ref a0), (1, .int z6), (2, .int ((z6 + 1) - (z6 + 1) / v10 * v10))]) hx hb d_M_isRound_95 hl (k := 3) rfl rfl (by decide) rfl (fun ls hl => ?_)
                  refine lv_goto (tgt := 31) hx hb d_M_isRound_98 (by decide) ?_
                  exact ih _ w H locs ls h hI (lv_sub hl [1, 2, 3, 0] rfl)
                refine lv_icmp_eq (tgt := 95) hx hb d_M_isRound_41 (by decide) (fun c17 => ?_) (fun c17 => ?_)
                · skip
                  have h := git c17 h
                  exact hK95 w H locs ls h hI (lv_sub hl [0, 1, 2, 3] rfl)
                · skip
                  have h := gie c17 h
                  refine lv_iload_n hx hb d_M_isRound_44 rfl (lv_at hl 3 rfl) ?_
                  refine lv_iload_n hx hb d_M_isRound_45 rfl (lv_at hl 2 rfl) ?_
                  refine lv_icmp_eq (tgt := 95) hx hb d_M_isRound_46 (by decide) (fun c18 => ?_) (fun c18 => ?_)
                  · skip
                    have h := git c18 h
                    exact hK95 w H locs ls h hI (lv_sub hl [0, 1, 2, 3] rfl)
                  · skip
                    have h := gie c18 h
                    refine lv_aload_n hx hb d_M_isRound_49 rfl (lv_at hl 0 rfl) ?_
                    obtain ⟨v19, e20, h⟩ := gb h
                    refine gw_getA hx hb hT hown hK hI (ci := 7) rfl i_7 10 (by decide) wd_796 (fun _ h9 => h9) e20 d_M_isRound_50 ?_
                    refine lv_iload_n hx hb d_M_isRound_53 rfl (lv_at hl 1 rfl) ?_
                    obtain ⟨v21, e22, h⟩ := gb h
                    refine gw_aldJ hx hb hK hI e22 d_M_isRound_54 ?_
                    refine lv_aload_n hx hb d_M_isRound_55 rfl (lv_at hl 0 rfl) ?_
                    obtain ⟨v23, e24, h⟩ := gb h
                    refine gw_getA hx hb hT hown hK hI (ci := 7) rfl i_7 11 (by decide) wd_797 (fun _ h9 => h9) e24 d_M_isRound_56 ?_
                    refine lv_iload_n hx hb d_M_isRound_59 rfl (lv_at hl 1 rfl) ?_
                    obtain ⟨v25, e26, h⟩ := gb h
                    refine gw_aldJ hx hb hK hI e26 d_M_isRound_60 ?_
                    refine lv_aload_n hx hb d_M_isRound_61 rfl (lv_at hl 0 rfl) ?_
                    obtain ⟨v27, e28, h⟩ := gb h
                    refine gw_getA hx hb hT hown hK hI (ci := 7) rfl i_7 10 (by decide) wd_796 (fun _ h9 => h9) e28 d_M_isRound_62 ?_
                    refine lv_iload_n hx hb d_M_isRound_65 rfl (lv_at hl 2 rfl) ?_
                    obtain ⟨v29, e30, h⟩ := gb h
                    refine gw_aldJ hx hb hK hI e30 d_M_isRound_66 ?_
                    refine lv_aload_n hx hb d_M_isRound_67 rfl (lv_at hl 0 rfl) ?_
                    obtain ⟨v31, e32, h⟩ := gb h
                    refine gw_getA hx hb hT hown hK hI (ci := 7) rfl i_7 11 (by decide) wd_797 (fun _ h9 => h9) e32 d_M_isRound_68 ?_
                    refine lv_iload_n hx hb d_M_isRound_71 rfl (lv_at hl 2 rfl) ?_
                    obtain ⟨v33, e34, h⟩ := gb h
                    refine gw_aldJ hx hb hK hI e34 d_M_isRound_72 ?_
                    refine lv_aload_n hx hb d_M_isRound_73 rfl (lv_at hl 0 rfl) ?_
                    obtain ⟨v35, e36, h⟩ := gb h
                    refine gw_getA hx hb hT hown hK hI (ci := 7) rfl i_7 10 (by decide) wd_796 (fun _ h9 => h9) e36 d_M_isRound_74 ?_
                    refine lv_iload_n hx hb d_M_isRound_77 rfl (lv_at hl 3 rfl) ?_
                    obtain ⟨v37, e38, h⟩ := gb h
                    refine gw_aldJ hx hb hK hI e38 d_M_isRound_78 ?_
                    refine lv_aload_n hx hb d_M_isRound_79 rfl (lv_at hl 0 rfl) ?_
                    obtain ⟨v39, e40, h⟩ := gb h
                    refine gw_getA hx hb hT hown hK hI (ci := 7) rfl i_7 11 (by decide) wd_797 (fun _ h9 => h9) e40 d_M_isRound_80 ?_
                    refine lv_iload_n hx hb d_M_isRound_83 rfl (lv_at hl 3 rfl) ?_
                    obtain ⟨v41, e42, h⟩ := gb h
                    refine gw_aldJ hx hb hK hI e42 d_M_isRound_84 ?_
                    obtain ⟨u43, e44⟩ := gsome h
                    refine gw_callJ e44 h (gw_runS (As := [.long v21, .long v25, .long v29, .long v33, .long v37, .long v41]) (rest := []) hx hb hml hown hT hK hZ hA hI (m_M_cross l hst D g0 v21 v25 v29 v33 v37 v41 w u43 e44) ce_M_cross wd_922 ⟨by decide, by decide⟩ rfl rfl hl.1 rfl (lv_room (Nat.le_of_ble_eq_true rfl)) d_M_isRound_85 ⟨(show 0 + 0 ≤ 0 by omega), (show 0 + 0 ≤ 0 by omega)⟩) hI hA hexc (show 0 + 0 ≤ 0 by omega) (show 0 + 0 ≤ 0 by omega) (fun v45 w H locs h hI => ?_)
                    refine lv_lconst (v := 0) hx hb d_M_isRound_88 (by decide) ?_
                    refine W.lcmp hx hb d_M_isRound_89 ?_
                    refine lv_if_gt (tgt := 95) hx hb d_M_isRound_90 (by decide) (fun c46 => ?_) (fun c46 => ?_)
                    · have c46 := (lg_cmp_gt _ _).mp c46
                      have h := git c46 h
                      exact hK95 w H locs ls h hI (lv_sub hl [0, 1, 2, 3] rfl)
                    · have c46 := mt (lg_cmp_gt _ _).mpr c46
                      have h := gie c46 h
                      exact hK93 w H locs ls h hI (lv_sub hl [] rfl)
          exact hL31 64 _ w H locs ls h hI (lv_sub hl [2, 3, 1, 0] rfl)
    exact hL12 64 _ w H locs ls h hI (lv_sub hl [1, 0] rfl)
  · skip
    have h := gie c3 h
    refine lv_iconst (v := 0) hx hb d_M_isRound_8 (by decide) ?_
    obtain ⟨g47, h⟩ := gif h
    exact W.widen (show 0 ≤ 0 by omega) (show 0 ≤ 0 by omega) (hret g47 0 _ (Option.some.inj h).symm _ _ _ _ d_M_isRound_9 hI)

abbrev b_M_prism : ByteArray := prog_9_method_18_code
def y_M_prism : MethodName := ⟨"BodySolidsModel", "prism", "(IJJ)Z"⟩
theorem d_M_prism_0 : decode b_M_prism 0 = .ok (.aload_n 0, 1) := by decide +kernel
theorem d_M_prism_1 : decode b_M_prism 1 = .ok (.aload_n 0, 1) := by decide +kernel
theorem d_M_prism_2 : decode b_M_prism 2 = .ok (.iload_n 1, 1) := by decide +kernel
theorem d_M_prism_3 : decode b_M_prism 3 = .ok (.invokevirtual 109, 3) := by decide +kernel
theorem d_M_prism_6 : decode b_M_prism 6 = .ok (.ifCond .ne 7, 3) := by decide +kernel
theorem d_M_prism_9 : decode b_M_prism 9 = .ok (.iconst 1, 1) := by decide +kernel
theorem d_M_prism_10 : decode b_M_prism 10 = .ok (.goto 17, 3) := by decide +kernel
theorem d_M_prism_13 : decode b_M_prism 13 = .ok (.lload_n 2, 1) := by decide +kernel
theorem d_M_prism_14 : decode b_M_prism 14 = .ok (.lload 4, 2) := by decide +kernel
theorem d_M_prism_16 : decode b_M_prism 16 = .ok (.invokestatic 106, 3) := by decide +kernel
theorem d_M_prism_19 : decode b_M_prism 19 = .ok (.ifCond .eq 7, 3) := by decide +kernel
theorem d_M_prism_22 : decode b_M_prism 22 = .ok (.iconst 0, 1) := by decide +kernel
theorem d_M_prism_23 : decode b_M_prism 23 = .ok (.goto 4, 3) := by decide +kernel
theorem d_M_prism_26 : decode b_M_prism 26 = .ok (.iconst 2, 1) := by decide +kernel
theorem d_M_prism_27 : decode b_M_prism 27 = .ok (.putfield 80, 3) := by decide +kernel
theorem d_M_prism_30 : decode b_M_prism 30 = .ok (.aload_n 0, 1) := by decide +kernel
theorem d_M_prism_31 : decode b_M_prism 31 = .ok (.getfield 80, 3) := by decide +kernel
theorem d_M_prism_34 : decode b_M_prism 34 = .ok (.ifCond .ne 14, 3) := by decide +kernel
theorem d_M_prism_37 : decode b_M_prism 37 = .ok (.aload_n 0, 1) := by decide +kernel
theorem d_M_prism_38 : decode b_M_prism 38 = .ok (.getfield 7, 3) := by decide +kernel
theorem d_M_prism_41 : decode b_M_prism 41 = .ok (.iload_n 1, 1) := by decide +kernel
theorem d_M_prism_42 : decode b_M_prism 42 = .ok (.iaload, 1) := by decide +kernel
theorem d_M_prism_43 : decode b_M_prism 43 = .ok (.bipush 12, 2) := by decide +kernel
theorem d_M_prism_45 : decode b_M_prism 45 = .ok (.if_icmp .ne 5, 3) := by decide +kernel
theorem d_M_prism_48 : decode b_M_prism 48 = .ok (.iconst 0, 1) := by decide +kernel
theorem d_M_prism_49 : decode b_M_prism 49 = .ok (.ireturn, 1) := by decide +kernel
theorem d_M_prism_50 : decode b_M_prism 50 = .ok (.aload_n 0, 1) := by decide +kernel
theorem d_M_prism_51 : decode b_M_prism 51 = .ok (.invokevirtual 128, 3) := by decide +kernel
theorem d_M_prism_54 : decode b_M_prism 54 = .ok (.istore 6, 2) := by decide +kernel
theorem d_M_prism_56 : decode b_M_prism 56 = .ok (.aload_n 0, 1) := by decide +kernel
theorem d_M_prism_57 : decode b_M_prism 57 = .ok (.getfield 121, 3) := by decide +kernel
theorem d_M_prism_60 : decode b_M_prism 60 = .ok (.istore 7, 2) := by decide +kernel
theorem d_M_prism_62 : decode b_M_prism 62 = .ok (.aload_n 0, 1) := by decide +kernel
theorem d_M_prism_63 : decode b_M_prism 63 = .ok (.iconst 0, 1) := by decide +kernel
theorem d_M_prism_64 : decode b_M_prism 64 = .ok (.putfield 121, 3) := by decide +kernel
theorem d_M_prism_67 : decode b_M_prism 67 = .ok (.iload 6, 2) := by decide +kernel
theorem d_M_prism_69 : decode b_M_prism 69 = .ok (.ifCond .ne 5, 3) := by decide +kernel
theorem d_M_prism_72 : decode b_M_prism 72 = .ok (.iconst 0, 1) := by decide +kernel
theorem d_M_prism_73 : decode b_M_prism 73 = .ok (.ireturn, 1) := by decide +kernel
theorem d_M_prism_74 : decode b_M_prism 74 = .ok (.aload_n 0, 1) := by decide +kernel
theorem d_M_prism_75 : decode b_M_prism 75 = .ok (.iload_n 1, 1) := by decide +kernel
theorem d_M_prism_76 : decode b_M_prism 76 = .ok (.iconst 2, 1) := by decide +kernel
theorem d_M_prism_77 : decode b_M_prism 77 = .ok (.invokevirtual 113, 3) := by decide +kernel
theorem d_M_prism_80 : decode b_M_prism 80 = .ok (.istore 8, 2) := by decide +kernel
theorem d_M_prism_82 : decode b_M_prism 82 = .ok (.aload_n 0, 1) := by decide +kernel
theorem d_M_prism_83 : decode b_M_prism 83 = .ok (.iload 8, 2) := by decide +kernel
theorem d_M_prism_85 : decode b_M_prism 85 = .ok (.iconst 2, 1) := by decide +kernel
theorem d_M_prism_86 : decode b_M_prism 86 = .ok (.lload_n 2, 1) := by decide +kernel
theorem d_M_prism_87 : decode b_M_prism 87 = .ok (.invokevirtual 117, 3) := by decide +kernel
theorem d_M_prism_90 : decode b_M_prism 90 = .ok (.aload_n 0, 1) := by decide +kernel
theorem d_M_prism_91 : decode b_M_prism 91 = .ok (.iload 8, 2) := by decide +kernel
theorem d_M_prism_93 : decode b_M_prism 93 = .ok (.iconst 5, 1) := by decide +kernel
theorem d_M_prism_94 : decode b_M_prism 94 = .ok (.lload 4, 2) := by decide +kernel
theorem d_M_prism_96 : decode b_M_prism 96 = .ok (.invokevirtual 117, 3) := by decide +kernel
theorem d_M_prism_99 : decode b_M_prism 99 = .ok (.aload_n 0, 1) := by decide +kernel
theorem d_M_prism_100 : decode b_M_prism 100 = .ok (.getfield 20, 3) := by decide +kernel
theorem d_M_prism_103 : decode b_M_prism 103 = .ok (.iload 8, 2) := by decide +kernel
theorem d_M_prism_105 : decode b_M_prism 105 = .ok (.iload 7, 2) := by decide +kernel
theorem d_M_prism_107 : decode b_M_prism 107 = .ok (.iastore, 1) := by decide +kernel
theorem d_M_prism_108 : decode b_M_prism 108 = .ok (.iconst 0, 1) := by decide +kernel
theorem d_M_prism_109 : decode b_M_prism 109 = .ok (.istore 9, 2) := by decide +kernel
theorem d_M_prism_111 : decode b_M_prism 111 = .ok (.iload 9, 2) := by decide +kernel
theorem d_M_prism_113 : decode b_M_prism 113 = .ok (.iload 7, 2) := by decide +kernel
theorem d_M_prism_115 : decode b_M_prism 115 = .ok (.if_icmp .ge 49, 3) := by decide +kernel
theorem d_M_prism_118 : decode b_M_prism 118 = .ok (.aload_n 0, 1) := by decide +kernel
theorem d_M_prism_119 : decode b_M_prism 119 = .ok (.getfield 23, 3) := by decide +kernel
theorem d_M_prism_122 : decode b_M_prism 122 = .ok (.bipush 8, 2) := by decide +kernel
theorem d_M_prism_124 : decode b_M_prism 124 = .ok (.iload 8, 2) := by decide +kernel
theorem d_M_prism_126 : decode b_M_prism 126 = .ok (.imul, 1) := by decide +kernel
theorem d_M_prism_127 : decode b_M_prism 127 = .ok (.iload 9, 2) := by decide +kernel
theorem d_M_prism_129 : decode b_M_prism 129 = .ok (.iadd, 1) := by decide +kernel
theorem d_M_prism_130 : decode b_M_prism 130 = .ok (.aload_n 0, 1) := by decide +kernel
theorem d_M_prism_131 : decode b_M_prism 131 = .ok (.getfield 29, 3) := by decide +kernel
theorem d_M_prism_134 : decode b_M_prism 134 = .ok (.iload 9, 2) := by decide +kernel
theorem d_M_prism_136 : decode b_M_prism 136 = .ok (.laload, 1) := by decide +kernel
theorem d_M_prism_137 : decode b_M_prism 137 = .ok (.lastore, 1) := by decide +kernel
theorem d_M_prism_138 : decode b_M_prism 138 = .ok (.aload_n 0, 1) := by decide +kernel
theorem d_M_prism_139 : decode b_M_prism 139 = .ok (.getfield 26, 3) := by decide +kernel
theorem d_M_prism_142 : decode b_M_prism 142 = .ok (.bipush 8, 2) := by decide +kernel
theorem d_M_prism_144 : decode b_M_prism 144 = .ok (.iload 8, 2) := by decide +kernel
theorem d_M_prism_146 : decode b_M_prism 146 = .ok (.imul, 1) := by decide +kernel
theorem d_M_prism_147 : decode b_M_prism 147 = .ok (.iload 9, 2) := by decide +kernel
theorem d_M_prism_149 : decode b_M_prism 149 = .ok (.iadd, 1) := by decide +kernel
theorem d_M_prism_150 : decode b_M_prism 150 = .ok (.aload_n 0, 1) := by decide +kernel
theorem d_M_prism_151 : decode b_M_prism 151 = .ok (.getfield 32, 3) := by decide +kernel
theorem d_M_prism_154 : decode b_M_prism 154 = .ok (.iload 9, 2) := by decide +kernel
theorem d_M_prism_156 : decode b_M_prism 156 = .ok (.laload, 1) := by decide +kernel
theorem d_M_prism_157 : decode b_M_prism 157 = .ok (.lastore, 1) := by decide +kernel
theorem d_M_prism_158 : decode b_M_prism 158 = .ok (.iinc 9 1, 3) := by decide +kernel
theorem d_M_prism_161 : decode b_M_prism 161 = .ok (.goto (-50), 3) := by decide +kernel
theorem d_M_prism_164 : decode b_M_prism 164 = .ok (.iconst 1, 1) := by decide +kernel
theorem d_M_prism_165 : decode b_M_prism 165 = .ok (.ireturn, 1) := by decide +kernel
abbrev rm_M_prism : Room := { frames := 3, cells := 0, slots := 0, locals := 69 }
theorem ce_M_prism : gCe y_M_prism (.code y_M_prism b_M_prism 10 (some .boolean)) 10 3 false := gCe.code wd_917 wd_57 wd_915 (by decide) (by decide +kernel)
def f_M_prism_L111 (g0 : gG) (c0 : Nat) (c7 : Int32) (c8 : Int32) (K164 : gW → gX Int32) : Nat → Int32 → gW → gX Int32
  | 0, _, _ => none
  | n + 1, z9, w => if c7 ≤ z9 then (K164 w) else ((gfA w c0 7 7).bind fun v46 => (gfA w c0 7 10).bind fun v48 => (gaJ w v48 z9).bind fun v50 => (gsJ w v46 ((8 * c8) + z9) v50).bind fun w => (gfA w c0 7 8).bind fun v53 => (gfA w c0 7 11).bind fun v55 => (gaJ w v55 z9).bind fun v57 => (gsJ w v53 ((8 * c8) + z9) v57).bind fun w => f_M_prism_L111 g0 c0 c7 c8 K164 n (z9 + 1) w)
def f_M_prism (g0 : gG) (a0 : Nat) (p1 : Int32) (p2 : Int64) (p3 : Int64) (w : gW) : gX Int32 := (gck w a0 7).bind fun _ => gbind (f_M_isBody g0 a0 p1 w) fun v5 w => gjoin (fun K27 => if v5 = 0 then (K27 1 w) else (gbind (f_M_isUpright g0 p2 p3 w) fun v65 w => if v65 = 0 then (K27 2 w) else (K27 0 w))) (fun (y6 : Int32) (w : gW) => (gp w a0 7 0 (.int y6)).bind fun w => (gfI w a0 7 0).bind fun v8 => gjoin (fun K48 => if v8 = 0 then ((gfA w a0 7 3).bind fun v12 => (gaI w v12 p1).bind fun v14 => if v14 = 12 then (K48 w) else ((gck w a0 7).bind fun _ => gbind (f_M_isRound g0 a0 w) fun v21 w => (gfI w a0 7 9).bind fun v22 => (gp w a0 7 9 (.int 0)).bind fun w => if v21 = 0 then (gguard ((0 : Int32) = 0 ∨ (0 : Int32) = 1) (some (.inr 0, w))) else ((gck w a0 7).bind fun _ => gbind (f_M_fresh g0 a0 p1 2 w) fun v30 w => (gck w a0 7).bind fun _ => gbind (f_M_tell g0 a0 v30 2 p2 w) fun v35 w => (gck w a0 7).bind fun _ => gbind (f_M_tell g0 a0 v30 5 p3 w) fun v40 w => (gfA w a0 7 6).bind fun v41 => (gsI w v41 v30 v22).bind fun w => gjoin (fun K164 => f_M_prism_L111 g0 a0 v22 v30 K164 64 0 w) (fun (w : gW) => gguard ((1 : Int32) = 0 ∨ (1 : Int32) = 1) (some (.inr 1, w)))))) else (K48 w)) (fun (w : gW) => gguard ((0 : Int32) = 0 ∨ (0 : Int32) = 1) (some (.inr 0, w))))
set_option maxHeartbeats 4000000 in
set_option maxRecDepth 100000 in
theorem m_M_prism (l : Launch) (hst : l.stackTraces = false) (D : gD) (g0 : gG) (a0 : Nat) (p1 : Int32) (p2 : Int64) (p3 : Int64) (w : gW) (r : (String ⊕ Int32) × gW) (h : f_M_prism g0 a0 p1 p2 p3 w = some r) : gMet l y_M_prism (.code y_M_prism b_M_prism 10 (some .boolean)) rm_M_prism D g0 [.ref a0, .int p1, .long p2, .long p3] w (goI r) := by
  refine gw_ofZ (by decide +kernel) (Nat.le_of_ble_eq_true rfl) ?_
  intro p e s m below meth c ls args A Q hx hb hml hown hlocks hin hnt hT hK hZ hA hret hexc hthr hI hl
  obtain ⟨H, hH⟩ : ∃ H, H = s.heap := ⟨_, rfl⟩
  rw [← hH] at hI ⊢
  obtain ⟨locs, hlocs⟩ : ∃ z : List Loc, z = [] := ⟨_, rfl⟩
  rw [← hlocs] at hI ⊢
  have hl : lv_has ls 10 [(0, .ref a0), (1, .int p1), (2, .long p2), (4, .long p3)] := hl
  unfold f_M_prism at h
  refine lv_aload_n hx hb d_M_prism_0 rfl (lv_at hl 0 rfl) ?_
  refine lv_aload_n hx hb d_M_prism_1 rfl (lv_at hl 0 rfl) ?_
  refine lv_iload_n hx hb d_M_prism_2 rfl (lv_at hl 1 rfl) ?_
  obtain ⟨q3, e4, h⟩ := gb h
  obtain ⟨u1, e2⟩ := gsome h
  refine gw_callI e2 h (gw_runV (As := [.int p1]) (rest := [.ref a0]) hx hb hml hown hT hK hZ hA hI (ci := 7) rfl e4 (m_M_isBody l hst D g0 a0 p1 w u1 e2) ce_M_isBody wd_894 wd_17 ⟨by decide, by decide⟩ rfl rfl hl.1 rfl (lv_room (Nat.le_of_ble_eq_true rfl)) d_M_prism_3 ⟨(show 0 + 0 ≤ 0 by omega), (show 0 + 0 ≤ 0 by omega)⟩) hI hA hexc (show 0 + 0 ≤ 0 by omega) (show 0 + 0 ≤ 0 by omega) (fun v5 w H locs h hI => ?_)
  obtain ⟨K27, eK27, h⟩ := gj h
  have hK27 : ∀ (y6 : Int32) (w : gW) (H : Heap) (locs : List Loc) (ls : Array Slot), K27 y6 w = some r → gI D s A w H locs → lv_has ls 10 [(0, .ref a0), (1, .int p1), (2, .long p2), (4, .long p3)] → W p l e rm_M_prism s m args below meth c H locs 0 0 Q (F0 m 27 ls [.int y6, .ref a0]) := by
    intro y6 w H locs ls h hI hl
    have h := gk2 eK27 h
    obtain ⟨w, e7, h⟩ := gb h
    refine gw_put hx hb hT hown hK hI (ci := 7) rfl i_7 t_7 t_7_ok n_7 0 (by decide) wd_786 (fun _ h9 => h9) rfl (ty := .int) (by decide +kernel) rfl rfl e7 d_M_prism_27 (fun H locs hI => ?_)
    refine lv_aload_n hx hb d_M_prism_30 rfl (lv_at hl 0 rfl) ?_
    obtain ⟨v8, e9, h⟩ := gb h
    refine gw_getI hx hb hT hown hK hI (ci := 7) rfl i_7 0 (by decide) wd_786 (fun _ h9 => h9) e9 d_M_prism_31 ?_
    obtain ⟨K48, eK48, h⟩ := gj h
    have hK48 : ∀ (w : gW) (H : Heap) (locs : List Loc) (ls : Array Slot), K48 w = some r → gI D s A w H locs → lv_has ls 10 [] → W p l e rm_M_prism s m args below meth c H locs 0 0 Q (F0 m 48 ls []) := by
      intro w H locs ls h hI hl
      have h := gk1 eK48 h
      refine lv_iconst (v := 0) hx hb d_M_prism_48 (by decide) ?_
      obtain ⟨g10, h⟩ := gif h
      exact W.widen (show 0 ≤ 0 by omega) (show 0 ≤ 0 by omega) (hret g10 0 _ (Option.some.inj h).symm _ _ _ _ d_M_prism_49 hI)
    refine lv_if_ne (tgt := 48) hx hb d_M_prism_34 (by decide) (fun c11 => ?_) (fun c11 => ?_)
    · skip
      have h := gie c11 h
      exact hK48 w H locs ls h hI (lv_sub hl [] rfl)
    · skip
      have h := git c11 h
      refine lv_aload_n hx hb d_M_prism_37 rfl (lv_at hl 0 rfl) ?_
      obtain ⟨v12, e13, h⟩ := gb h
      refine gw_getA hx hb hT hown hK hI (ci := 7) rfl i_7 3 (by decide) wd_789 (fun _ h9 => h9) e13 d_M_prism_38 ?_
      refine lv_iload_n hx hb d_M_prism_41 rfl (lv_at hl 1 rfl) ?_
      obtain ⟨v14, e15, h⟩ := gb h
      refine gw_aldI hx hb hK hI e15 d_M_prism_42 ?_
      refine lv_bipush (v := 12) hx hb d_M_prism_43 (by decide) ?_
      refine lv_icmp_ne (tgt := 50) hx hb d_M_prism_45 (by decide) (fun c16 => ?_) (fun c16 => ?_)
      · skip
        have h := gie c16 h
        refine lv_aload_n hx hb d_M_prism_50 rfl (lv_at hl 0 rfl) ?_
        obtain ⟨q19, e20, h⟩ := gb h
        obtain ⟨u17, e18⟩ := gsome h
        refine gw_callI e18 h (gw_runV (As := []) (rest := []) hx hb hml hown hT hK hZ hA hI (ci := 7) rfl e20 (m_M_isRound l hst D g0 a0 w u17 e18) ce_M_isRound wd_918 wd_20 ⟨by decide, by decide⟩ rfl rfl hl.1 rfl (lv_room (Nat.le_of_ble_eq_true rfl)) d_M_prism_51 ⟨(show 0 + 0 ≤ 0 by omega), (show 0 + 0 ≤ 0 by omega)⟩) hI hA hexc (show 0 + 0 ≤ 0 by omega) (show 0 + 0 ≤ 0 by omega) (fun v21 w H locs h hI => ?_)
        refine lv_istore (lv' := [(6, .int v21), (0, .ref a0), (1, .int p1), (2, .long p2), (4, .long p3)]) hx hb d_M_prism_54 hl (by decide) rfl (fun ls hl => ?_)
        refine lv_aload_n hx hb d_M_prism_56 rfl (lv_at hl 1 rfl) ?_
        obtain ⟨v22, e23, h⟩ := gb h
        refine gw_getI hx hb hT hown hK hI (ci := 7) rfl i_7 9 (by decide) wd_795 (fun _ h9 => h9) e23 d_M_prism_57 ?_
        refine lv_istore (lv' := [(7, .int v22), (6, .int v21), (0, .ref a0), (1, .int p1), (2, .long p2), (4, .long p3)]) hx hb d_M_prism_60 hl (by decide) rfl (fun ls hl => ?_)
        refine lv_aload_n hx hb d_M_prism_62 rfl (lv_at hl 2 rfl) ?_
        refine lv_iconst (v := 0) hx hb d_M_prism_63 (by decide) ?_
        obtain ⟨w, e24, h⟩ := gb h
        refine gw_put hx hb hT hown hK hI (ci := 7) rfl i_7 t_7 t_7_ok n_7 9 (by decide) wd_795 (fun _ h9 => h9) rfl (ty := .int) (by decide +kernel) rfl rfl e24 d_M_prism_64 (fun H locs hI => ?_)
        refine lv_iload hx hb d_M_prism_67 (lv_at hl 1 rfl) ?_
        refine lv_if_ne (tgt := 74) hx hb d_M_prism_69 (by decide) (fun c25 => ?_) (fun c25 => ?_)
        · skip
          have h := gie c25 h
          refine lv_aload_n hx hb d_M_prism_74 rfl (lv_at hl 2 rfl) ?_
          refine lv_iload_n hx hb d_M_prism_75 rfl (lv_at hl 3 rfl) ?_
          refine lv_iconst (v := 2) hx hb d_M_prism_76 (by decide) ?_
          obtain ⟨q28, e29, h⟩ := gb h
          obtain ⟨u26, e27⟩ := gsome h
          refine gw_callI e27 h (gw_runV (As := [.int p1, .int 2]) (rest := []) hx hb hml hown hT hK hZ hA hI (ci := 7) rfl e29 (m_M_fresh l hst D g0 a0 p1 2 w u26 e27) ce_M_fresh wd_898 wd_18 ⟨by decide, by decide⟩ rfl rfl hl.1 rfl (lv_room (Nat.le_of_ble_eq_true rfl)) d_M_prism_77 ⟨(show 0 + 0 ≤ 0 by omega), (show 0 + 0 ≤ 0 by omega)⟩) hI hA hexc (show 0 + 0 ≤ 0 by omega) (show 0 + 0 ≤ 0 by omega) (fun v30 w H locs h hI => ?_)
          refine lv_istore (lv' := [(8, .int v30), (7, .int v22), (6, .int v21), (0, .ref a0), (1, .int p1), (2, .long p2), (4, .long p3)]) hx hb d_M_prism_80 hl (by decide) rfl (fun ls hl => ?_)
          refine lv_aload_n hx hb d_M_prism_82 rfl (lv_at hl 3 rfl) ?_
          refine lv_iload hx hb d_M_prism_83 (lv_at hl 0 rfl) ?_
          refine lv_iconst (v := 2) hx hb d_M_prism_85 (by decide) ?_
          refine lv_lload_n hx hb d_M_prism_86 rfl (lv_at hl 5 rfl) ?_
          obtain ⟨q33, e34, h⟩ := gb h
          obtain ⟨u31, e32⟩ := gsome h
          refine gw_callV e32 h (gw_runV (As := [.int v30, .int 2, .long p2]) (rest := []) hx hb hml hown hT hK hZ hA hI (ci := 7) rfl e34 (m_M_tell l hst D g0 a0 v30 2 p2 w u31 e32) ce_M_tell wd_902 wd_19 ⟨by decide, by decide⟩ rfl rfl hl.1 rfl (lv_room (Nat.le_of_ble_eq_true rfl)) d_M_prism_87 ⟨(show 0 + 0 ≤ 0 by omega), (show 0 + 0 ≤ 0 by omega)⟩) hI hA hexc (show 0 + 0 ≤ 0 by omega) (show 0 + 0 ≤ 0 by omega) (fun v35 w H locs h hI => ?_)
          refine lv_aload_n hx hb d_M_prism_90 rfl (lv_at hl 3 rfl) ?_
          refine lv_iload hx hb d_M_prism_91 (lv_at hl 0 rfl) ?_
          refine lv_iconst (v := 5) hx hb d_M_prism_93 (by decide) ?_
          refine lv_lload hx hb d_M_prism_94 (lv_at hl 6 rfl) ?_
          obtain ⟨q38, e39, h⟩ := gb h
          obtain ⟨u36, e37⟩ := gsome h
          refine gw_callV e37 h (gw_runV (As := [.int v30, .int 5, .long p3]) (rest := []) hx hb hml hown hT hK hZ hA hI (ci := 7) rfl e39 (m_M_tell l hst D g0 a0 v30 5 p3 w u36 e37) ce_M_tell wd_902 wd_19 ⟨by decide, by decide⟩ rfl rfl hl.1 rfl (lv_room (Nat.le_of_ble_eq_true rfl)) d_M_prism_96 ⟨(show 0 + 0 ≤ 0 by omega), (show 0 + 0 ≤ 0 by omega)⟩) hI hA hexc (show 0 + 0 ≤ 0 by omega) (show 0 + 0 ≤ 0 by omega) (fun v40 w H locs h hI => ?_)
          refine lv_aload_n hx hb d_M_prism_99 rfl (lv_at hl 3 rfl) ?_
          obtain ⟨v41, e42, h⟩ := gb h
          refine gw_getA hx hb hT hown hK hI (ci := 7) rfl i_7 6 (by decide) wd_792 (fun _ h9 => h9) e42 d_M_prism_100 ?_
          refine lv_iload hx hb d_M_prism_103 (lv_at hl 0 rfl) ?_
          refine lv_iload hx hb d_M_prism_105 (lv_at hl 1 rfl) ?_
          obtain ⟨w, e43, h⟩ := gb h
          refine gw_astI hx hb hK hI e43 d_M_prism_107 (fun H locs hI => ?_)
          refine lv_iconst (v := 0) hx hb d_M_prism_108 (by decide) ?_
          refine lv_istore (lv' := [(9, .int 0), (8, .int v30), (7, .int v22), (6, .int v21), (0, .ref a0), (1, .int p1), (2, .long p2), (4, .long p3)]) hx hb d_M_prism_109 hl (by decide) rfl (fun ls hl => ?_)
          obtain ⟨K164, eK164, h⟩ := gj h
          have hK164 : ∀ (w : gW) (H : Heap) (locs : List Loc) (ls : Array Slot), K164 w = some r → gI D s A w H locs → lv_has ls 10 [] → W p l e rm_M_prism s m args below meth c H locs 0 0 Q (F0 m 164 ls []) := by
            intro w H locs ls h hI hl
            have h := gk1 eK164 h
            refine lv_iconst (v := 1) hx hb d_M_prism_164 (by decide) ?_
            obtain ⟨g44, h⟩ := gif h
            exact W.widen (show 0 ≤ 0 by omega) (show 0 ≤ 0 by omega) (hret g44 0 _ (Option.some.inj h).symm _ _ _ _ d_M_prism_165 hI)
          have hL111 : ∀ (n : Nat), ∀ (z45 : Int32) (w : gW) (H : Heap) (locs : List Loc) (ls : Array Slot), f_M_prism_L111 g0 a0 v22 v30 K164 n z45 w = some r → gI D s A w H locs → lv_has ls 10 [(0, .ref a0), (7, .int v22), (8, .int v30), (9, .int z45)] → W p l e rm_M_prism s m args below meth c H locs 0 0 Q (F0 m 111 ls []) := by
            intro n
            induction n with
            | zero => intro z45 w H locs ls h hI hl; exact absurd h (by simp [f_M_prism_L111])
            | succ n ih =>
              intro z45 w H locs ls h hI hl
              rw [f_M_prism_L111] at h
              refine lv_iload hx hb d_M_prism_111 (lv_at hl 3 rfl) ?_
              refine lv_iload hx hb d_M_prism_113 (lv_at hl 1 rfl) ?_
              refine lv_icmp_ge (tgt := 164) hx hb d_M_prism_115 (by decide) (fun c46 => ?_) (fun c46 => ?_)
              · skip
                have h := git c46 h
                exact hK164 w H locs ls h hI (lv_sub hl [] rfl)
              · skip
                have h := gie c46 h
                refine lv_aload_n hx hb d_M_prism_118 rfl (lv_at hl 0 rfl) ?_
                obtain ⟨v47, e48, h⟩ := gb h
                refine gw_getA hx hb hT hown hK hI (ci := 7) rfl i_7 7 (by decide) wd_793 (fun _ h9 => h9) e48 d_M_prism_119 ?_
                refine lv_bipush (v := 8) hx hb d_M_prism_122 (by decide) ?_
                refine lv_iload hx hb d_M_prism_124 (lv_at hl 2 rfl) ?_
                refine lv_imul hx hb d_M_prism_126 ?_
                refine lv_iload hx hb d_M_prism_127 (lv_at hl 3 rfl) ?_
                refine lv_iadd hx hb d_M_prism_129 ?_
                refine lv_aload_n hx hb d_M_prism_130 rfl (lv_at hl 0 rfl) ?_
                obtain ⟨v49, e50, h⟩ := gb h
                refine gw_getA hx hb hT hown hK hI (ci := 7) rfl i_7 10 (by decide) wd_796 (fun _ h9 => h9) e50 d_M_prism_131 ?_
                refine lv_iload hx hb d_M_prism_134 (lv_at hl 3 rfl) ?_
                obtain ⟨v51, e52, h⟩ := gb h
                refine gw_aldJ hx hb hK hI e52 d_M_prism_136 ?_
                obtain ⟨w, e53, h⟩ := gb h
                refine gw_astJ hx hb hK hI e53 d_M_prism_137 (fun H locs hI => ?_)
                refine lv_aload_n hx hb d_M_prism_138 rfl (lv_at hl 0 rfl) ?_
                obtain ⟨v54, e55, h⟩ := gb h
                refine gw_getA hx hb hT hown hK hI (ci := 7) rfl i_7 8 (by decide) wd_794 (fun _ h9 => h9) e55 d_M_prism_139 ?_
                refine lv_bipush (v := 8) hx hb d_M_prism_142 (by decide) ?_
                refine lv_iload hx hb d_M_prism_144 (lv_at hl 2 rfl) ?_
                refine lv_imul hx hb d_M_prism_146 ?_
                refine lv_iload hx hb d_M_prism_147 (lv_at hl 3 rfl) ?_
                refine lv_iadd hx hb d_M_prism_149 ?_
                refine lv_aload_n hx hb d_M_prism_150 rfl (lv_at hl 0 rfl) ?_
                obtain ⟨v56, e57, h⟩ := gb h
                refine gw_getA hx hb hT hown hK hI (ci := 7) rfl i_7 11 (by decide) wd_797 (fun _ h9 => h9) e57 d_M_prism_151 ?_
                refine lv_iload hx hb d_M_prism_154 (lv_at hl 3 rfl) ?_
                obtain ⟨v58, e59, h⟩ := gb h
                refine gw_aldJ hx hb hK hI e59 d_M_prism_156 ?_
                obtain ⟨w, e60, h⟩ := gb h
                refine gw_astJ hx hb hK hI e60 d_M_prism_157 (fun H locs hI => ?_)
                refine lv_iinc (v := z45 + 1) (lv' := [(9, .int (z45 + 1)), (0, .ref a0), (7, .int v22), (8, .int v30)]) hx hb d_M_prism_158 hl (k := 3) rfl rfl (by decide) rfl (fun ls hl => ?_)
                refine lv_goto (tgt := 111) hx hb d_M_prism_161 (by decide) ?_
                exact ih _ w H locs ls h hI (lv_sub hl [1, 2, 3, 0] rfl)
          exact hL111 64 _ w H locs ls h hI (lv_sub hl [4, 2, 1, 0] rfl)
        · skip
          have h := git c25 h
          refine lv_iconst (v := 0) hx hb d_M_prism_72 (by decide) ?_
          obtain ⟨g61, h⟩ := gif h
          exact W.widen (show 0 ≤ 0 by omega) (show 0 ≤ 0 by omega) (hret g61 0 _ (Option.some.inj h).symm _ _ _ _ d_M_prism_73 hI)
      · skip
        have h := git c16 h
        exact hK48 w H locs ls h hI (lv_sub hl [] rfl)
  refine lv_if_ne (tgt := 13) hx hb d_M_prism_6 (by decide) (fun c62 => ?_) (fun c62 => ?_)
  · skip
    have h := gie c62 h
    refine lv_lload_n hx hb d_M_prism_13 rfl (lv_at hl 2 rfl) ?_
    refine lv_lload hx hb d_M_prism_14 (lv_at hl 3 rfl) ?_
    obtain ⟨u63, e64⟩ := gsome h
    refine gw_callI e64 h (gw_runS (As := [.long p2, .long p3]) (rest := [.ref a0]) hx hb hml hown hT hK hZ hA hI (m_M_isUpright l hst D g0 p2 p3 w u63 e64) ce_M_isUpright wd_891 ⟨by decide, by decide⟩ rfl rfl hl.1 rfl (lv_room (Nat.le_of_ble_eq_true rfl)) d_M_prism_16 ⟨(show 0 + 0 ≤ 0 by omega), (show 0 + 0 ≤ 0 by omega)⟩) hI hA hexc (show 0 + 0 ≤ 0 by omega) (show 0 + 0 ≤ 0 by omega) (fun v65 w H locs h hI => ?_)
    refine lv_if_eq (tgt := 26) hx hb d_M_prism_19 (by decide) (fun c66 => ?_) (fun c66 => ?_)
    · skip
      have h := git c66 h
      refine lv_iconst (v := 2) hx hb d_M_prism_26 (by decide) ?_
      exact hK27 _ w H locs ls h hI (lv_sub hl [0, 1, 2, 3] rfl)
    · skip
      have h := gie c66 h
      refine lv_iconst (v := 0) hx hb d_M_prism_22 (by decide) ?_
      refine lv_goto (tgt := 27) hx hb d_M_prism_23 (by decide) ?_
      exact hK27 _ w H locs ls h hI (lv_sub hl [0, 1, 2, 3] rfl)
  · skip
    have h := git c62 h
    refine lv_iconst (v := 1) hx hb d_M_prism_9 (by decide) ?_
    refine lv_goto (tgt := 27) hx hb d_M_prism_10 (by decide) ?_
    exact hK27 _ w H locs ls h hI (lv_sub hl [0, 1, 2, 3] rfl)

abbrev b_By_addAllOf : ByteArray := prog_2_method_4_code
def y_By_addAllOf : MethodName := ⟨"BodySolids$Body", "addAllOf", "(LBodySolids$Body;)V"⟩
theorem d_By_addAllOf_0 : decode b_By_addAllOf 0 = .ok (.iconst 0, 1) := by decide +kernel
theorem d_By_addAllOf_1 : decode b_By_addAllOf 1 = .ok (.istore_n 2, 1) := by decide +kernel
theorem d_By_addAllOf_2 : decode b_By_addAllOf 2 = .ok (.iload_n 2, 1) := by decide +kernel
theorem d_By_addAllOf_3 : decode b_By_addAllOf 3 = .ok (.aload_n 1, 1) := by decide +kernel
theorem d_By_addAllOf_4 : decode b_By_addAllOf 4 = .ok (.getfield 12, 3) := by decide +kernel
theorem d_By_addAllOf_7 : decode b_By_addAllOf 7 = .ok (.invokevirtual 22, 3) := by decide +kernel
theorem d_By_addAllOf_10 : decode b_By_addAllOf 10 = .ok (.if_icmp .ge 28, 3) := by decide +kernel
theorem d_By_addAllOf_13 : decode b_By_addAllOf 13 = .ok (.aload_n 0, 1) := by decide +kernel
theorem d_By_addAllOf_14 : decode b_By_addAllOf 14 = .ok (.getfield 12, 3) := by decide +kernel
theorem d_By_addAllOf_17 : decode b_By_addAllOf 17 = .ok (.aload_n 1, 1) := by decide +kernel
theorem d_By_addAllOf_18 : decode b_By_addAllOf 18 = .ok (.getfield 12, 3) := by decide +kernel
theorem d_By_addAllOf_21 : decode b_By_addAllOf 21 = .ok (.iload_n 2, 1) := by decide +kernel
theorem d_By_addAllOf_22 : decode b_By_addAllOf 22 = .ok (.invokevirtual 30, 3) := by decide +kernel
theorem d_By_addAllOf_25 : decode b_By_addAllOf 25 = .ok (.checkcast 34, 3) := by decide +kernel
theorem d_By_addAllOf_28 : decode b_By_addAllOf 28 = .ok (.invokevirtual 26, 3) := by decide +kernel
theorem d_By_addAllOf_31 : decode b_By_addAllOf 31 = .ok (.pop, 1) := by decide +kernel
theorem d_By_addAllOf_32 : decode b_By_addAllOf 32 = .ok (.iinc 2 1, 3) := by decide +kernel
theorem d_By_addAllOf_35 : decode b_By_addAllOf 35 = .ok (.goto (-33), 3) := by decide +kernel
theorem d_By_addAllOf_38 : decode b_By_addAllOf 38 = .ok (.aload_n 0, 1) := by decide +kernel
theorem d_By_addAllOf_39 : decode b_By_addAllOf 39 = .ok (.dup, 1) := by decide +kernel
theorem d_By_addAllOf_40 : decode b_By_addAllOf 40 = .ok (.getfield 18, 3) := by decide +kernel
theorem d_By_addAllOf_43 : decode b_By_addAllOf 43 = .ok (.aload_n 1, 1) := by decide +kernel
theorem d_By_addAllOf_44 : decode b_By_addAllOf 44 = .ok (.getfield 18, 3) := by decide +kernel
theorem d_By_addAllOf_47 : decode b_By_addAllOf 47 = .ok (.ladd, 1) := by decide +kernel
theorem d_By_addAllOf_48 : decode b_By_addAllOf 48 = .ok (.putfield 18, 3) := by decide +kernel
theorem d_By_addAllOf_51 : decode b_By_addAllOf 51 = .ok (.return_, 1) := by decide +kernel
abbrev rm_By_addAllOf : Room := { frames := 7, cells := 13, slots := 832, locals := 179 }
theorem ce_By_addAllOf : gCe y_By_addAllOf (.code y_By_addAllOf b_By_addAllOf 3 none) 3 1 false := gCe.code wd_632 wd_58 wd_630 (by decide) (by decide +kernel)
def f_By_addAllOf_L2 (g0 : gG) (c0 : Nat) (c1 : Nat) (K38 : gW → gX Unit) : Nat → Int32 → gW → gX Unit
  | 0, _, _ => none
  | n + 1, z2, w => (gfA w c1 4 0).bind fun v6 => (gck w v6 1).bind fun _ => gbind (f_AL_size g0 v6 w) fun v12 w => if v12 ≤ z2 then (K38 w) else ((gfA w c0 4 0).bind fun v14 => (gfA w c1 4 0).bind fun v16 => (gck w v16 1).bind fun _ => gbind (f_AL_get g0 v16 z2 w) fun v22 w => (gck w v22 3).bind fun _ => (gck w v14 1).bind fun _ => gbind (f_AL_add g0 v14 v22 w) fun v29 w => f_By_addAllOf_L2 g0 c0 c1 K38 n (z2 + 1) w)
def f_By_addAllOf (g0 : gG) (a0 : Nat) (a1 : Nat) (w : gW) : gX Unit := gjoin (fun K38 => f_By_addAllOf_L2 g0 a0 a1 K38 13 0 w) (fun (w : gW) => (gfJ w a0 4 1).bind fun v1 => (gfJ w a1 4 1).bind fun v3 => (gp w a0 4 1 (.long (v1 + v3))).bind fun w => some (.inr (), w))
set_option maxHeartbeats 4000000 in
set_option maxRecDepth 100000 in
theorem m_By_addAllOf (l : Launch) (hst : l.stackTraces = false) (D : gD) (g0 : gG) (a0 : Nat) (a1 : Nat) (w : gW) (r : (String ⊕ Unit) × gW) (h : f_By_addAllOf g0 a0 a1 w = some r) : gMet l y_By_addAllOf (.code y_By_addAllOf b_By_addAllOf 3 none) rm_By_addAllOf D g0 [.ref a0, .ref a1] w (goV r) := by
  refine gw_ofV (by decide +kernel) (Nat.le_of_ble_eq_true rfl) ?_
  intro p e s m below meth c ls args A Q hx hb hml hown hlocks hin hnt hT hK hZ hA hret hexc hthr hI hl
  obtain ⟨H, hH⟩ : ∃ H, H = s.heap := ⟨_, rfl⟩
  rw [← hH] at hI ⊢
  obtain ⟨locs, hlocs⟩ : ∃ z : List Loc, z = [] := ⟨_, rfl⟩
  rw [← hlocs] at hI ⊢
  have hl : lv_has ls 3 [(0, .ref a0), (1, .ref a1)] := hl
  unfold f_By_addAllOf at h
  refine lv_iconst (v := 0) hx hb d_By_addAllOf_0 (by decide) ?_
  refine lv_istore_n (lv' := [(2, .int 0), (0, .ref a0), (1, .ref a1)]) hx hb d_By_addAllOf_1 rfl hl (by decide) rfl (fun ls hl => ?_)
  obtain ⟨K38, eK38, h⟩ := gj h
  have hK38 : ∀ (w : gW) (H : Heap) (locs : List Loc) (ls : Array Slot), K38 w = some r → gI D s A w H locs → lv_has ls 3 [(0, .ref a0), (1, .ref a1)] → W p l e rm_By_addAllOf s m args below meth c H locs 13 832 Q (F0 m 38 ls []) := by
    intro w H locs ls h hI hl
    have h := gk1 eK38 h
    refine lv_aload_n hx hb d_By_addAllOf_38 rfl (lv_at hl 0 rfl) ?_
    refine lv_dup hx hb d_By_addAllOf_39 rfl ?_
    obtain ⟨v1, e2, h⟩ := gb h
    refine gw_getJ hx hb hT hown hK hI (ci := 4) rfl i_4 1 (by decide) wd_239 (fun _ h9 => h9) e2 d_By_addAllOf_40 ?_
    refine lv_aload_n hx hb d_By_addAllOf_43 rfl (lv_at hl 1 rfl) ?_
    obtain ⟨v3, e4, h⟩ := gb h
    refine gw_getJ hx hb hT hown hK hI (ci := 4) rfl i_4 1 (by decide) wd_239 (fun _ h9 => h9) e4 d_By_addAllOf_44 ?_
    refine lv_ladd hx hb d_By_addAllOf_47 ?_
    obtain ⟨w, e5, h⟩ := gb h
    refine gw_put hx hb hT hown hK hI (ci := 4) rfl i_4 t_4 t_4_ok n_4 1 (by decide) wd_239 (fun _ h9 => h9) rfl (ty := .long) (by decide +kernel) rfl rfl e5 d_By_addAllOf_48 (fun H locs hI => ?_)
    exact W.widen (show 13 ≤ 13 by omega) (show 832 ≤ 832 by omega) (hret _ _ (Option.some.inj h).symm _ _ _ _ d_By_addAllOf_51 hI)
  have hL2 : ∀ (n : Nat), n ≤ 13 → ∀ (z6 : Int32) (w : gW) (H : Heap) (locs : List Loc) (ls : Array Slot), f_By_addAllOf_L2 g0 a0 a1 K38 n z6 w = some r → gI D s A w H locs → lv_has ls 3 [(0, .ref a0), (1, .ref a1), (2, .int z6)] → W p l e rm_By_addAllOf s m args below meth c H locs (13 - n * 1) (832 - n * 64) Q (F0 m 2 ls []) := by
    intro n
    induction n with
    | zero => intro hn z6 w H locs ls h hI hl; exact absurd h (by simp [f_By_addAllOf_L2])
    | succ n ih =>
      intro hn z6 w H locs ls h hI hl
      rw [f_By_addAllOf_L2] at h
      refine lv_iload_n hx hb d_By_addAllOf_2 rfl (lv_at hl 2 rfl) ?_
      refine lv_aload_n hx hb d_By_addAllOf_3 rfl (lv_at hl 1 rfl) ?_
      obtain ⟨v7, e8, h⟩ := gb h
      refine gw_getA hx hb hT hown hK hI (ci := 4) rfl i_4 0 (by decide) wd_236 (fun _ h9 => h9) e8 d_By_addAllOf_4 ?_
      obtain ⟨q11, e12, h⟩ := gb h
      obtain ⟨u9, e10⟩ := gsome h
      refine gw_callI e10 h (gw_runV (As := []) (rest := [.int z6]) hx hb hml hown hT hK hZ hA hI (ci := 1) rfl e12 (m_AL_size l hst D g0 v7 w u9 e10) ce_AL_size wd_545 wd_226 ⟨by decide, by decide⟩ rfl rfl hl.1 rfl (lv_room (Nat.le_of_ble_eq_true rfl)) d_By_addAllOf_7 ⟨(show (13 - (n + 1) * 1) + 0 ≤ 13 by omega), (show (832 - (n + 1) * 64) + 0 ≤ 832 by omega)⟩) hI hA hexc (show (13 - (n + 1) * 1) + 0 ≤ 13 by omega) (show (832 - (n + 1) * 64) + 0 ≤ 832 by omega) (fun v13 w H locs h hI => ?_)
      refine lv_icmp_ge (tgt := 38) hx hb d_By_addAllOf_10 (by decide) (fun c14 => ?_) (fun c14 => ?_)
      · skip
        have h := git c14 h
        refine W.widen (k := 13) (n := 832) (show (13 - (n + 1) * 1) ≤ 13 by omega) (show (832 - (n + 1) * 64) ≤ 832 by omega) ?_
        exact hK38 w H locs ls h hI (lv_sub hl [0, 1] rfl)
      · skip
        have h := gie c14 h
        refine lv_aload_n hx hb d_By_addAllOf_13 rfl (lv_at hl 0 rfl) ?_
        obtain ⟨v15, e16, h⟩ := gb h
        refine gw_getA hx hb hT hown hK hI (ci := 4) rfl i_4 0 (by decide) wd_236 (fun _ h9 => h9) e16 d_By_addAllOf_14 ?_
        refine lv_aload_n hx hb d_By_addAllOf_17 rfl (lv_at hl 1 rfl) ?_
        obtain ⟨v17, e18, h⟩ := gb h
        refine gw_getA hx hb hT hown hK hI (ci := 4) rfl i_4 0 (by decide) wd_236 (fun _ h9 => h9) e18 d_By_addAllOf_18 ?_
        refine lv_iload_n hx hb d_By_addAllOf_21 rfl (lv_at hl 2 rfl) ?_
        obtain ⟨q21, e22, h⟩ := gb h
        obtain ⟨u19, e20⟩ := gsome h
        refine gw_callA e20 h (gw_runV (As := [.int z6]) (rest := [.ref v15]) hx hb hml hown hT hK hZ hA hI (ci := 1) rfl e22 (m_AL_get l hst D g0 v17 z6 w u19 e20) ce_AL_get wd_633 wd_323 ⟨by decide, by decide⟩ rfl rfl hl.1 rfl (lv_room (Nat.le_of_ble_eq_true rfl)) d_By_addAllOf_22 ⟨(show (13 - (n + 1) * 1) + 0 ≤ 13 by omega), (show (832 - (n + 1) * 64) + 0 ≤ 832 by omega)⟩) hI hA hexc (show (13 - (n + 1) * 1) + 0 ≤ 13 by omega) (show (832 - (n + 1) * 64) + 0 ≤ 832 by omega) (fun v23 w H locs h hI => ?_)
        obtain ⟨q25, e24, h⟩ := gb h
        refine gw_cast hx hb hT hown hK hI wd_634 (ci := 3) rfl wd_1124 e24 d_By_addAllOf_25 ?_
        obtain ⟨q28, e29, h⟩ := gb h
        obtain ⟨u26, e27⟩ := gsome h
        refine gw_callI e27 h (gw_runV (As := [.ref v23]) (rest := []) hx hb hml hown hT hK hZ hA hI (ci := 1) rfl e29 (m_AL_add l hst D g0 v15 v23 w u26 e27) ce_AL_add wd_559 wd_252 ⟨by decide, by decide⟩ rfl rfl hl.1 rfl (lv_room (Nat.le_of_ble_eq_true rfl)) d_By_addAllOf_28 ⟨(show (13 - (n + 1) * 1) + 1 ≤ 13 by omega), (show (832 - (n + 1) * 64) + 64 ≤ 832 by omega)⟩) hI hA hexc (show (13 - (n + 1) * 1) + 1 ≤ 13 by omega) (show (832 - (n + 1) * 64) + 64 ≤ 832 by omega) (fun v30 w H locs h hI => ?_)
        refine W.widen (k := ((13 - (n + 1) * 1) + 1)) (n := ((832 - (n + 1) * 64) + 64)) (show (13 - (n + 1) * 1) + 1 ≤ ((13 - (n + 1) * 1) + 1) by omega) (show (832 - (n + 1) * 64) + 64 ≤ ((832 - (n + 1) * 64) + 64) by omega) ?_
        refine lv_pop hx hb d_By_addAllOf_31 rfl ?_
        refine lv_iinc (v := z6 + 1) (lv' := [(2, .int (z6 + 1)), (0, .ref a0), (1, .ref a1)]) hx hb d_By_addAllOf_32 hl (k := 2) rfl rfl (by decide) rfl (fun ls hl => ?_)
        refine lv_goto (tgt := 2) hx hb d_By_addAllOf_35 (by decide) ?_
        refine W.widen (k := (13 - n * 1)) (n := (832 - n * 64)) (show ((13 - (n + 1) * 1) + 1) ≤ (13 - n * 1) by omega) (show ((832 - (n + 1) * 64) + 64) ≤ (832 - n * 64) by omega) ?_
        exact ih (by omega) _ w H locs ls h hI (lv_sub hl [1, 2, 0] rfl)
  refine W.widen (k := (13 - 13 * 1)) (n := (832 - 13 * 64)) (show 0 ≤ (13 - 13 * 1) by omega) (show 0 ≤ (832 - 13 * 64) by omega) ?_
  exact hL2 13 (Nat.le_refl _) _ w H locs ls h hI (lv_sub hl [1, 2, 0] rfl)

abbrev b_B_join : ByteArray := prog_1_method_8_code
def y_B_join : MethodName := ⟨"BodySolids", "join", "(II)I"⟩
theorem d_B_join_0 : decode b_B_join 0 = .ok (.aload_n 0, 1) := by decide +kernel
theorem d_B_join_1 : decode b_B_join 1 = .ok (.iload_n 1, 1) := by decide +kernel
theorem d_B_join_2 : decode b_B_join 2 = .ok (.invokevirtual 79, 3) := by decide +kernel
theorem d_B_join_5 : decode b_B_join 5 = .ok (.astore_n 3, 1) := by decide +kernel
theorem d_B_join_6 : decode b_B_join 6 = .ok (.aload_n 0, 1) := by decide +kernel
theorem d_B_join_7 : decode b_B_join 7 = .ok (.iload_n 2, 1) := by decide +kernel
theorem d_B_join_8 : decode b_B_join 8 = .ok (.invokevirtual 79, 3) := by decide +kernel
theorem d_B_join_11 : decode b_B_join 11 = .ok (.astore 4, 2) := by decide +kernel
theorem d_B_join_13 : decode b_B_join 13 = .ok (.aload_n 0, 1) := by decide +kernel
theorem d_B_join_14 : decode b_B_join 14 = .ok (.getfield 27, 3) := by decide +kernel
theorem d_B_join_17 : decode b_B_join 17 = .ok (.invokevirtual 68, 3) := by decide +kernel
theorem d_B_join_20 : decode b_B_join 20 = .ok (.bipush 30, 2) := by decide +kernel
theorem d_B_join_22 : decode b_B_join 22 = .ok (.if_icmp .ge 24, 3) := by decide +kernel
theorem d_B_join_25 : decode b_B_join 25 = .ok (.aload_n 3, 1) := by decide +kernel
theorem d_B_join_26 : decode b_B_join 26 = .ok (.getfield 154, 3) := by decide +kernel
theorem d_B_join_29 : decode b_B_join 29 = .ok (.invokevirtual 68, 3) := by decide +kernel
theorem d_B_join_32 : decode b_B_join 32 = .ok (.aload 4, 2) := by decide +kernel
theorem d_B_join_34 : decode b_B_join 34 = .ok (.getfield 154, 3) := by decide +kernel
theorem d_B_join_37 : decode b_B_join 37 = .ok (.invokevirtual 68, 3) := by decide +kernel
theorem d_B_join_40 : decode b_B_join 40 = .ok (.iadd, 1) := by decide +kernel
theorem d_B_join_41 : decode b_B_join 41 = .ok (.bipush 12, 2) := by decide +kernel
theorem d_B_join_43 : decode b_B_join 43 = .ok (.if_icmp .le 5, 3) := by decide +kernel
theorem d_B_join_46 : decode b_B_join 46 = .ok (.iconst (-1), 1) := by decide +kernel
theorem d_B_join_47 : decode b_B_join 47 = .ok (.ireturn, 1) := by decide +kernel
theorem d_B_join_48 : decode b_B_join 48 = .ok (.new 72, 3) := by decide +kernel
theorem d_B_join_51 : decode b_B_join 51 = .ok (.dup, 1) := by decide +kernel
theorem d_B_join_52 : decode b_B_join 52 = .ok (.invokespecial 74, 3) := by decide +kernel
theorem d_B_join_55 : decode b_B_join 55 = .ok (.astore 5, 2) := by decide +kernel
theorem d_B_join_57 : decode b_B_join 57 = .ok (.aload 5, 2) := by decide +kernel
theorem d_B_join_59 : decode b_B_join 59 = .ok (.aload_n 3, 1) := by decide +kernel
theorem d_B_join_60 : decode b_B_join 60 = .ok (.invokevirtual 157, 3) := by decide +kernel
theorem d_B_join_63 : decode b_B_join 63 = .ok (.aload 5, 2) := by decide +kernel
theorem d_B_join_65 : decode b_B_join 65 = .ok (.aload 4, 2) := by decide +kernel
theorem d_B_join_67 : decode b_B_join 67 = .ok (.invokevirtual 157, 3) := by decide +kernel
theorem d_B_join_70 : decode b_B_join 70 = .ok (.aload_n 0, 1) := by decide +kernel
theorem d_B_join_71 : decode b_B_join 71 = .ok (.aload 5, 2) := by decide +kernel
theorem d_B_join_73 : decode b_B_join 73 = .ok (.invokevirtual 75, 3) := by decide +kernel
theorem d_B_join_76 : decode b_B_join 76 = .ok (.ireturn, 1) := by decide +kernel
abbrev rm_B_join : Room := { frames := 9, cells := 31, slots := 1745, locals := 201 }
theorem ce_B_join : gCe y_B_join (.code y_B_join b_B_join 6 (some .int)) 6 2 false := gCe.code wd_628 wd_49 wd_626 (by decide) (by decide +kernel)
def f_B_join (g0 : gG) (a0 : Nat) (p1 : Int32) (p2 : Int32) (w : gW) : gX Int32 := (gck w a0 0).bind fun _ => gbind (f_B_bodyAt g0 a0 p1 w) fun v5 w => (gck w a0 0).bind fun _ => gbind (f_B_bodyAt g0 a0 p2 w) fun v10 w => (gfA w a0 0 1).bind fun v11 => (gck w v11 1).bind fun _ => gbind (f_AL_size g0 v11 w) fun v17 w => gjoin (fun K46 => if 30 ≤ v17 then (K46 w) else ((gfA w v5 4 0).bind fun v19 => (gck w v19 1).bind fun _ => gbind (f_AL_size g0 v19 w) fun v25 w => (gfA w v10 4 0).bind fun v26 => (gck w v26 1).bind fun _ => gbind (f_AL_size g0 v26 w) fun v32 w => if (v25 + v32) ≤ 12 then (gb2f (gnw w 4 [.null, .long 0]) fun o34 w => gbind (f_By_init g0 o34 w) fun v38 w => (gck w o34 4).bind fun _ => gbind (f_By_addAllOf g0 o34 v5 w) fun v43 w => (gck w o34 4).bind fun _ => gbind (f_By_addAllOf g0 o34 v10 w) fun v48 w => (gck w a0 0).bind fun _ => gbind (f_B_addBody g0 a0 o34 w) fun v53 w => some (.inr v53, w)) else (K46 w))) (fun (w : gW) => some (.inr (-1), w))
set_option maxHeartbeats 4000000 in
set_option maxRecDepth 100000 in
theorem m_B_join (l : Launch) (hst : l.stackTraces = false) (D : gD) (g0 : gG) (a0 : Nat) (p1 : Int32) (p2 : Int32) (w : gW) (r : (String ⊕ Int32) × gW) (h : f_B_join g0 a0 p1 p2 w = some r) : gMet l y_B_join (.code y_B_join b_B_join 6 (some .int)) rm_B_join D g0 [.ref a0, .int p1, .int p2] w (goI r) := by
  refine gw_ofI (by decide +kernel) (Nat.le_of_ble_eq_true rfl) ?_
  intro p e s m below meth c ls args A Q hx hb hml hown hlocks hin hnt hT hK hZ hA hret hexc hthr hI hl
  obtain ⟨H, hH⟩ : ∃ H, H = s.heap := ⟨_, rfl⟩
  rw [← hH] at hI ⊢
  obtain ⟨locs, hlocs⟩ : ∃ z : List Loc, z = [] := ⟨_, rfl⟩
  rw [← hlocs] at hI ⊢
  have hl : lv_has ls 6 [(0, .ref a0), (1, .int p1), (2, .int p2)] := hl
  unfold f_B_join at h
  refine lv_aload_n hx hb d_B_join_0 rfl (lv_at hl 0 rfl) ?_
  refine lv_iload_n hx hb d_B_join_1 rfl (lv_at hl 1 rfl) ?_
  obtain ⟨q3, e4, h⟩ := gb h
  obtain ⟨u1, e2⟩ := gsome h
  refine gw_callA e2 h (gw_runV (As := [.int p1]) (rest := []) hx hb hml hown hT hK hZ hA hI (ci := 0) rfl e4 (m_B_bodyAt l hst D g0 a0 p1 w u1 e2) ce_B_bodyAt wd_436 wd_7 ⟨by decide, by decide⟩ rfl rfl hl.1 rfl (lv_room (Nat.le_of_ble_eq_true rfl)) d_B_join_2 ⟨(show 0 + 1 ≤ 31 by omega), (show 0 + 6 ≤ 1745 by omega)⟩) hI hA hexc (show 0 + 1 ≤ 31 by omega) (show 0 + 6 ≤ 1745 by omega) (fun v5 w H locs h hI => ?_)
  refine W.widen (k := 1) (n := 6) (show 0 + 1 ≤ 1 by omega) (show 0 + 6 ≤ 6 by omega) ?_
  refine lv_astore_n (lv' := [(3, .ref v5), (0, .ref a0), (1, .int p1), (2, .int p2)]) hx hb d_B_join_5 rfl hl (by decide) rfl (fun ls hl => ?_)
  refine lv_aload_n hx hb d_B_join_6 rfl (lv_at hl 1 rfl) ?_
  refine lv_iload_n hx hb d_B_join_7 rfl (lv_at hl 3 rfl) ?_
  obtain ⟨q8, e9, h⟩ := gb h
  obtain ⟨u6, e7⟩ := gsome h
  refine gw_callA e7 h (gw_runV (As := [.int p2]) (rest := []) hx hb hml hown hT hK hZ hA hI (ci := 0) rfl e9 (m_B_bodyAt l hst D g0 a0 p2 w u6 e7) ce_B_bodyAt wd_436 wd_7 ⟨by decide, by decide⟩ rfl rfl hl.1 rfl (lv_room (Nat.le_of_ble_eq_true rfl)) d_B_join_8 ⟨(show 1 + 1 ≤ 31 by omega), (show 6 + 6 ≤ 1745 by omega)⟩) hI hA hexc (show 1 + 1 ≤ 31 by omega) (show 6 + 6 ≤ 1745 by omega) (fun v10 w H locs h hI => ?_)
  refine W.widen (k := 2) (n := 12) (show 1 + 1 ≤ 2 by omega) (show 6 + 6 ≤ 12 by omega) ?_
  refine lv_astore (lv' := [(4, .ref v10), (3, .ref v5), (0, .ref a0), (1, .int p1), (2, .int p2)]) hx hb d_B_join_11 hl (by decide) rfl (fun ls hl => ?_)
  refine lv_aload_n hx hb d_B_join_13 rfl (lv_at hl 2 rfl) ?_
  obtain ⟨v11, e12, h⟩ := gb h
  refine gw_getA hx hb hT hown hK hI (ci := 0) rfl i_0 1 (by decide) wd_190 (fun _ h9 => h9) e12 d_B_join_14 ?_
  obtain ⟨q15, e16, h⟩ := gb h
  obtain ⟨u13, e14⟩ := gsome h
  refine gw_callI e14 h (gw_runV (As := []) (rest := []) hx hb hml hown hT hK hZ hA hI (ci := 1) rfl e16 (m_AL_size l hst D g0 v11 w u13 e14) ce_AL_size wd_224 wd_226 ⟨by decide, by decide⟩ rfl rfl hl.1 rfl (lv_room (Nat.le_of_ble_eq_true rfl)) d_B_join_17 ⟨(show 2 + 0 ≤ 31 by omega), (show 12 + 0 ≤ 1745 by omega)⟩) hI hA hexc (show 2 + 0 ≤ 31 by omega) (show 12 + 0 ≤ 1745 by omega) (fun v17 w H locs h hI => ?_)
  refine lv_bipush (v := 30) hx hb d_B_join_20 (by decide) ?_
  obtain ⟨K46, eK46, h⟩ := gj h
  have hK46 : ∀ (w : gW) (H : Heap) (locs : List Loc) (ls : Array Slot), K46 w = some r → gI D s A w H locs → lv_has ls 6 [] → W p l e rm_B_join s m args below meth c H locs 2 12 Q (F0 m 46 ls []) := by
    intro w H locs ls h hI hl
    have h := gk1 eK46 h
    refine lv_iconst (v := -1) hx hb d_B_join_46 (by decide) ?_
    exact W.widen (show 2 ≤ 31 by omega) (show 12 ≤ 1745 by omega) (hret _ _ (Option.some.inj h).symm _ _ _ _ d_B_join_47 hI)
  refine lv_icmp_ge (tgt := 46) hx hb d_B_join_22 (by decide) (fun c18 => ?_) (fun c18 => ?_)
  · skip
    have h := git c18 h
    exact hK46 w H locs ls h hI (lv_sub hl [] rfl)
  · skip
    have h := gie c18 h
    refine lv_aload_n hx hb d_B_join_25 rfl (lv_at hl 1 rfl) ?_
    obtain ⟨v19, e20, h⟩ := gb h
    refine gw_getA hx hb hT hown hK hI (ci := 4) rfl i_4 0 (by decide) wd_238 (fun _ h9 => h9) e20 d_B_join_26 ?_
    obtain ⟨q23, e24, h⟩ := gb h
    obtain ⟨u21, e22⟩ := gsome h
    refine gw_callI e22 h (gw_runV (As := []) (rest := []) hx hb hml hown hT hK hZ hA hI (ci := 1) rfl e24 (m_AL_size l hst D g0 v19 w u21 e22) ce_AL_size wd_224 wd_226 ⟨by decide, by decide⟩ rfl rfl hl.1 rfl (lv_room (Nat.le_of_ble_eq_true rfl)) d_B_join_29 ⟨(show 2 + 0 ≤ 31 by omega), (show 12 + 0 ≤ 1745 by omega)⟩) hI hA hexc (show 2 + 0 ≤ 31 by omega) (show 12 + 0 ≤ 1745 by omega) (fun v25 w H locs h hI => ?_)
    refine lv_aload hx hb d_B_join_32 (lv_at hl 0 rfl) ?_
    obtain ⟨v26, e27, h⟩ := gb h
    refine gw_getA hx hb hT hown hK hI (ci := 4) rfl i_4 0 (by decide) wd_238 (fun _ h9 => h9) e27 d_B_join_34 ?_
    obtain ⟨q30, e31, h⟩ := gb h
    obtain ⟨u28, e29⟩ := gsome h
    refine gw_callI e29 h (gw_runV (As := []) (rest := [.int v25]) hx hb hml hown hT hK hZ hA hI (ci := 1) rfl e31 (m_AL_size l hst D g0 v26 w u28 e29) ce_AL_size wd_224 wd_226 ⟨by decide, by decide⟩ rfl rfl hl.1 rfl (lv_room (Nat.le_of_ble_eq_true rfl)) d_B_join_37 ⟨(show 2 + 0 ≤ 31 by omega), (show 12 + 0 ≤ 1745 by omega)⟩) hI hA hexc (show 2 + 0 ≤ 31 by omega) (show 12 + 0 ≤ 1745 by omega) (fun v32 w H locs h hI => ?_)
    refine lv_iadd hx hb d_B_join_40 ?_
    refine lv_bipush (v := 12) hx hb d_B_join_41 (by decide) ?_
    refine lv_icmp_le (tgt := 48) hx hb d_B_join_43 (by decide) (fun c33 => ?_) (fun c33 => ?_)
    · skip
      have h := git c33 h
      obtain ⟨o34, w, e35, h⟩ := gb2 h
      refine gw_new hx hb hT hown hK hI hA (ci := 4) rfl i_4 t_4 t_4_ok wd_228 wd_229 wd_58 (fs := [.null, .long 0]) df_4 e35 (show 2 + 1 ≤ 31 by omega) (show 12 + 2 ≤ 1745 by omega) d_B_join_48 (fun H hI => ?_)
      refine W.widen (k := 3) (n := 14) (show 2 + 1 ≤ 3 by omega) (show 12 + 2 ≤ 14 by omega) ?_
      refine lv_dup hx hb d_B_join_51 rfl ?_
      obtain ⟨u36, e37⟩ := gsome h
      refine gw_callV e37 h (gw_runIN (As := []) (rest := [.ref o34]) hx hb hml hown hT hK hZ hA hI (m_By_init l hst D g0 o34 w u36 e37) ce_By_init wd_230 rfl ⟨by decide, by decide⟩ rfl rfl hl.1 rfl (lv_room (Nat.le_of_ble_eq_true rfl)) d_B_join_52 ⟨(show 3 + 1 ≤ 31 by omega), (show 14 + 3 ≤ 1745 by omega)⟩) hI hA hexc (show 3 + 1 ≤ 31 by omega) (show 14 + 3 ≤ 1745 by omega) (fun v38 w H locs h hI => ?_)
      refine W.widen (k := 4) (n := 17) (show 3 + 1 ≤ 4 by omega) (show 14 + 3 ≤ 17 by omega) ?_
      refine lv_astore (lv' := [(5, .ref o34), (4, .ref v10), (3, .ref v5), (0, .ref a0), (1, .int p1), (2, .int p2)]) hx hb d_B_join_55 hl (by decide) rfl (fun ls hl => ?_)
      refine lv_aload hx hb d_B_join_57 (lv_at hl 0 rfl) ?_
      refine lv_aload_n hx hb d_B_join_59 rfl (lv_at hl 2 rfl) ?_
      obtain ⟨q41, e42, h⟩ := gb h
      obtain ⟨u39, e40⟩ := gsome h
      refine gw_callV e40 h (gw_runV (As := [.ref v5]) (rest := []) hx hb hml hown hT hK hZ hA hI (ci := 4) rfl e42 (m_By_addAllOf l hst D g0 o34 v5 w u39 e40) ce_By_addAllOf wd_629 wd_631 ⟨by decide, by decide⟩ rfl rfl hl.1 rfl (lv_room (Nat.le_of_ble_eq_true rfl)) d_B_join_60 ⟨(show 4 + 13 ≤ 31 by omega), (show 17 + 832 ≤ 1745 by omega)⟩) hI hA hexc (show 4 + 13 ≤ 31 by omega) (show 17 + 832 ≤ 1745 by omega) (fun v43 w H locs h hI => ?_)
      refine W.widen (k := 17) (n := 849) (show 4 + 13 ≤ 17 by omega) (show 17 + 832 ≤ 849 by omega) ?_
      refine lv_aload hx hb d_B_join_63 (lv_at hl 0 rfl) ?_
      refine lv_aload hx hb d_B_join_65 (lv_at hl 1 rfl) ?_
      obtain ⟨q46, e47, h⟩ := gb h
      obtain ⟨u44, e45⟩ := gsome h
      refine gw_callV e45 h (gw_runV (As := [.ref v10]) (rest := []) hx hb hml hown hT hK hZ hA hI (ci := 4) rfl e47 (m_By_addAllOf l hst D g0 o34 v10 w u44 e45) ce_By_addAllOf wd_629 wd_631 ⟨by decide, by decide⟩ rfl rfl hl.1 rfl (lv_room (Nat.le_of_ble_eq_true rfl)) d_B_join_67 ⟨(show 17 + 13 ≤ 31 by omega), (show 849 + 832 ≤ 1745 by omega)⟩) hI hA hexc (show 17 + 13 ≤ 31 by omega) (show 849 + 832 ≤ 1745 by omega) (fun v48 w H locs h hI => ?_)
      refine W.widen (k := 30) (n := 1681) (show 17 + 13 ≤ 30 by omega) (show 849 + 832 ≤ 1681 by omega) ?_
      refine lv_aload_n hx hb d_B_join_70 rfl (lv_at hl 3 rfl) ?_
      refine lv_aload hx hb d_B_join_71 (lv_at hl 0 rfl) ?_
      obtain ⟨q51, e52, h⟩ := gb h
      obtain ⟨u49, e50⟩ := gsome h
      refine gw_callI e50 h (gw_runV (As := [.ref o34]) (rest := []) hx hb hml hown hT hK hZ hA hI (ci := 0) rfl e52 (m_B_addBody l hst D g0 a0 o34 w u49 e50) ce_B_addBody wd_246 wd_0 ⟨by decide, by decide⟩ rfl rfl hl.1 rfl (lv_room (Nat.le_of_ble_eq_true rfl)) d_B_join_73 ⟨(show 30 + 1 ≤ 31 by omega), (show 1681 + 64 ≤ 1745 by omega)⟩) hI hA hexc (show 30 + 1 ≤ 31 by omega) (show 1681 + 64 ≤ 1745 by omega) (fun v53 w H locs h hI => ?_)
      refine W.widen (k := 31) (n := 1745) (show 30 + 1 ≤ 31 by omega) (show 1681 + 64 ≤ 1745 by omega) ?_
      exact W.widen (show 31 ≤ 31 by omega) (show 1745 ≤ 1745 by omega) (hret _ _ (Option.some.inj h).symm _ _ _ _ d_B_join_76 hI)
    · skip
      have h := gie c33 h
      exact hK46 w H locs ls h hI (lv_sub hl [] rfl)
