abbrev b_AL_add : ByteArray := prog_24_method_25_code
def y_AL_add : MethodName := ⟨"java/util/ArrayList", "add", "(Ljava/lang/Object;)Z"⟩
theorem d_AL_add_0 : decode b_AL_add 0 = .ok (.aload_n 0, 1) := by decide +kernel
theorem d_AL_add_1 : decode b_AL_add 1 = .ok (.dup, 1) := by decide +kernel
theorem d_AL_add_2 : decode b_AL_add 2 = .ok (.getfield 63, 3) := by decide +kernel
theorem d_AL_add_5 : decode b_AL_add 5 = .ok (.iconst 1, 1) := by decide +kernel
theorem d_AL_add_6 : decode b_AL_add 6 = .ok (.iadd, 1) := by decide +kernel
theorem d_AL_add_7 : decode b_AL_add 7 = .ok (.putfield 63, 3) := by decide +kernel
theorem d_AL_add_10 : decode b_AL_add 10 = .ok (.aload_n 0, 1) := by decide +kernel
theorem d_AL_add_11 : decode b_AL_add 11 = .ok (.aload_n 1, 1) := by decide +kernel
theorem d_AL_add_12 : decode b_AL_add 12 = .ok (.aload_n 0, 1) := by decide +kernel
theorem d_AL_add_13 : decode b_AL_add 13 = .ok (.getfield 9, 3) := by decide +kernel
theorem d_AL_add_16 : decode b_AL_add 16 = .ok (.aload_n 0, 1) := by decide +kernel
theorem d_AL_add_17 : decode b_AL_add 17 = .ok (.getfield 48, 3) := by decide +kernel
theorem d_AL_add_20 : decode b_AL_add 20 = .ok (.invokevirtual 131, 3) := by decide +kernel
theorem d_AL_add_23 : decode b_AL_add 23 = .ok (.iconst 1, 1) := by decide +kernel
theorem d_AL_add_24 : decode b_AL_add 24 = .ok (.ireturn, 1) := by decide +kernel
abbrev rm_AL_add : Room := { frames := 6, cells := 1, slots := 64, locals := 158 }
theorem ce_AL_add : gCe y_AL_add (.code y_AL_add b_AL_add 2 (some .boolean)) 2 1 false := gCe.code wd_253 wd_53 wd_251 (by decide) (by decide +kernel)
def f_AL_add (g0 : gG) (a0 : Nat) (a1 : Nat) (w : gW) : gX Int32 := (gfI w a0 1 2).bind fun v1 => (gp w a0 1 2 (.int (v1 + 1))).bind fun w => (gfA w a0 1 0).bind fun v4 => (gfI w a0 1 1).bind fun v6 => (gck w a0 1).bind fun _ => gbind (f_AL_add2 g0 a0 a1 v4 v6 w) fun v12 w => gguard ((1 : Int32) = 0 ∨ (1 : Int32) = 1) (some (.inr 1, w))
set_option maxHeartbeats 4000000 in
set_option maxRecDepth 100000 in
theorem m_AL_add (l : Launch) (hst : l.stackTraces = false) (D : gD) (g0 : gG) (a0 : Nat) (a1 : Nat) (w : gW) (r : (String ⊕ Int32) × gW) (h : f_AL_add g0 a0 a1 w = some r) : gMet l y_AL_add (.code y_AL_add b_AL_add 2 (some .boolean)) rm_AL_add D g0 [.ref a0, .ref a1] w (goI r) := by
  refine gw_ofZ (by decide +kernel) (Nat.le_of_ble_eq_true rfl) ?_
  intro p e s m below meth c ls args A Q hx hb hml hown hlocks hin hnt hT hK hZ hA hret hexc hthr hI hl
  obtain ⟨H, hH⟩ : ∃ H, H = s.heap := ⟨_, rfl⟩
  rw [← hH] at hI ⊢
  obtain ⟨locs, hlocs⟩ : ∃ z : List Loc, z = [] := ⟨_, rfl⟩
  rw [← hlocs] at hI ⊢
  have hl : lv_has ls 2 [(0, .ref a0), (1, .ref a1)] := hl
  unfold f_AL_add at h
  refine lv_aload_n hx hb d_AL_add_0 rfl (lv_at hl 0 rfl) ?_
  refine lv_dup hx hb d_AL_add_1 rfl ?_
  obtain ⟨v1, e2, h⟩ := gb h
  refine gw_getI hx hb hT hown hK hI (ci := 1) rfl i_1 2 (by decide) wd_104 (u_same (hT _ wd_105 args)) e2 d_AL_add_2 ?_
  refine lv_iconst (v := 1) hx hb d_AL_add_5 (by decide) ?_
  refine lv_iadd hx hb d_AL_add_6 ?_
  obtain ⟨w, e3, h⟩ := gb h
  refine gw_put hx hb hT hown hK hI (ci := 1) rfl i_1 t_1 t_1_ok n_1 2 (by decide) wd_104 (u_same (hT _ wd_105 args)) rfl (ty := .int) (by decide +kernel) rfl rfl e3 d_AL_add_7 (fun H locs hI => ?_)
  refine lv_aload_n hx hb d_AL_add_10 rfl (lv_at hl 0 rfl) ?_
  refine lv_aload_n hx hb d_AL_add_11 rfl (lv_at hl 1 rfl) ?_
  refine lv_aload_n hx hb d_AL_add_12 rfl (lv_at hl 0 rfl) ?_
  obtain ⟨v4, e5, h⟩ := gb h
  refine gw_getA hx hb hT hown hK hI (ci := 1) rfl i_1 0 (by decide) wd_101 (fun _ h9 => h9) e5 d_AL_add_13 ?_
  refine lv_aload_n hx hb d_AL_add_16 rfl (lv_at hl 0 rfl) ?_
  obtain ⟨v6, e7, h⟩ := gb h
  refine gw_getI hx hb hT hown hK hI (ci := 1) rfl i_1 1 (by decide) wd_102 (fun _ h9 => h9) e7 d_AL_add_17 ?_
  obtain ⟨q10, e11, h⟩ := gb h
  obtain ⟨u8, e9⟩ := gsome h
  refine gw_callV e9 h (gw_runV (As := [.ref a1, .ref v4, .int v6]) (rest := []) hx hb hml hown hT hK hZ hA hI (ci := 1) rfl e11 (m_AL_add2 l hst D g0 a0 a1 v4 v6 w u8 e9) ce_AL_add2 wd_254 wd_1 ⟨by decide, by decide⟩ rfl rfl hl.1 rfl (lv_room (Nat.le_of_ble_eq_true rfl)) d_AL_add_20 ⟨(show 0 + 1 ≤ 1 by omega), (show 0 + 64 ≤ 64 by omega)⟩) hI hA hexc (show 0 + 1 ≤ 1 by omega) (show 0 + 64 ≤ 64 by omega) (fun v12 w H locs h hI => ?_)
  refine W.widen (k := 1) (n := 64) (show 0 + 1 ≤ 1 by omega) (show 0 + 64 ≤ 64 by omega) ?_
  refine lv_iconst (v := 1) hx hb d_AL_add_23 (by decide) ?_
  obtain ⟨g13, h⟩ := gif h
  exact W.widen (show 1 ≤ 1 by omega) (show 64 ≤ 64 by omega) (hret g13 0 _ (Option.some.inj h).symm _ _ _ _ d_AL_add_24 hI)

abbrev b_B_addBody : ByteArray := prog_1_method_27_code
def y_B_addBody : MethodName := ⟨"BodySolids", "addBody", "(LBodySolids$Body;)I"⟩
theorem d_B_addBody_0 : decode b_B_addBody 0 = .ok (.aload_n 0, 1) := by decide +kernel
theorem d_B_addBody_1 : decode b_B_addBody 1 = .ok (.getfield 27, 3) := by decide +kernel
theorem d_B_addBody_4 : decode b_B_addBody 4 = .ok (.aload_n 1, 1) := by decide +kernel
theorem d_B_addBody_5 : decode b_B_addBody 5 = .ok (.invokevirtual 171, 3) := by decide +kernel
theorem d_B_addBody_8 : decode b_B_addBody 8 = .ok (.pop, 1) := by decide +kernel
theorem d_B_addBody_9 : decode b_B_addBody 9 = .ok (.aload_n 0, 1) := by decide +kernel
theorem d_B_addBody_10 : decode b_B_addBody 10 = .ok (.getfield 27, 3) := by decide +kernel
theorem d_B_addBody_13 : decode b_B_addBody 13 = .ok (.invokevirtual 68, 3) := by decide +kernel
theorem d_B_addBody_16 : decode b_B_addBody 16 = .ok (.iconst 1, 1) := by decide +kernel
theorem d_B_addBody_17 : decode b_B_addBody 17 = .ok (.isub, 1) := by decide +kernel
theorem d_B_addBody_18 : decode b_B_addBody 18 = .ok (.ireturn, 1) := by decide +kernel
abbrev rm_B_addBody : Room := { frames := 7, cells := 1, slots := 64, locals := 179 }
theorem ce_B_addBody : gCe y_B_addBody (.code y_B_addBody b_B_addBody 2 (some .int)) 2 1 false := gCe.code wd_249 wd_49 wd_248 (by decide) (by decide +kernel)
def f_B_addBody (g0 : gG) (a0 : Nat) (a1 : Nat) (w : gW) : gX Int32 := (gfA w a0 0 1).bind fun v1 => (gck w v1 1).bind fun _ => gbind (f_AL_add g0 v1 a1 w) fun v7 w => (gfA w a0 0 1).bind fun v8 => (gck w v8 1).bind fun _ => gbind (f_AL_size g0 v8 w) fun v14 w => some (.inr (v14 - 1), w)
set_option maxHeartbeats 4000000 in
set_option maxRecDepth 100000 in
theorem m_B_addBody (l : Launch) (hst : l.stackTraces = false) (D : gD) (g0 : gG) (a0 : Nat) (a1 : Nat) (w : gW) (r : (String ⊕ Int32) × gW) (h : f_B_addBody g0 a0 a1 w = some r) : gMet l y_B_addBody (.code y_B_addBody b_B_addBody 2 (some .int)) rm_B_addBody D g0 [.ref a0, .ref a1] w (goI r) := by
  refine gw_ofI (by decide +kernel) (Nat.le_of_ble_eq_true rfl) ?_
  intro p e s m below meth c ls args A Q hx hb hml hown hlocks hin hnt hT hK hZ hA hret hexc hthr hI hl
  obtain ⟨H, hH⟩ : ∃ H, H = s.heap := ⟨_, rfl⟩
  rw [← hH] at hI ⊢
  obtain ⟨locs, hlocs⟩ : ∃ z : List Loc, z = [] := ⟨_, rfl⟩
  rw [← hlocs] at hI ⊢
  have hl : lv_has ls 2 [(0, .ref a0), (1, .ref a1)] := hl
  unfold f_B_addBody at h
  refine lv_aload_n hx hb d_B_addBody_0 rfl (lv_at hl 0 rfl) ?_
  obtain ⟨v1, e2, h⟩ := gb h
  refine gw_getA hx hb hT hown hK hI (ci := 0) rfl i_0 1 (by decide) wd_190 (fun _ h9 => h9) e2 d_B_addBody_1 ?_
  refine lv_aload_n hx hb d_B_addBody_4 rfl (lv_at hl 1 rfl) ?_
  obtain ⟨q5, e6, h⟩ := gb h
  obtain ⟨u3, e4⟩ := gsome h
  refine gw_callI e4 h (gw_runV (As := [.ref a1]) (rest := []) hx hb hml hown hT hK hZ hA hI (ci := 1) rfl e6 (m_AL_add l hst D g0 v1 a1 w u3 e4) ce_AL_add wd_250 wd_252 ⟨by decide, by decide⟩ rfl rfl hl.1 rfl (lv_room (Nat.le_of_ble_eq_true rfl)) d_B_addBody_5 ⟨(show 0 + 1 ≤ 1 by omega), (show 0 + 64 ≤ 64 by omega)⟩) hI hA hexc (show 0 + 1 ≤ 1 by omega) (show 0 + 64 ≤ 64 by omega) (fun v7 w H locs h hI => ?_)
  refine W.widen (k := 1) (n := 64) (show 0 + 1 ≤ 1 by omega) (show 0 + 64 ≤ 64 by omega) ?_
  refine lv_pop hx hb d_B_addBody_8 rfl ?_
  refine lv_aload_n hx hb d_B_addBody_9 rfl (lv_at hl 0 rfl) ?_
  obtain ⟨v8, e9, h⟩ := gb h
  refine gw_getA hx hb hT hown hK hI (ci := 0) rfl i_0 1 (by decide) wd_190 (fun _ h9 => h9) e9 d_B_addBody_10 ?_
  obtain ⟨q12, e13, h⟩ := gb h
  obtain ⟨u10, e11⟩ := gsome h
  refine gw_callI e11 h (gw_runV (As := []) (rest := []) hx hb hml hown hT hK hZ hA hI (ci := 1) rfl e13 (m_AL_size l hst D g0 v8 w u10 e11) ce_AL_size wd_224 wd_226 ⟨by decide, by decide⟩ rfl rfl hl.1 rfl (lv_room (Nat.le_of_ble_eq_true rfl)) d_B_addBody_13 ⟨(show 1 + 0 ≤ 1 by omega), (show 64 + 0 ≤ 64 by omega)⟩) hI hA hexc (show 1 + 0 ≤ 1 by omega) (show 64 + 0 ≤ 64 by omega) (fun v14 w H locs h hI => ?_)
  refine lv_iconst (v := 1) hx hb d_B_addBody_16 (by decide) ?_
  refine lv_isub hx hb d_B_addBody_17 ?_
  exact W.widen (show 1 ≤ 1 by omega) (show 64 ≤ 64 by omega) (hret _ _ (Option.some.inj h).symm _ _ _ _ d_B_addBody_18 hI)

abbrev b_B_body : ByteArray := prog_1_method_2_code
def y_B_body : MethodName := ⟨"BodySolids", "body", "()I"⟩
theorem d_B_body_0 : decode b_B_body 0 = .ok (.aload_n 0, 1) := by decide +kernel
theorem d_B_body_1 : decode b_B_body 1 = .ok (.getfield 27, 3) := by decide +kernel
theorem d_B_body_4 : decode b_B_body 4 = .ok (.invokevirtual 68, 3) := by decide +kernel
theorem d_B_body_7 : decode b_B_body 7 = .ok (.bipush 30, 2) := by decide +kernel
theorem d_B_body_9 : decode b_B_body 9 = .ok (.if_icmp .ge 17, 3) := by decide +kernel
theorem d_B_body_12 : decode b_B_body 12 = .ok (.aload_n 0, 1) := by decide +kernel
theorem d_B_body_13 : decode b_B_body 13 = .ok (.new 72, 3) := by decide +kernel
theorem d_B_body_16 : decode b_B_body 16 = .ok (.dup, 1) := by decide +kernel
theorem d_B_body_17 : decode b_B_body 17 = .ok (.invokespecial 74, 3) := by decide +kernel
theorem d_B_body_20 : decode b_B_body 20 = .ok (.invokevirtual 75, 3) := by decide +kernel
theorem d_B_body_23 : decode b_B_body 23 = .ok (.goto 4, 3) := by decide +kernel
theorem d_B_body_26 : decode b_B_body 26 = .ok (.iconst (-1), 1) := by decide +kernel
theorem d_B_body_27 : decode b_B_body 27 = .ok (.ireturn, 1) := by decide +kernel
abbrev rm_B_body : Room := { frames := 8, cells := 3, slots := 69, locals := 200 }
theorem ce_B_body : gCe y_B_body (.code y_B_body b_B_body 1 (some .int)) 1 0 false := gCe.code wd_223 wd_49 wd_221 (by decide) (by decide +kernel)
def f_B_body (g0 : gG) (a0 : Nat) (w : gW) : gX Int32 := (gfA w a0 0 1).bind fun v1 => (gck w v1 1).bind fun _ => gbind (f_AL_size g0 v1 w) fun v7 w => gjoin (fun K27 => if 30 ≤ v7 then (K27 (-1) w) else (gb2f (gnw w 4 [.null, .long 0]) fun o10 w => gbind (f_By_init g0 o10 w) fun v14 w => (gck w a0 0).bind fun _ => gbind (f_B_addBody g0 a0 o10 w) fun v19 w => K27 v19 w)) (fun (y8 : Int32) (w : gW) => some (.inr y8, w))
set_option maxHeartbeats 4000000 in
set_option maxRecDepth 100000 in
theorem m_B_body (l : Launch) (hst : l.stackTraces = false) (D : gD) (g0 : gG) (a0 : Nat) (w : gW) (r : (String ⊕ Int32) × gW) (h : f_B_body g0 a0 w = some r) : gMet l y_B_body (.code y_B_body b_B_body 1 (some .int)) rm_B_body D g0 [.ref a0] w (goI r) := by
  refine gw_ofI (by decide +kernel) (Nat.le_of_ble_eq_true rfl) ?_
  intro p e s m below meth c ls args A Q hx hb hml hown hlocks hin hnt hT hK hZ hA hret hexc hthr hI hl
  obtain ⟨H, hH⟩ : ∃ H, H = s.heap := ⟨_, rfl⟩
  rw [← hH] at hI ⊢
  obtain ⟨locs, hlocs⟩ : ∃ z : List Loc, z = [] := ⟨_, rfl⟩
  rw [← hlocs] at hI ⊢
  have hl : lv_has ls 1 [(0, .ref a0)] := hl
  unfold f_B_body at h
  refine lv_aload_n hx hb d_B_body_0 rfl (lv_at hl 0 rfl) ?_
  obtain ⟨v1, e2, h⟩ := gb h
  refine gw_getA hx hb hT hown hK hI (ci := 0) rfl i_0 1 (by decide) wd_190 (fun _ h9 => h9) e2 d_B_body_1 ?_
  obtain ⟨q5, e6, h⟩ := gb h
  obtain ⟨u3, e4⟩ := gsome h
  refine gw_callI e4 h (gw_runV (As := []) (rest := []) hx hb hml hown hT hK hZ hA hI (ci := 1) rfl e6 (m_AL_size l hst D g0 v1 w u3 e4) ce_AL_size wd_224 wd_226 ⟨by decide, by decide⟩ rfl rfl hl.1 rfl (lv_room (Nat.le_of_ble_eq_true rfl)) d_B_body_4 ⟨(show 0 + 0 ≤ 3 by omega), (show 0 + 0 ≤ 69 by omega)⟩) hI hA hexc (show 0 + 0 ≤ 3 by omega) (show 0 + 0 ≤ 69 by omega) (fun v7 w H locs h hI => ?_)
  refine lv_bipush (v := 30) hx hb d_B_body_7 (by decide) ?_
  obtain ⟨K27, eK27, h⟩ := gj h
  have hK27 : ∀ (y8 : Int32) (w : gW) (H : Heap) (locs : List Loc) (ls : Array Slot), K27 y8 w = some r → gI D s A w H locs → lv_has ls 1 [] → W p l e rm_B_body s m args below meth c H locs 3 69 Q (F0 m 27 ls [.int y8]) := by
    intro y8 w H locs ls h hI hl
    have h := gk2 eK27 h
    exact W.widen (show 3 ≤ 3 by omega) (show 69 ≤ 69 by omega) (hret _ _ (Option.some.inj h).symm _ _ _ _ d_B_body_27 hI)
  refine lv_icmp_ge (tgt := 26) hx hb d_B_body_9 (by decide) (fun c9 => ?_) (fun c9 => ?_)
  · skip
    have h := git c9 h
    refine lv_iconst (v := -1) hx hb d_B_body_26 (by decide) ?_
    refine W.widen (k := 3) (n := 69) (show 0 ≤ 3 by omega) (show 0 ≤ 69 by omega) ?_
    exact hK27 _ w H locs ls h hI (lv_sub hl [] rfl)
  · skip
    have h := gie c9 h
    refine lv_aload_n hx hb d_B_body_12 rfl (lv_at hl 0 rfl) ?_
    obtain ⟨o10, w, e11, h⟩ := gb2 h
    refine gw_new hx hb hT hown hK hI hA (ci := 4) rfl i_4 t_4 t_4_ok wd_228 wd_229 wd_58 (fs := [.null, .long 0]) df_4 e11 (show 0 + 1 ≤ 3 by omega) (show 0 + 2 ≤ 69 by omega) d_B_body_13 (fun H hI => ?_)
    refine W.widen (k := 1) (n := 2) (show 0 + 1 ≤ 1 by omega) (show 0 + 2 ≤ 2 by omega) ?_
    refine lv_dup hx hb d_B_body_16 rfl ?_
    obtain ⟨u12, e13⟩ := gsome h
    refine gw_callV e13 h (gw_runIN (As := []) (rest := [.ref o10, .ref a0]) hx hb hml hown hT hK hZ hA hI (m_By_init l hst D g0 o10 w u12 e13) ce_By_init wd_230 rfl ⟨by decide, by decide⟩ rfl rfl hl.1 rfl (lv_room (Nat.le_of_ble_eq_true rfl)) d_B_body_17 ⟨(show 1 + 1 ≤ 3 by omega), (show 2 + 3 ≤ 69 by omega)⟩) hI hA hexc (show 1 + 1 ≤ 3 by omega) (show 2 + 3 ≤ 69 by omega) (fun v14 w H locs h hI => ?_)
    refine W.widen (k := 2) (n := 5) (show 1 + 1 ≤ 2 by omega) (show 2 + 3 ≤ 5 by omega) ?_
    obtain ⟨q17, e18, h⟩ := gb h
    obtain ⟨u15, e16⟩ := gsome h
    refine gw_callI e16 h (gw_runV (As := [.ref o10]) (rest := []) hx hb hml hown hT hK hZ hA hI (ci := 0) rfl e18 (m_B_addBody l hst D g0 a0 o10 w u15 e16) ce_B_addBody wd_246 wd_0 ⟨by decide, by decide⟩ rfl rfl hl.1 rfl (lv_room (Nat.le_of_ble_eq_true rfl)) d_B_body_20 ⟨(show 2 + 1 ≤ 3 by omega), (show 5 + 64 ≤ 69 by omega)⟩) hI hA hexc (show 2 + 1 ≤ 3 by omega) (show 5 + 64 ≤ 69 by omega) (fun v19 w H locs h hI => ?_)
    refine W.widen (k := 3) (n := 69) (show 2 + 1 ≤ 3 by omega) (show 5 + 64 ≤ 69 by omega) ?_
    refine lv_goto (tgt := 27) hx hb d_B_body_23 (by decide) ?_
    exact hK27 _ w H locs ls h hI (lv_sub hl [] rfl)

abbrev b_M_body : ByteArray := prog_9_method_7_code
def y_M_body : MethodName := ⟨"BodySolidsModel", "body", "()I"⟩
theorem d_M_body_0 : decode b_M_body 0 = .ok (.aload_n 0, 1) := by decide +kernel
theorem d_M_body_1 : decode b_M_body 1 = .ok (.iconst 0, 1) := by decide +kernel
theorem d_M_body_2 : decode b_M_body 2 = .ok (.putfield 80, 3) := by decide +kernel
theorem d_M_body_5 : decode b_M_body 5 = .ok (.aload_n 0, 1) := by decide +kernel
theorem d_M_body_6 : decode b_M_body 6 = .ok (.getfield 92, 3) := by decide +kernel
theorem d_M_body_9 : decode b_M_body 9 = .ok (.bipush 30, 2) := by decide +kernel
theorem d_M_body_11 : decode b_M_body 11 = .ok (.if_icmp .ne 5, 3) := by decide +kernel
theorem d_M_body_14 : decode b_M_body 14 = .ok (.iconst (-1), 1) := by decide +kernel
theorem d_M_body_15 : decode b_M_body 15 = .ok (.ireturn, 1) := by decide +kernel
theorem d_M_body_16 : decode b_M_body 16 = .ok (.aload_n 0, 1) := by decide +kernel
theorem d_M_body_17 : decode b_M_body 17 = .ok (.dup, 1) := by decide +kernel
theorem d_M_body_18 : decode b_M_body 18 = .ok (.getfield 92, 3) := by decide +kernel
theorem d_M_body_21 : decode b_M_body 21 = .ok (.iconst 1, 1) := by decide +kernel
theorem d_M_body_22 : decode b_M_body 22 = .ok (.iadd, 1) := by decide +kernel
theorem d_M_body_23 : decode b_M_body 23 = .ok (.putfield 92, 3) := by decide +kernel
theorem d_M_body_26 : decode b_M_body 26 = .ok (.aload_n 0, 1) := by decide +kernel
theorem d_M_body_27 : decode b_M_body 27 = .ok (.getfield 92, 3) := by decide +kernel
theorem d_M_body_30 : decode b_M_body 30 = .ok (.iconst 1, 1) := by decide +kernel
theorem d_M_body_31 : decode b_M_body 31 = .ok (.isub, 1) := by decide +kernel
theorem d_M_body_32 : decode b_M_body 32 = .ok (.ireturn, 1) := by decide +kernel
abbrev rm_M_body : Room := { frames := 0, cells := 0, slots := 0, locals := 0 }
theorem ce_M_body : gCe y_M_body (.code y_M_body b_M_body 1 (some .int)) 1 0 false := gCe.code wd_875 wd_57 wd_873 (by decide) (by decide +kernel)
def f_M_body (g0 : gG) (a0 : Nat) (w : gW) : gX Int32 := (gp w a0 7 0 (.int 0)).bind fun w => (gfI w a0 7 2).bind fun v2 => if v2 = 30 then (some (.inr (-1), w)) else ((gfI w a0 7 2).bind fun v5 => (gp w a0 7 2 (.int (v5 + 1))).bind fun w => (gfI w a0 7 2).bind fun v8 => some (.inr (v8 - 1), w))
set_option maxHeartbeats 4000000 in
set_option maxRecDepth 100000 in
theorem m_M_body (l : Launch) (hst : l.stackTraces = false) (D : gD) (g0 : gG) (a0 : Nat) (w : gW) (r : (String ⊕ Int32) × gW) (h : f_M_body g0 a0 w = some r) : gMet l y_M_body (.code y_M_body b_M_body 1 (some .int)) rm_M_body D g0 [.ref a0] w (goI r) := by
  refine gw_ofI (by decide +kernel) (Nat.le_of_ble_eq_true rfl) ?_
  intro p e s m below meth c ls args A Q hx hb hml hown hlocks hin hnt hT hK hZ hA hret hexc hthr hI hl
  obtain ⟨H, hH⟩ : ∃ H, H = s.heap := ⟨_, rfl⟩
  rw [← hH] at hI ⊢
  obtain ⟨locs, hlocs⟩ : ∃ z : List Loc, z = [] := ⟨_, rfl⟩
  rw [← hlocs] at hI ⊢
  have hl : lv_has ls 1 [(0, .ref a0)] := hl
  unfold f_M_body at h
  refine lv_aload_n hx hb d_M_body_0 rfl (lv_at hl 0 rfl) ?_
  refine lv_iconst (v := 0) hx hb d_M_body_1 (by decide) ?_
  obtain ⟨w, e1, h⟩ := gb h
  refine gw_put hx hb hT hown hK hI (ci := 7) rfl i_7 t_7 t_7_ok n_7 0 (by decide) wd_786 (fun _ h9 => h9) rfl (ty := .int) (by decide +kernel) rfl rfl e1 d_M_body_2 (fun H locs hI => ?_)
  refine lv_aload_n hx hb d_M_body_5 rfl (lv_at hl 0 rfl) ?_
  obtain ⟨v2, e3, h⟩ := gb h
  refine gw_getI hx hb hT hown hK hI (ci := 7) rfl i_7 2 (by decide) wd_788 (fun _ h9 => h9) e3 d_M_body_6 ?_
  refine lv_bipush (v := 30) hx hb d_M_body_9 (by decide) ?_
  refine lv_icmp_ne (tgt := 16) hx hb d_M_body_11 (by decide) (fun c4 => ?_) (fun c4 => ?_)
  · skip
    have h := gie c4 h
    refine lv_aload_n hx hb d_M_body_16 rfl (lv_at hl 0 rfl) ?_
    refine lv_dup hx hb d_M_body_17 rfl ?_
    obtain ⟨v5, e6, h⟩ := gb h
    refine gw_getI hx hb hT hown hK hI (ci := 7) rfl i_7 2 (by decide) wd_788 (fun _ h9 => h9) e6 d_M_body_18 ?_
    refine lv_iconst (v := 1) hx hb d_M_body_21 (by decide) ?_
    refine lv_iadd hx hb d_M_body_22 ?_
    obtain ⟨w, e7, h⟩ := gb h
    refine gw_put hx hb hT hown hK hI (ci := 7) rfl i_7 t_7 t_7_ok n_7 2 (by decide) wd_788 (fun _ h9 => h9) rfl (ty := .int) (by decide +kernel) rfl rfl e7 d_M_body_23 (fun H locs hI => ?_)
    refine lv_aload_n hx hb d_M_body_26 rfl (lv_at hl 0 rfl) ?_
    obtain ⟨v8, e9, h⟩ := gb h
    refine gw_getI hx hb hT hown hK hI (ci := 7) rfl i_7 2 (by decide) wd_788 (fun _ h9 => h9) e9 d_M_body_27 ?_
    refine lv_iconst (v := 1) hx hb d_M_body_30 (by decide) ?_
    refine lv_isub hx hb d_M_body_31 ?_
    exact W.widen (show 0 ≤ 0 by omega) (show 0 ≤ 0 by omega) (hret _ _ (Option.some.inj h).symm _ _ _ _ d_M_body_32 hI)
  · skip
    have h := git c4 h
    refine lv_iconst (v := -1) hx hb d_M_body_14 (by decide) ?_
    exact W.widen (show 0 ≤ 0 by omega) (show 0 ≤ 0 by omega) (hret _ _ (Option.some.inj h).symm _ _ _ _ d_M_body_15 hI)

abbrev b_B_needIndex : ByteArray := prog_1_method_19_code
def y_B_needIndex : MethodName := ⟨"BodySolids", "needIndex", "(II)V"⟩
theorem d_B_needIndex_0 : decode b_B_needIndex 0 = .ok (.iload_n 0, 1) := by decide +kernel
theorem d_B_needIndex_1 : decode b_B_needIndex 1 = .ok (.ifCond .lt 8, 3) := by decide +kernel
theorem d_B_needIndex_4 : decode b_B_needIndex 4 = .ok (.iload_n 0, 1) := by decide +kernel
theorem d_B_needIndex_5 : decode b_B_needIndex 5 = .ok (.iload_n 1, 1) := by decide +kernel
theorem d_B_needIndex_6 : decode b_B_needIndex 6 = .ok (.if_icmp .lt 13, 3) := by decide +kernel
theorem d_B_needIndex_9 : decode b_B_needIndex 9 = .ok (.new 247, 3) := by decide +kernel
theorem d_B_needIndex_12 : decode b_B_needIndex 12 = .ok (.dup, 1) := by decide +kernel
theorem d_B_needIndex_13 : decode b_B_needIndex 13 = .ok (.ldc 249, 2) := by decide +kernel
theorem d_B_needIndex_15 : decode b_B_needIndex 15 = .ok (.invokespecial 251, 3) := by decide +kernel
theorem d_B_needIndex_18 : decode b_B_needIndex 18 = .ok (.athrow, 1) := by decide +kernel
theorem d_B_needIndex_19 : decode b_B_needIndex 19 = .ok (.return_, 1) := by decide +kernel
abbrev rm_B_needIndex : Room := { frames := 7, cells := 1, slots := 6, locals := 90 }
theorem ce_B_needIndex : gCe y_B_needIndex (.code y_B_needIndex b_B_needIndex 2 none) 2 2 true := gCe.code wd_442 wd_49 wd_441 (by decide) (by decide +kernel)
def f_B_needIndex (g0 : gG) (p0 : Int32) (p1 : Int32) (w : gW) : gX Unit := gjoin (fun K9 => if p0 < 0 then (K9 w) else (if p0 < p1 then (some (.inr (), w)) else (K9 w))) (fun (w : gW) => gthrow "java/lang/IndexOutOfBoundsException" w)
set_option maxHeartbeats 4000000 in
set_option maxRecDepth 100000 in
theorem m_B_needIndex (l : Launch) (hst : l.stackTraces = false) (D : gD) (g0 : gG) (p0 : Int32) (p1 : Int32) (w : gW) (r : (String ⊕ Unit) × gW) (h : f_B_needIndex g0 p0 p1 w = some r) : gMet l y_B_needIndex (.code y_B_needIndex b_B_needIndex 2 none) rm_B_needIndex D g0 [.int p0, .int p1] w (goV r) := by
  refine gw_ofV (by decide +kernel) (Nat.le_of_ble_eq_true rfl) ?_
  intro p e s m below meth c ls args A Q hx hb hml hown hlocks hin hnt hT hK hZ hA hret hexc hthr hI hl
  obtain ⟨H, hH⟩ : ∃ H, H = s.heap := ⟨_, rfl⟩
  rw [← hH] at hI ⊢
  obtain ⟨locs, hlocs⟩ : ∃ z : List Loc, z = [] := ⟨_, rfl⟩
  rw [← hlocs] at hI ⊢
  have hl : lv_has ls 2 [(0, .int p0), (1, .int p1)] := hl
  unfold f_B_needIndex at h
  refine lv_iload_n hx hb d_B_needIndex_0 rfl (lv_at hl 0 rfl) ?_
  obtain ⟨K9, eK9, h⟩ := gj h
  have hK9 : ∀ (w : gW) (H : Heap) (locs : List Loc) (ls : Array Slot), K9 w = some r → gI D s A w H locs → lv_has ls 2 [] → W p l e rm_B_needIndex s m args below meth c H locs 0 0 Q (F0 m 9 ls []) := by
    intro w H locs ls h hI hl
    have h := gk1 eK9 h
    exact gw_throwS (names := ["java/lang/RuntimeException", "java/lang/Exception"]) (text := "no such number") hx hb hst hown hT hZ hI hl.1 hml hnt hlocks (by decide +kernel) (by decide +kernel) wd_443 wd_64 (by decide) at_IOB d_B_needIndex_9 d_B_needIndex_12 d_B_needIndex_13 d_B_needIndex_15 d_B_needIndex_18 (by decide) (Nat.le_of_ble_eq_true rfl) (show 0 + 1 ≤ 1 by omega) (show 0 + 6 ≤ 6 by omega) hthr h
  refine lv_if_lt (tgt := 9) hx hb d_B_needIndex_1 (by decide) (fun c1 => ?_) (fun c1 => ?_)
  · skip
    have h := git c1 h
    exact hK9 w H locs ls h hI (lv_sub hl [] rfl)
  · skip
    have h := gie c1 h
    refine lv_iload_n hx hb d_B_needIndex_4 rfl (lv_at hl 0 rfl) ?_
    refine lv_iload_n hx hb d_B_needIndex_5 rfl (lv_at hl 1 rfl) ?_
    refine lv_icmp_lt (tgt := 19) hx hb d_B_needIndex_6 (by decide) (fun c2 => ?_) (fun c2 => ?_)
    · skip
      have h := git c2 h
      exact W.widen (show 0 ≤ 1 by omega) (show 0 ≤ 6 by omega) (hret _ _ (Option.some.inj h).symm _ _ _ _ d_B_needIndex_19 hI)
    · skip
      have h := gie c2 h
      exact hK9 w H locs ls h hI (lv_sub hl [] rfl)

abbrev b_Pc_checkIndex : ByteArray := prog_32_method_11_code
def y_Pc_checkIndex : MethodName := ⟨"jdk/internal/util/Preconditions", "checkIndex", "(IILjava/util/function/BiFunction;)I"⟩
theorem d_Pc_checkIndex_0 : decode b_Pc_checkIndex 0 = .ok (.iload_n 0, 1) := by decide +kernel
theorem d_Pc_checkIndex_1 : decode b_Pc_checkIndex 1 = .ok (.ifCond .lt 8, 3) := by decide +kernel
theorem d_Pc_checkIndex_4 : decode b_Pc_checkIndex 4 = .ok (.iload_n 0, 1) := by decide +kernel
theorem d_Pc_checkIndex_5 : decode b_Pc_checkIndex 5 = .ok (.iload_n 1, 1) := by decide +kernel
theorem d_Pc_checkIndex_6 : decode b_Pc_checkIndex 6 = .ok (.if_icmp .lt 10, 3) := by decide +kernel
theorem d_Pc_checkIndex_9 : decode b_Pc_checkIndex 9 = .ok (.aload_n 2, 1) := by decide +kernel
theorem d_Pc_checkIndex_10 : decode b_Pc_checkIndex 10 = .ok (.iload_n 0, 1) := by decide +kernel
theorem d_Pc_checkIndex_11 : decode b_Pc_checkIndex 11 = .ok (.iload_n 1, 1) := by decide +kernel
theorem d_Pc_checkIndex_12 : decode b_Pc_checkIndex 12 = .ok (.invokestatic 95, 3) := by decide +kernel
theorem d_Pc_checkIndex_16 : decode b_Pc_checkIndex 16 = .ok (.iload_n 0, 1) := by decide +kernel
theorem d_Pc_checkIndex_17 : decode b_Pc_checkIndex 17 = .ok (.ireturn, 1) := by decide +kernel
abbrev rm_Pc_checkIndex : Room := { frames := 0, cells := 0, slots := 0, locals := 0 }
theorem ce_Pc_checkIndex : gCe y_Pc_checkIndex (.code y_Pc_checkIndex b_Pc_checkIndex 3 (some .int)) 3 3 true := gCe.code wd_330 wd_66 wd_329 (by decide) (by decide +kernel)
def f_Pc_checkIndex (g0 : gG) (p0 : Int32) (p1 : Int32) (w : gW) : gX Int32 := gjoin (fun K9 => if p0 < 0 then (K9 w) else (if p0 < p1 then (some (.inr p0, w)) else (K9 w))) (fun (w : gW) => none)
set_option maxHeartbeats 4000000 in
set_option maxRecDepth 100000 in
theorem m_Pc_checkIndex (l : Launch) (hst : l.stackTraces = false) (D : gD) (g0 : gG) (p0 : Int32) (p1 : Int32) (w : gW) (r : (String ⊕ Int32) × gW) (h : f_Pc_checkIndex g0 p0 p1 w = some r) : gMet l y_Pc_checkIndex (.code y_Pc_checkIndex b_Pc_checkIndex 3 (some .int)) rm_Pc_checkIndex D g0 [.int p0, .int p1, .null] w (goI r) := by
  refine gw_ofI (by decide +kernel) (Nat.le_of_ble_eq_true rfl) ?_
  intro p e s m below meth c ls args A Q hx hb hml hown hlocks hin hnt hT hK hZ hA hret hexc hthr hI hl
  obtain ⟨H, hH⟩ : ∃ H, H = s.heap := ⟨_, rfl⟩
  rw [← hH] at hI ⊢
  obtain ⟨locs, hlocs⟩ : ∃ z : List Loc, z = [] := ⟨_, rfl⟩
  rw [← hlocs] at hI ⊢
  have hl : lv_has ls 3 [(0, .int p0), (1, .int p1), (2, .null)] := hl
  unfold f_Pc_checkIndex at h
  refine lv_iload_n hx hb d_Pc_checkIndex_0 rfl (lv_at hl 0 rfl) ?_
  obtain ⟨K9, eK9, h⟩ := gj h
  have hK9 : ∀ (w : gW) (H : Heap) (locs : List Loc) (ls : Array Slot), K9 w = some r → gI D s A w H locs → lv_has ls 3 [(0, .int p0), (1, .int p1), (2, .null)] → W p l e rm_Pc_checkIndex s m args below meth c H locs 0 0 Q (F0 m 9 ls []) := by
    intro w H locs ls h hI hl
    have h := gk1 eK9 h
    exact absurd h (by simp)
  refine lv_if_lt (tgt := 9) hx hb d_Pc_checkIndex_1 (by decide) (fun c1 => ?_) (fun c1 => ?_)
  · skip
    have h := git c1 h
    exact hK9 w H locs ls h hI (lv_sub hl [0, 1, 2] rfl)
  · skip
    have h := gie c1 h
    refine lv_iload_n hx hb d_Pc_checkIndex_4 rfl (lv_at hl 0 rfl) ?_
    refine lv_iload_n hx hb d_Pc_checkIndex_5 rfl (lv_at hl 1 rfl) ?_
    refine lv_icmp_lt (tgt := 16) hx hb d_Pc_checkIndex_6 (by decide) (fun c2 => ?_) (fun c2 => ?_)
    · skip
      have h := git c2 h
      refine lv_iload_n hx hb d_Pc_checkIndex_16 rfl (lv_at hl 0 rfl) ?_
      exact W.widen (show 0 ≤ 0 by omega) (show 0 ≤ 0 by omega) (hret _ _ (Option.some.inj h).symm _ _ _ _ d_Pc_checkIndex_17 hI)
    · skip
      have h := gie c2 h
      exact hK9 w H locs ls h hI (lv_sub hl [0, 1, 2] rfl)

abbrev b_Ob_checkIndex : ByteArray := prog_28_method_17_code
def y_Ob_checkIndex : MethodName := ⟨"java/util/Objects", "checkIndex", "(II)I"⟩
theorem d_Ob_checkIndex_0 : decode b_Ob_checkIndex 0 = .ok (.iload_n 0, 1) := by decide +kernel
theorem d_Ob_checkIndex_1 : decode b_Ob_checkIndex 1 = .ok (.iload_n 1, 1) := by decide +kernel
theorem d_Ob_checkIndex_2 : decode b_Ob_checkIndex 2 = .ok (.aconst_null, 1) := by decide +kernel
theorem d_Ob_checkIndex_3 : decode b_Ob_checkIndex 3 = .ok (.invokestatic 105, 3) := by decide +kernel
theorem d_Ob_checkIndex_6 : decode b_Ob_checkIndex 6 = .ok (.ireturn, 1) := by decide +kernel
abbrev rm_Ob_checkIndex : Room := { frames := 1, cells := 0, slots := 0, locals := 22 }
theorem ce_Ob_checkIndex : gCe y_Ob_checkIndex (.code y_Ob_checkIndex b_Ob_checkIndex 2 (some .int)) 2 2 true := gCe.code wd_327 wd_65 wd_326 (by decide) (by decide +kernel)
def f_Ob_checkIndex (g0 : gG) (p0 : Int32) (p1 : Int32) (w : gW) : gX Int32 := gbind (f_Pc_checkIndex g0 p0 p1 w) fun v3 w => some (.inr v3, w)
set_option maxHeartbeats 4000000 in
set_option maxRecDepth 100000 in
theorem m_Ob_checkIndex (l : Launch) (hst : l.stackTraces = false) (D : gD) (g0 : gG) (p0 : Int32) (p1 : Int32) (w : gW) (r : (String ⊕ Int32) × gW) (h : f_Ob_checkIndex g0 p0 p1 w = some r) : gMet l y_Ob_checkIndex (.code y_Ob_checkIndex b_Ob_checkIndex 2 (some .int)) rm_Ob_checkIndex D g0 [.int p0, .int p1] w (goI r) := by
  refine gw_ofI (by decide +kernel) (Nat.le_of_ble_eq_true rfl) ?_
  intro p e s m below meth c ls args A Q hx hb hml hown hlocks hin hnt hT hK hZ hA hret hexc hthr hI hl
  obtain ⟨H, hH⟩ : ∃ H, H = s.heap := ⟨_, rfl⟩
  rw [← hH] at hI ⊢
  obtain ⟨locs, hlocs⟩ : ∃ z : List Loc, z = [] := ⟨_, rfl⟩
  rw [← hlocs] at hI ⊢
  have hl : lv_has ls 2 [(0, .int p0), (1, .int p1)] := hl
  unfold f_Ob_checkIndex at h
  refine lv_iload_n hx hb d_Ob_checkIndex_0 rfl (lv_at hl 0 rfl) ?_
  refine lv_iload_n hx hb d_Ob_checkIndex_1 rfl (lv_at hl 1 rfl) ?_
  refine lv_null hx hb d_Ob_checkIndex_2 ?_
  obtain ⟨u1, e2⟩ := gsome h
  refine gw_callI e2 h (gw_runS (As := [.int p0, .int p1, .null]) (rest := []) hx hb hml hown hT hK hZ hA hI (m_Pc_checkIndex l hst D g0 p0 p1 w u1 e2) ce_Pc_checkIndex wd_328 ⟨by decide, by decide⟩ rfl rfl hl.1 rfl (lv_room (Nat.le_of_ble_eq_true rfl)) d_Ob_checkIndex_3 ⟨(show 0 + 0 ≤ 0 by omega), (show 0 + 0 ≤ 0 by omega)⟩) hI hA hexc (show 0 + 0 ≤ 0 by omega) (show 0 + 0 ≤ 0 by omega) (fun v3 w H locs h hI => ?_)
  exact W.widen (show 0 ≤ 0 by omega) (show 0 ≤ 0 by omega) (hret _ _ (Option.some.inj h).symm _ _ _ _ d_Ob_checkIndex_6 hI)

abbrev b_AL_elementData : ByteArray := prog_24_method_18_code
def y_AL_elementData : MethodName := ⟨"java/util/ArrayList", "elementData", "(I)Ljava/lang/Object;"⟩
theorem d_AL_elementData_0 : decode b_AL_elementData 0 = .ok (.aload_n 0, 1) := by decide +kernel
theorem d_AL_elementData_1 : decode b_AL_elementData 1 = .ok (.getfield 9, 3) := by decide +kernel
theorem d_AL_elementData_4 : decode b_AL_elementData 4 = .ok (.iload_n 1, 1) := by decide +kernel
theorem d_AL_elementData_5 : decode b_AL_elementData 5 = .ok (.aaload, 1) := by decide +kernel
theorem d_AL_elementData_6 : decode b_AL_elementData 6 = .ok (.areturn, 1) := by decide +kernel
abbrev rm_AL_elementData : Room := { frames := 0, cells := 0, slots := 0, locals := 0 }
theorem ce_AL_elementData : gCe y_AL_elementData (.code y_AL_elementData b_AL_elementData 2 (some (.object "java/lang/Object"))) 2 1 false := gCe.code wd_334 wd_53 wd_332 (by decide) (by decide +kernel)
def f_AL_elementData (g0 : gG) (a0 : Nat) (p1 : Int32) (w : gW) : gX Nat := (gfA w a0 1 0).bind fun v1 => (gaA w v1 p1).bind fun v3 => some (.inr v3, w)
set_option maxHeartbeats 4000000 in
set_option maxRecDepth 100000 in
theorem m_AL_elementData (l : Launch) (hst : l.stackTraces = false) (D : gD) (g0 : gG) (a0 : Nat) (p1 : Int32) (w : gW) (r : (String ⊕ Nat) × gW) (h : f_AL_elementData g0 a0 p1 w = some r) : gMet l y_AL_elementData (.code y_AL_elementData b_AL_elementData 2 (some (.object "java/lang/Object"))) rm_AL_elementData D g0 [.ref a0, .int p1] w (goA r) := by
  refine gw_ofA (by decide +kernel) (Nat.le_of_ble_eq_true rfl) (Or.inl ⟨_, rfl⟩) ?_
  intro p e s m below meth c ls args A Q hx hb hml hown hlocks hin hnt hT hK hZ hA hret hexc hthr hI hl
  obtain ⟨H, hH⟩ : ∃ H, H = s.heap := ⟨_, rfl⟩
  rw [← hH] at hI ⊢
  obtain ⟨locs, hlocs⟩ : ∃ z : List Loc, z = [] := ⟨_, rfl⟩
  rw [← hlocs] at hI ⊢
  have hl : lv_has ls 2 [(0, .ref a0), (1, .int p1)] := hl
  unfold f_AL_elementData at h
  refine lv_aload_n hx hb d_AL_elementData_0 rfl (lv_at hl 0 rfl) ?_
  obtain ⟨v1, e2, h⟩ := gb h
  refine gw_getA hx hb hT hown hK hI (ci := 1) rfl i_1 0 (by decide) wd_101 (fun _ h9 => h9) e2 d_AL_elementData_1 ?_
  refine lv_iload_n hx hb d_AL_elementData_4 rfl (lv_at hl 1 rfl) ?_
  obtain ⟨v3, e4, h⟩ := gb h
  refine gw_aldA hx hb hK hI e4 d_AL_elementData_5 ?_
  exact W.widen (show 0 ≤ 0 by omega) (show 0 ≤ 0 by omega) (hret _ _ (Option.some.inj h).symm _ _ _ _ d_AL_elementData_6 hI)

abbrev b_AL_get : ByteArray := prog_24_method_20_code
def y_AL_get : MethodName := ⟨"java/util/ArrayList", "get", "(I)Ljava/lang/Object;"⟩
theorem d_AL_get_0 : decode b_AL_get 0 = .ok (.iload_n 1, 1) := by decide +kernel
theorem d_AL_get_1 : decode b_AL_get 1 = .ok (.aload_n 0, 1) := by decide +kernel
theorem d_AL_get_2 : decode b_AL_get 2 = .ok (.getfield 48, 3) := by decide +kernel
theorem d_AL_get_5 : decode b_AL_get 5 = .ok (.invokestatic 118, 3) := by decide +kernel
theorem d_AL_get_8 : decode b_AL_get 8 = .ok (.pop, 1) := by decide +kernel
theorem d_AL_get_9 : decode b_AL_get 9 = .ok (.aload_n 0, 1) := by decide +kernel
theorem d_AL_get_10 : decode b_AL_get 10 = .ok (.iload_n 1, 1) := by decide +kernel
theorem d_AL_get_11 : decode b_AL_get 11 = .ok (.invokevirtual 123, 3) := by decide +kernel
theorem d_AL_get_14 : decode b_AL_get 14 = .ok (.areturn, 1) := by decide +kernel
abbrev rm_AL_get : Room := { frames := 2, cells := 0, slots := 0, locals := 43 }
theorem ce_AL_get : gCe y_AL_get (.code y_AL_get b_AL_get 2 (some (.object "java/lang/Object"))) 2 1 false := gCe.code wd_324 wd_53 wd_322 (by decide) (by decide +kernel)
def f_AL_get (g0 : gG) (a0 : Nat) (p1 : Int32) (w : gW) : gX Nat := (gfI w a0 1 1).bind fun v1 => gbind (f_Ob_checkIndex g0 p1 v1 w) fun v5 w => (gck w a0 1).bind fun _ => gbind (f_AL_elementData g0 a0 p1 w) fun v10 w => some (.inr v10, w)
set_option maxHeartbeats 4000000 in
set_option maxRecDepth 100000 in
theorem m_AL_get (l : Launch) (hst : l.stackTraces = false) (D : gD) (g0 : gG) (a0 : Nat) (p1 : Int32) (w : gW) (r : (String ⊕ Nat) × gW) (h : f_AL_get g0 a0 p1 w = some r) : gMet l y_AL_get (.code y_AL_get b_AL_get 2 (some (.object "java/lang/Object"))) rm_AL_get D g0 [.ref a0, .int p1] w (goA r) := by
  refine gw_ofA (by decide +kernel) (Nat.le_of_ble_eq_true rfl) (Or.inl ⟨_, rfl⟩) ?_
  intro p e s m below meth c ls args A Q hx hb hml hown hlocks hin hnt hT hK hZ hA hret hexc hthr hI hl
  obtain ⟨H, hH⟩ : ∃ H, H = s.heap := ⟨_, rfl⟩
  rw [← hH] at hI ⊢
  obtain ⟨locs, hlocs⟩ : ∃ z : List Loc, z = [] := ⟨_, rfl⟩
  rw [← hlocs] at hI ⊢
  have hl : lv_has ls 2 [(0, .ref a0), (1, .int p1)] := hl
  unfold f_AL_get at h
  refine lv_iload_n hx hb d_AL_get_0 rfl (lv_at hl 1 rfl) ?_
  refine lv_aload_n hx hb d_AL_get_1 rfl (lv_at hl 0 rfl) ?_
  obtain ⟨v1, e2, h⟩ := gb h
  refine gw_getI hx hb hT hown hK hI (ci := 1) rfl i_1 1 (by decide) wd_102 (fun _ h9 => h9) e2 d_AL_get_2 ?_
  obtain ⟨u3, e4⟩ := gsome h
  refine gw_callI e4 h (gw_runS (As := [.int p1, .int v1]) (rest := []) hx hb hml hown hT hK hZ hA hI (m_Ob_checkIndex l hst D g0 p1 v1 w u3 e4) ce_Ob_checkIndex wd_325 ⟨by decide, by decide⟩ rfl rfl hl.1 rfl (lv_room (Nat.le_of_ble_eq_true rfl)) d_AL_get_5 ⟨(show 0 + 0 ≤ 0 by omega), (show 0 + 0 ≤ 0 by omega)⟩) hI hA hexc (show 0 + 0 ≤ 0 by omega) (show 0 + 0 ≤ 0 by omega) (fun v5 w H locs h hI => ?_)
  refine lv_pop hx hb d_AL_get_8 rfl ?_
  refine lv_aload_n hx hb d_AL_get_9 rfl (lv_at hl 0 rfl) ?_
  refine lv_iload_n hx hb d_AL_get_10 rfl (lv_at hl 1 rfl) ?_
  obtain ⟨q8, e9, h⟩ := gb h
  obtain ⟨u6, e7⟩ := gsome h
  refine gw_callA e7 h (gw_runV (As := [.int p1]) (rest := []) hx hb hml hown hT hK hZ hA hI (ci := 1) rfl e9 (m_AL_elementData l hst D g0 a0 p1 w u6 e7) ce_AL_elementData wd_331 wd_333 ⟨by decide, by decide⟩ rfl rfl hl.1 rfl (lv_room (Nat.le_of_ble_eq_true rfl)) d_AL_get_11 ⟨(show 0 + 0 ≤ 0 by omega), (show 0 + 0 ≤ 0 by omega)⟩) hI hA hexc (show 0 + 0 ≤ 0 by omega) (show 0 + 0 ≤ 0 by omega) (fun v10 w H locs h hI => ?_)
  exact W.widen (show 0 ≤ 0 by omega) (show 0 ≤ 0 by omega) (hret _ _ (Option.some.inj h).symm _ _ _ _ d_AL_get_14 hI)

abbrev b_B_bodyAt : ByteArray := prog_1_method_25_code
def y_B_bodyAt : MethodName := ⟨"BodySolids", "bodyAt", "(I)LBodySolids$Body;"⟩
theorem d_B_bodyAt_0 : decode b_B_bodyAt 0 = .ok (.iload_n 1, 1) := by decide +kernel
theorem d_B_bodyAt_1 : decode b_B_bodyAt 1 = .ok (.aload_n 0, 1) := by decide +kernel
theorem d_B_bodyAt_2 : decode b_B_bodyAt 2 = .ok (.getfield 27, 3) := by decide +kernel
theorem d_B_bodyAt_5 : decode b_B_bodyAt 5 = .ok (.invokevirtual 68, 3) := by decide +kernel
theorem d_B_bodyAt_8 : decode b_B_bodyAt 8 = .ok (.invokestatic 190, 3) := by decide +kernel
theorem d_B_bodyAt_11 : decode b_B_bodyAt 11 = .ok (.aload_n 0, 1) := by decide +kernel
theorem d_B_bodyAt_12 : decode b_B_bodyAt 12 = .ok (.getfield 27, 3) := by decide +kernel
theorem d_B_bodyAt_15 : decode b_B_bodyAt 15 = .ok (.iload_n 1, 1) := by decide +kernel
theorem d_B_bodyAt_16 : decode b_B_bodyAt 16 = .ok (.invokevirtual 205, 3) := by decide +kernel
theorem d_B_bodyAt_19 : decode b_B_bodyAt 19 = .ok (.checkcast 72, 3) := by decide +kernel
theorem d_B_bodyAt_22 : decode b_B_bodyAt 22 = .ok (.areturn, 1) := by decide +kernel
abbrev rm_B_bodyAt : Room := { frames := 8, cells := 1, slots := 6, locals := 111 }
theorem ce_B_bodyAt : gCe y_B_bodyAt (.code y_B_bodyAt b_B_bodyAt 2 (some (.object "BodySolids$Body"))) 2 1 false := gCe.code wd_439 wd_49 wd_438 (by decide) (by decide +kernel)
def f_B_bodyAt (g0 : gG) (a0 : Nat) (p1 : Int32) (w : gW) : gX Nat := (gfA w a0 0 1).bind fun v1 => (gck w v1 1).bind fun _ => gbind (f_AL_size g0 v1 w) fun v7 w => gbind (f_B_needIndex g0 p1 v7 w) fun v10 w => (gfA w a0 0 1).bind fun v11 => (gck w v11 1).bind fun _ => gbind (f_AL_get g0 v11 p1 w) fun v17 w => (gck w v17 4).bind fun _ => some (.inr v17, w)
set_option maxHeartbeats 4000000 in
set_option maxRecDepth 100000 in
theorem m_B_bodyAt (l : Launch) (hst : l.stackTraces = false) (D : gD) (g0 : gG) (a0 : Nat) (p1 : Int32) (w : gW) (r : (String ⊕ Nat) × gW) (h : f_B_bodyAt g0 a0 p1 w = some r) : gMet l y_B_bodyAt (.code y_B_bodyAt b_B_bodyAt 2 (some (.object "BodySolids$Body"))) rm_B_bodyAt D g0 [.ref a0, .int p1] w (goA r) := by
  refine gw_ofA (by decide +kernel) (Nat.le_of_ble_eq_true rfl) (Or.inl ⟨_, rfl⟩) ?_
  intro p e s m below meth c ls args A Q hx hb hml hown hlocks hin hnt hT hK hZ hA hret hexc hthr hI hl
  obtain ⟨H, hH⟩ : ∃ H, H = s.heap := ⟨_, rfl⟩
  rw [← hH] at hI ⊢
  obtain ⟨locs, hlocs⟩ : ∃ z : List Loc, z = [] := ⟨_, rfl⟩
  rw [← hlocs] at hI ⊢
  have hl : lv_has ls 2 [(0, .ref a0), (1, .int p1)] := hl
  unfold f_B_bodyAt at h
  refine lv_iload_n hx hb d_B_bodyAt_0 rfl (lv_at hl 1 rfl) ?_
  refine lv_aload_n hx hb d_B_bodyAt_1 rfl (lv_at hl 0 rfl) ?_
  obtain ⟨v1, e2, h⟩ := gb h
  refine gw_getA hx hb hT hown hK hI (ci := 0) rfl i_0 1 (by decide) wd_190 (fun _ h9 => h9) e2 d_B_bodyAt_2 ?_
  obtain ⟨q5, e6, h⟩ := gb h
  obtain ⟨u3, e4⟩ := gsome h
  refine gw_callI e4 h (gw_runV (As := []) (rest := [.int p1]) hx hb hml hown hT hK hZ hA hI (ci := 1) rfl e6 (m_AL_size l hst D g0 v1 w u3 e4) ce_AL_size wd_224 wd_226 ⟨by decide, by decide⟩ rfl rfl hl.1 rfl (lv_room (Nat.le_of_ble_eq_true rfl)) d_B_bodyAt_5 ⟨(show 0 + 0 ≤ 1 by omega), (show 0 + 0 ≤ 6 by omega)⟩) hI hA hexc (show 0 + 0 ≤ 1 by omega) (show 0 + 0 ≤ 6 by omega) (fun v7 w H locs h hI => ?_)
  obtain ⟨u8, e9⟩ := gsome h
  refine gw_callV e9 h (gw_runS (As := [.int p1, .int v7]) (rest := []) hx hb hml hown hT hK hZ hA hI (m_B_needIndex l hst D g0 p1 v7 w u8 e9) ce_B_needIndex wd_440 ⟨by decide, by decide⟩ rfl rfl hl.1 rfl (lv_room (Nat.le_of_ble_eq_true rfl)) d_B_bodyAt_8 ⟨(show 0 + 1 ≤ 1 by omega), (show 0 + 6 ≤ 6 by omega)⟩) hI hA hexc (show 0 + 1 ≤ 1 by omega) (show 0 + 6 ≤ 6 by omega) (fun v10 w H locs h hI => ?_)
  refine W.widen (k := 1) (n := 6) (show 0 + 1 ≤ 1 by omega) (show 0 + 6 ≤ 6 by omega) ?_
  refine lv_aload_n hx hb d_B_bodyAt_11 rfl (lv_at hl 0 rfl) ?_
  obtain ⟨v11, e12, h⟩ := gb h
  refine gw_getA hx hb hT hown hK hI (ci := 0) rfl i_0 1 (by decide) wd_190 (fun _ h9 => h9) e12 d_B_bodyAt_12 ?_
  refine lv_iload_n hx hb d_B_bodyAt_15 rfl (lv_at hl 1 rfl) ?_
  obtain ⟨q15, e16, h⟩ := gb h
  obtain ⟨u13, e14⟩ := gsome h
  refine gw_callA e14 h (gw_runV (As := [.int p1]) (rest := []) hx hb hml hown hT hK hZ hA hI (ci := 1) rfl e16 (m_AL_get l hst D g0 v11 p1 w u13 e14) ce_AL_get wd_321 wd_323 ⟨by decide, by decide⟩ rfl rfl hl.1 rfl (lv_room (Nat.le_of_ble_eq_true rfl)) d_B_bodyAt_16 ⟨(show 1 + 0 ≤ 1 by omega), (show 6 + 0 ≤ 6 by omega)⟩) hI hA hexc (show 1 + 0 ≤ 1 by omega) (show 6 + 0 ≤ 6 by omega) (fun v17 w H locs h hI => ?_)
  obtain ⟨q19, e18, h⟩ := gb h
  refine gw_cast hx hb hT hown hK hI wd_228 (ci := 4) rfl wd_1126 e18 d_B_bodyAt_19 ?_
  exact W.widen (show 1 ≤ 1 by omega) (show 6 ≤ 6 by omega) (hret _ _ (Option.some.inj h).symm _ _ _ _ d_B_bodyAt_22 hI)

abbrev b_B_needWithin : ByteArray := prog_1_method_20_code
def y_B_needWithin : MethodName := ⟨"BodySolids", "needWithin", "(JJJ)V"⟩
theorem d_B_needWithin_0 : decode b_B_needWithin 0 = .ok (.lload_n 0, 1) := by decide +kernel
theorem d_B_needWithin_1 : decode b_B_needWithin 1 = .ok (.lload_n 2, 1) := by decide +kernel
theorem d_B_needWithin_2 : decode b_B_needWithin 2 = .ok (.lcmp, 1) := by decide +kernel
theorem d_B_needWithin_3 : decode b_B_needWithin 3 = .ok (.ifCond .lt 10, 3) := by decide +kernel
theorem d_B_needWithin_6 : decode b_B_needWithin 6 = .ok (.lload_n 0, 1) := by decide +kernel
theorem d_B_needWithin_7 : decode b_B_needWithin 7 = .ok (.lload 4, 2) := by decide +kernel
theorem d_B_needWithin_9 : decode b_B_needWithin 9 = .ok (.lcmp, 1) := by decide +kernel
theorem d_B_needWithin_10 : decode b_B_needWithin 10 = .ok (.ifCond .le 13, 3) := by decide +kernel
theorem d_B_needWithin_13 : decode b_B_needWithin 13 = .ok (.new 252, 3) := by decide +kernel
theorem d_B_needWithin_16 : decode b_B_needWithin 16 = .ok (.dup, 1) := by decide +kernel
theorem d_B_needWithin_17 : decode b_B_needWithin 17 = .ok (.ldc 254, 2) := by decide +kernel
theorem d_B_needWithin_19 : decode b_B_needWithin 19 = .ok (.invokespecial 256, 3) := by decide +kernel
theorem d_B_needWithin_22 : decode b_B_needWithin 22 = .ok (.athrow, 1) := by decide +kernel
theorem d_B_needWithin_23 : decode b_B_needWithin 23 = .ok (.return_, 1) := by decide +kernel
abbrev rm_B_needWithin : Room := { frames := 7, cells := 1, slots := 6, locals := 90 }
theorem ce_B_needWithin : gCe y_B_needWithin (.code y_B_needWithin b_B_needWithin 6 none) 6 3 true := gCe.code wd_518 wd_49 wd_517 (by decide) (by decide +kernel)
def f_B_needWithin (g0 : gG) (p0 : Int64) (p1 : Int64) (p2 : Int64) (w : gW) : gX Unit := gjoin (fun K13 => if p0 < p1 then (K13 w) else (if p0 ≤ p2 then (some (.inr (), w)) else (K13 w))) (fun (w : gW) => gthrow "java/lang/IllegalArgumentException" w)
set_option maxHeartbeats 4000000 in
set_option maxRecDepth 100000 in
theorem m_B_needWithin (l : Launch) (hst : l.stackTraces = false) (D : gD) (g0 : gG) (p0 : Int64) (p1 : Int64) (p2 : Int64) (w : gW) (r : (String ⊕ Unit) × gW) (h : f_B_needWithin g0 p0 p1 p2 w = some r) : gMet l y_B_needWithin (.code y_B_needWithin b_B_needWithin 6 none) rm_B_needWithin D g0 [.long p0, .long p1, .long p2] w (goV r) := by
  refine gw_ofV (by decide +kernel) (Nat.le_of_ble_eq_true rfl) ?_
  intro p e s m below meth c ls args A Q hx hb hml hown hlocks hin hnt hT hK hZ hA hret hexc hthr hI hl
  obtain ⟨H, hH⟩ : ∃ H, H = s.heap := ⟨_, rfl⟩
  rw [← hH] at hI ⊢
  obtain ⟨locs, hlocs⟩ : ∃ z : List Loc, z = [] := ⟨_, rfl⟩
  rw [← hlocs] at hI ⊢
  have hl : lv_has ls 6 [(0, .long p0), (2, .long p1), (4, .long p2)] := hl
  unfold f_B_needWithin at h
  refine lv_lload_n hx hb d_B_needWithin_0 rfl (lv_at hl 0 rfl) ?_
  refine lv_lload_n hx hb d_B_needWithin_1 rfl (lv_at hl 1 rfl) ?_
  refine W.lcmp hx hb d_B_needWithin_2 ?_
  obtain ⟨K13, eK13, h⟩ := gj h
  have hK13 : ∀ (w : gW) (H : Heap) (locs : List Loc) (ls : Array Slot), K13 w = some r → gI D s A w H locs → lv_has ls 6 [] → W p l e rm_B_needWithin s m args below meth c H locs 0 0 Q (F0 m 13 ls []) := by
    intro w H locs ls h hI hl
    have h := gk1 eK13 h
    exact gw_throwS (names := ["java/lang/RuntimeException", "java/lang/Exception"]) (text := "a value is out of its range") hx hb hst hown hT hZ hI hl.1 hml hnt hlocks (by decide +kernel) (by decide +kernel) wd_519 wd_67 (by decide) at_IAE d_B_needWithin_13 d_B_needWithin_16 d_B_needWithin_17 d_B_needWithin_19 d_B_needWithin_22 (by decide) (Nat.le_of_ble_eq_true rfl) (show 0 + 1 ≤ 1 by omega) (show 0 + 6 ≤ 6 by omega) hthr h
  refine lv_if_lt (tgt := 13) hx hb d_B_needWithin_3 (by decide) (fun c1 => ?_) (fun c1 => ?_)
  · have c1 := (lg_cmp_lt _ _).mp c1
    have h := git c1 h
    exact hK13 w H locs ls h hI (lv_sub hl [] rfl)
  · have c1 := mt (lg_cmp_lt _ _).mpr c1
    have h := gie c1 h
    refine lv_lload_n hx hb d_B_needWithin_6 rfl (lv_at hl 0 rfl) ?_
    refine lv_lload hx hb d_B_needWithin_7 (lv_at hl 2 rfl) ?_
    refine W.lcmp hx hb d_B_needWithin_9 ?_
    refine lv_if_le (tgt := 23) hx hb d_B_needWithin_10 (by decide) (fun c2 => ?_) (fun c2 => ?_)
    · have c2 := (lg_cmp_le _ _).mp c2
      have h := git c2 h
      exact W.widen (show 0 ≤ 1 by omega) (show 0 ≤ 6 by omega) (hret _ _ (Option.some.inj h).symm _ _ _ _ d_B_needWithin_23 hI)
    · have c2 := mt (lg_cmp_le _ _).mpr c2
      have h := gie c2 h
      exact hK13 w H locs ls h hI (lv_sub hl [] rfl)

abbrev b_B_needPlace : ByteArray := prog_1_method_21_code
def y_B_needPlace : MethodName := ⟨"BodySolids", "needPlace", "(JJ)V"⟩
theorem d_B_needPlace_0 : decode b_B_needPlace 0 = .ok (.lload_n 0, 1) := by decide +kernel
theorem d_B_needPlace_1 : decode b_B_needPlace 1 = .ok (.ldc2_w 257, 3) := by decide +kernel
theorem d_B_needPlace_4 : decode b_B_needPlace 4 = .ok (.ldc2_w 148, 3) := by decide +kernel
theorem d_B_needPlace_7 : decode b_B_needPlace 7 = .ok (.invokestatic 138, 3) := by decide +kernel
theorem d_B_needPlace_10 : decode b_B_needPlace 10 = .ok (.lload_n 2, 1) := by decide +kernel
theorem d_B_needPlace_11 : decode b_B_needPlace 11 = .ok (.ldc2_w 257, 3) := by decide +kernel
theorem d_B_needPlace_14 : decode b_B_needPlace 14 = .ok (.ldc2_w 148, 3) := by decide +kernel
theorem d_B_needPlace_17 : decode b_B_needPlace 17 = .ok (.invokestatic 138, 3) := by decide +kernel
theorem d_B_needPlace_20 : decode b_B_needPlace 20 = .ok (.return_, 1) := by decide +kernel
abbrev rm_B_needPlace : Room := { frames := 8, cells := 2, slots := 12, locals := 115 }
theorem ce_B_needPlace : gCe y_B_needPlace (.code y_B_needPlace b_B_needPlace 4 none) 4 2 true := gCe.code wd_513 wd_49 wd_512 (by decide) (by decide +kernel)
def f_B_needPlace (g0 : gG) (p0 : Int64) (p1 : Int64) (w : gW) : gX Unit := gbind (f_B_needWithin g0 p0 (-5000) 5000 w) fun v3 w => gbind (f_B_needWithin g0 p1 (-5000) 5000 w) fun v6 w => some (.inr (), w)
set_option maxHeartbeats 4000000 in
set_option maxRecDepth 100000 in
theorem m_B_needPlace (l : Launch) (hst : l.stackTraces = false) (D : gD) (g0 : gG) (p0 : Int64) (p1 : Int64) (w : gW) (r : (String ⊕ Unit) × gW) (h : f_B_needPlace g0 p0 p1 w = some r) : gMet l y_B_needPlace (.code y_B_needPlace b_B_needPlace 4 none) rm_B_needPlace D g0 [.long p0, .long p1] w (goV r) := by
  refine gw_ofV (by decide +kernel) (Nat.le_of_ble_eq_true rfl) ?_
  intro p e s m below meth c ls args A Q hx hb hml hown hlocks hin hnt hT hK hZ hA hret hexc hthr hI hl
  obtain ⟨H, hH⟩ : ∃ H, H = s.heap := ⟨_, rfl⟩
  rw [← hH] at hI ⊢
  obtain ⟨locs, hlocs⟩ : ∃ z : List Loc, z = [] := ⟨_, rfl⟩
  rw [← hlocs] at hI ⊢
  have hl : lv_has ls 4 [(0, .long p0), (2, .long p1)] := hl
  unfold f_B_needPlace at h
  refine lv_lload_n hx hb d_B_needPlace_0 rfl (lv_at hl 0 rfl) ?_
  refine lv_ldc2 (v := (-5000)) hx hb hown (hT _ wd_514 args) d_B_needPlace_1 ?_
  refine lv_ldc2 (v := 5000) hx hb hown (hT _ wd_515 args) d_B_needPlace_4 ?_
  obtain ⟨u1, e2⟩ := gsome h
  refine gw_callV e2 h (gw_runS (As := [.long p0, .long (-5000), .long 5000]) (rest := []) hx hb hml hown hT hK hZ hA hI (m_B_needWithin l hst D g0 p0 (-5000) 5000 w u1 e2) ce_B_needWithin wd_516 ⟨by decide, by decide⟩ rfl rfl hl.1 rfl (lv_room (Nat.le_of_ble_eq_true rfl)) d_B_needPlace_7 ⟨(show 0 + 1 ≤ 2 by omega), (show 0 + 6 ≤ 12 by omega)⟩) hI hA hexc (show 0 + 1 ≤ 2 by omega) (show 0 + 6 ≤ 12 by omega) (fun v3 w H locs h hI => ?_)
  refine W.widen (k := 1) (n := 6) (show 0 + 1 ≤ 1 by omega) (show 0 + 6 ≤ 6 by omega) ?_
  refine lv_lload_n hx hb d_B_needPlace_10 rfl (lv_at hl 1 rfl) ?_
  refine lv_ldc2 (v := (-5000)) hx hb hown (hT _ wd_514 args) d_B_needPlace_11 ?_
  refine lv_ldc2 (v := 5000) hx hb hown (hT _ wd_515 args) d_B_needPlace_14 ?_
  obtain ⟨u4, e5⟩ := gsome h
  refine gw_callV e5 h (gw_runS (As := [.long p1, .long (-5000), .long 5000]) (rest := []) hx hb hml hown hT hK hZ hA hI (m_B_needWithin l hst D g0 p1 (-5000) 5000 w u4 e5) ce_B_needWithin wd_516 ⟨by decide, by decide⟩ rfl rfl hl.1 rfl (lv_room (Nat.le_of_ble_eq_true rfl)) d_B_needPlace_17 ⟨(show 1 + 1 ≤ 2 by omega), (show 6 + 6 ≤ 12 by omega)⟩) hI hA hexc (show 1 + 1 ≤ 2 by omega) (show 6 + 6 ≤ 12 by omega) (fun v6 w H locs h hI => ?_)
  refine W.widen (k := 2) (n := 12) (show 1 + 1 ≤ 2 by omega) (show 6 + 6 ≤ 12 by omega) ?_
  exact W.widen (show 2 ≤ 2 by omega) (show 12 ≤ 12 by omega) (hret _ _ (Option.some.inj h).symm _ _ _ _ d_B_needPlace_20 hI)

abbrev b_B_needSize : ByteArray := prog_1_method_22_code
def y_B_needSize : MethodName := ⟨"BodySolids", "needSize", "(J)V"⟩
theorem d_B_needSize_0 : decode b_B_needSize 0 = .ok (.lload_n 0, 1) := by decide +kernel
theorem d_B_needSize_1 : decode b_B_needSize 1 = .ok (.lconst 1, 1) := by decide +kernel
theorem d_B_needSize_2 : decode b_B_needSize 2 = .ok (.ldc2_w 148, 3) := by decide +kernel
theorem d_B_needSize_5 : decode b_B_needSize 5 = .ok (.invokestatic 138, 3) := by decide +kernel
theorem d_B_needSize_8 : decode b_B_needSize 8 = .ok (.return_, 1) := by decide +kernel
abbrev rm_B_needSize : Room := { frames := 8, cells := 1, slots := 6, locals := 115 }
theorem ce_B_needSize : gCe y_B_needSize (.code y_B_needSize b_B_needSize 2 none) 2 1 true := gCe.code wd_537 wd_49 wd_536 (by decide) (by decide +kernel)
def f_B_needSize (g0 : gG) (p0 : Int64) (w : gW) : gX Unit := gbind (f_B_needWithin g0 p0 1 5000 w) fun v3 w => some (.inr (), w)
set_option maxHeartbeats 4000000 in
set_option maxRecDepth 100000 in
theorem m_B_needSize (l : Launch) (hst : l.stackTraces = false) (D : gD) (g0 : gG) (p0 : Int64) (w : gW) (r : (String ⊕ Unit) × gW) (h : f_B_needSize g0 p0 w = some r) : gMet l y_B_needSize (.code y_B_needSize b_B_needSize 2 none) rm_B_needSize D g0 [.long p0] w (goV r) := by
  refine gw_ofV (by decide +kernel) (Nat.le_of_ble_eq_true rfl) ?_
  intro p e s m below meth c ls args A Q hx hb hml hown hlocks hin hnt hT hK hZ hA hret hexc hthr hI hl
  obtain ⟨H, hH⟩ : ∃ H, H = s.heap := ⟨_, rfl⟩
  rw [← hH] at hI ⊢
  obtain ⟨locs, hlocs⟩ : ∃ z : List Loc, z = [] := ⟨_, rfl⟩
  rw [← hlocs] at hI ⊢
  have hl : lv_has ls 2 [(0, .long p0)] := hl
  unfold f_B_needSize at h
  refine lv_lload_n hx hb d_B_needSize_0 rfl (lv_at hl 0 rfl) ?_
  refine lv_lconst (v := 1) hx hb d_B_needSize_1 (by decide) ?_
  refine lv_ldc2 (v := 5000) hx hb hown (hT _ wd_515 args) d_B_needSize_2 ?_
  obtain ⟨u1, e2⟩ := gsome h
  refine gw_callV e2 h (gw_runS (As := [.long p0, .long 1, .long 5000]) (rest := []) hx hb hml hown hT hK hZ hA hI (m_B_needWithin l hst D g0 p0 1 5000 w u1 e2) ce_B_needWithin wd_516 ⟨by decide, by decide⟩ rfl rfl hl.1 rfl (lv_room (Nat.le_of_ble_eq_true rfl)) d_B_needSize_5 ⟨(show 0 + 1 ≤ 1 by omega), (show 0 + 6 ≤ 6 by omega)⟩) hI hA hexc (show 0 + 1 ≤ 1 by omega) (show 0 + 6 ≤ 6 by omega) (fun v3 w H locs h hI => ?_)
  refine W.widen (k := 1) (n := 6) (show 0 + 1 ≤ 1 by omega) (show 0 + 6 ≤ 6 by omega) ?_
  exact W.widen (show 1 ≤ 1 by omega) (show 6 ≤ 6 by omega) (hret _ _ (Option.some.inj h).symm _ _ _ _ d_B_needSize_8 hI)

abbrev b_B_needUpright : ByteArray := prog_1_method_23_code
def y_B_needUpright : MethodName := ⟨"BodySolids", "needUpright", "(JJ)V"⟩
theorem d_B_needUpright_0 : decode b_B_needUpright 0 = .ok (.lload_n 0, 1) := by decide +kernel
theorem d_B_needUpright_1 : decode b_B_needUpright 1 = .ok (.lconst 0, 1) := by decide +kernel
theorem d_B_needUpright_2 : decode b_B_needUpright 2 = .ok (.ldc2_w 148, 3) := by decide +kernel
theorem d_B_needUpright_5 : decode b_B_needUpright 5 = .ok (.invokestatic 138, 3) := by decide +kernel
theorem d_B_needUpright_8 : decode b_B_needUpright 8 = .ok (.lload_n 2, 1) := by decide +kernel
theorem d_B_needUpright_9 : decode b_B_needUpright 9 = .ok (.invokestatic 87, 3) := by decide +kernel
theorem d_B_needUpright_12 : decode b_B_needUpright 12 = .ok (.lload_n 0, 1) := by decide +kernel
theorem d_B_needUpright_13 : decode b_B_needUpright 13 = .ok (.lload_n 2, 1) := by decide +kernel
theorem d_B_needUpright_14 : decode b_B_needUpright 14 = .ok (.ladd, 1) := by decide +kernel
theorem d_B_needUpright_15 : decode b_B_needUpright 15 = .ok (.lconst 0, 1) := by decide +kernel
theorem d_B_needUpright_16 : decode b_B_needUpright 16 = .ok (.ldc2_w 148, 3) := by decide +kernel
theorem d_B_needUpright_19 : decode b_B_needUpright 19 = .ok (.invokestatic 138, 3) := by decide +kernel
theorem d_B_needUpright_22 : decode b_B_needUpright 22 = .ok (.return_, 1) := by decide +kernel
abbrev rm_B_needUpright : Room := { frames := 9, cells := 3, slots := 18, locals := 136 }
theorem ce_B_needUpright : gCe y_B_needUpright (.code y_B_needUpright b_B_needUpright 4 none) 4 2 true := gCe.code wd_540 wd_49 wd_539 (by decide) (by decide +kernel)
def f_B_needUpright (g0 : gG) (p0 : Int64) (p1 : Int64) (w : gW) : gX Unit := gbind (f_B_needWithin g0 p0 0 5000 w) fun v3 w => gbind (f_B_needSize g0 p1 w) fun v6 w => gbind (f_B_needWithin g0 (p0 + p1) 0 5000 w) fun v9 w => some (.inr (), w)
set_option maxHeartbeats 4000000 in
set_option maxRecDepth 100000 in
theorem m_B_needUpright (l : Launch) (hst : l.stackTraces = false) (D : gD) (g0 : gG) (p0 : Int64) (p1 : Int64) (w : gW) (r : (String ⊕ Unit) × gW) (h : f_B_needUpright g0 p0 p1 w = some r) : gMet l y_B_needUpright (.code y_B_needUpright b_B_needUpright 4 none) rm_B_needUpright D g0 [.long p0, .long p1] w (goV r) := by
  refine gw_ofV (by decide +kernel) (Nat.le_of_ble_eq_true rfl) ?_
  intro p e s m below meth c ls args A Q hx hb hml hown hlocks hin hnt hT hK hZ hA hret hexc hthr hI hl
  obtain ⟨H, hH⟩ : ∃ H, H = s.heap := ⟨_, rfl⟩
  rw [← hH] at hI ⊢
  obtain ⟨locs, hlocs⟩ : ∃ z : List Loc, z = [] := ⟨_, rfl⟩
  rw [← hlocs] at hI ⊢
  have hl : lv_has ls 4 [(0, .long p0), (2, .long p1)] := hl
  unfold f_B_needUpright at h
  refine lv_lload_n hx hb d_B_needUpright_0 rfl (lv_at hl 0 rfl) ?_
  refine lv_lconst (v := 0) hx hb d_B_needUpright_1 (by decide) ?_
  refine lv_ldc2 (v := 5000) hx hb hown (hT _ wd_515 args) d_B_needUpright_2 ?_
  obtain ⟨u1, e2⟩ := gsome h
  refine gw_callV e2 h (gw_runS (As := [.long p0, .long 0, .long 5000]) (rest := []) hx hb hml hown hT hK hZ hA hI (m_B_needWithin l hst D g0 p0 0 5000 w u1 e2) ce_B_needWithin wd_516 ⟨by decide, by decide⟩ rfl rfl hl.1 rfl (lv_room (Nat.le_of_ble_eq_true rfl)) d_B_needUpright_5 ⟨(show 0 + 1 ≤ 3 by omega), (show 0 + 6 ≤ 18 by omega)⟩) hI hA hexc (show 0 + 1 ≤ 3 by omega) (show 0 + 6 ≤ 18 by omega) (fun v3 w H locs h hI => ?_)
  refine W.widen (k := 1) (n := 6) (show 0 + 1 ≤ 1 by omega) (show 0 + 6 ≤ 6 by omega) ?_
  refine lv_lload_n hx hb d_B_needUpright_8 rfl (lv_at hl 1 rfl) ?_
  obtain ⟨u4, e5⟩ := gsome h
  refine gw_callV e5 h (gw_runS (As := [.long p1]) (rest := []) hx hb hml hown hT hK hZ hA hI (m_B_needSize l hst D g0 p1 w u4 e5) ce_B_needSize wd_535 ⟨by decide, by decide⟩ rfl rfl hl.1 rfl (lv_room (Nat.le_of_ble_eq_true rfl)) d_B_needUpright_9 ⟨(show 1 + 1 ≤ 3 by omega), (show 6 + 6 ≤ 18 by omega)⟩) hI hA hexc (show 1 + 1 ≤ 3 by omega) (show 6 + 6 ≤ 18 by omega) (fun v6 w H locs h hI => ?_)
  refine W.widen (k := 2) (n := 12) (show 1 + 1 ≤ 2 by omega) (show 6 + 6 ≤ 12 by omega) ?_
  refine lv_lload_n hx hb d_B_needUpright_12 rfl (lv_at hl 0 rfl) ?_
  refine lv_lload_n hx hb d_B_needUpright_13 rfl (lv_at hl 1 rfl) ?_
  refine lv_ladd hx hb d_B_needUpright_14 ?_
  refine lv_lconst (v := 0) hx hb d_B_needUpright_15 (by decide) ?_
  refine lv_ldc2 (v := 5000) hx hb hown (hT _ wd_515 args) d_B_needUpright_16 ?_
  obtain ⟨u7, e8⟩ := gsome h
  refine gw_callV e8 h (gw_runS (As := [.long (p0 + p1), .long 0, .long 5000]) (rest := []) hx hb hml hown hT hK hZ hA hI (m_B_needWithin l hst D g0 (p0 + p1) 0 5000 w u7 e8) ce_B_needWithin wd_516 ⟨by decide, by decide⟩ rfl rfl hl.1 rfl (lv_room (Nat.le_of_ble_eq_true rfl)) d_B_needUpright_19 ⟨(show 2 + 1 ≤ 3 by omega), (show 12 + 6 ≤ 18 by omega)⟩) hI hA hexc (show 2 + 1 ≤ 3 by omega) (show 12 + 6 ≤ 18 by omega) (fun v9 w H locs h hI => ?_)
  refine W.widen (k := 3) (n := 18) (show 2 + 1 ≤ 3 by omega) (show 12 + 6 ≤ 18 by omega) ?_
  exact W.widen (show 3 ≤ 3 by omega) (show 18 ≤ 18 by omega) (hret _ _ (Option.some.inj h).symm _ _ _ _ d_B_needUpright_22 hI)

abbrev b_By_isFull : ByteArray := prog_2_method_2_code
def y_By_isFull : MethodName := ⟨"BodySolids$Body", "isFull", "()Z"⟩
theorem d_By_isFull_0 : decode b_By_isFull 0 = .ok (.aload_n 0, 1) := by decide +kernel
theorem d_By_isFull_1 : decode b_By_isFull 1 = .ok (.getfield 12, 3) := by decide +kernel
theorem d_By_isFull_4 : decode b_By_isFull 4 = .ok (.invokevirtual 22, 3) := by decide +kernel
theorem d_By_isFull_7 : decode b_By_isFull 7 = .ok (.bipush 12, 2) := by decide +kernel
theorem d_By_isFull_9 : decode b_By_isFull 9 = .ok (.if_icmp .lt 7, 3) := by decide +kernel
theorem d_By_isFull_12 : decode b_By_isFull 12 = .ok (.iconst 1, 1) := by decide +kernel
theorem d_By_isFull_13 : decode b_By_isFull 13 = .ok (.goto 4, 3) := by decide +kernel
theorem d_By_isFull_16 : decode b_By_isFull 16 = .ok (.iconst 0, 1) := by decide +kernel
theorem d_By_isFull_17 : decode b_By_isFull 17 = .ok (.ireturn, 1) := by decide +kernel
abbrev rm_By_isFull : Room := { frames := 1, cells := 0, slots := 0, locals := 20 }
theorem ce_By_isFull : gCe y_By_isFull (.code y_By_isFull b_By_isFull 1 (some .boolean)) 1 0 false := gCe.code wd_544 wd_58 wd_542 (by decide) (by decide +kernel)
def f_By_isFull (g0 : gG) (a0 : Nat) (w : gW) : gX Int32 := (gfA w a0 4 0).bind fun v1 => (gck w v1 1).bind fun _ => gbind (f_AL_size g0 v1 w) fun v7 w => gjoin (fun K17 => if v7 < 12 then (K17 0 w) else (K17 1 w)) (fun (y8 : Int32) (w : gW) => gguard (y8 = 0 ∨ y8 = 1) (some (.inr y8, w)))
set_option maxHeartbeats 4000000 in
set_option maxRecDepth 100000 in
theorem m_By_isFull (l : Launch) (hst : l.stackTraces = false) (D : gD) (g0 : gG) (a0 : Nat) (w : gW) (r : (String ⊕ Int32) × gW) (h : f_By_isFull g0 a0 w = some r) : gMet l y_By_isFull (.code y_By_isFull b_By_isFull 1 (some .boolean)) rm_By_isFull D g0 [.ref a0] w (goI r) := by
  refine gw_ofZ (by decide +kernel) (Nat.le_of_ble_eq_true rfl) ?_
  intro p e s m below meth c ls args A Q hx hb hml hown hlocks hin hnt hT hK hZ hA hret hexc hthr hI hl
  obtain ⟨H, hH⟩ : ∃ H, H = s.heap := ⟨_, rfl⟩
  rw [← hH] at hI ⊢
  obtain ⟨locs, hlocs⟩ : ∃ z : List Loc, z = [] := ⟨_, rfl⟩
  rw [← hlocs] at hI ⊢
  have hl : lv_has ls 1 [(0, .ref a0)] := hl
  unfold f_By_isFull at h
  refine lv_aload_n hx hb d_By_isFull_0 rfl (lv_at hl 0 rfl) ?_
  obtain ⟨v1, e2, h⟩ := gb h
  refine gw_getA hx hb hT hown hK hI (ci := 4) rfl i_4 0 (by decide) wd_236 (fun _ h9 => h9) e2 d_By_isFull_1 ?_
  obtain ⟨q5, e6, h⟩ := gb h
  obtain ⟨u3, e4⟩ := gsome h
  refine gw_callI e4 h (gw_runV (As := []) (rest := []) hx hb hml hown hT hK hZ hA hI (ci := 1) rfl e6 (m_AL_size l hst D g0 v1 w u3 e4) ce_AL_size wd_545 wd_226 ⟨by decide, by decide⟩ rfl rfl hl.1 rfl (lv_room (Nat.le_of_ble_eq_true rfl)) d_By_isFull_4 ⟨(show 0 + 0 ≤ 0 by omega), (show 0 + 0 ≤ 0 by omega)⟩) hI hA hexc (show 0 + 0 ≤ 0 by omega) (show 0 + 0 ≤ 0 by omega) (fun v7 w H locs h hI => ?_)
  refine lv_bipush (v := 12) hx hb d_By_isFull_7 (by decide) ?_
  obtain ⟨K17, eK17, h⟩ := gj h
  have hK17 : ∀ (y8 : Int32) (w : gW) (H : Heap) (locs : List Loc) (ls : Array Slot), K17 y8 w = some r → gI D s A w H locs → lv_has ls 1 [] → W p l e rm_By_isFull s m args below meth c H locs 0 0 Q (F0 m 17 ls [.int y8]) := by
    intro y8 w H locs ls h hI hl
    have h := gk2 eK17 h
    obtain ⟨g9, h⟩ := gif h
    exact W.widen (show 0 ≤ 0 by omega) (show 0 ≤ 0 by omega) (hret g9 0 _ (Option.some.inj h).symm _ _ _ _ d_By_isFull_17 hI)
  refine lv_icmp_lt (tgt := 16) hx hb d_By_isFull_9 (by decide) (fun c10 => ?_) (fun c10 => ?_)
  · skip
    have h := git c10 h
    refine lv_iconst (v := 0) hx hb d_By_isFull_16 (by decide) ?_
    exact hK17 _ w H locs ls h hI (lv_sub hl [] rfl)
  · skip
    have h := gie c10 h
    refine lv_iconst (v := 1) hx hb d_By_isFull_12 (by decide) ?_
    refine lv_goto (tgt := 17) hx hb d_By_isFull_13 (by decide) ?_
    exact hK17 _ w H locs ls h hI (lv_sub hl [] rfl)

abbrev b_So_begin : ByteArray := prog_7_method_2_code
def y_So_begin : MethodName := ⟨"BodySolids$Solid", "begin", "(IJJ)V"⟩
theorem d_So_begin_0 : decode b_So_begin 0 = .ok (.aload_n 0, 1) := by decide +kernel
theorem d_So_begin_1 : decode b_So_begin 1 = .ok (.iload_n 1, 1) := by decide +kernel
theorem d_So_begin_2 : decode b_So_begin 2 = .ok (.putfield 18, 3) := by decide +kernel
theorem d_So_begin_5 : decode b_So_begin 5 = .ok (.aload_n 0, 1) := by decide +kernel
theorem d_So_begin_6 : decode b_So_begin 6 = .ok (.lload_n 2, 1) := by decide +kernel
theorem d_So_begin_7 : decode b_So_begin 7 = .ok (.putfield 22, 3) := by decide +kernel
theorem d_So_begin_10 : decode b_So_begin 10 = .ok (.aload_n 0, 1) := by decide +kernel
theorem d_So_begin_11 : decode b_So_begin 11 = .ok (.lload 4, 2) := by decide +kernel
theorem d_So_begin_13 : decode b_So_begin 13 = .ok (.putfield 26, 3) := by decide +kernel
theorem d_So_begin_16 : decode b_So_begin 16 = .ok (.aload_n 0, 1) := by decide +kernel
theorem d_So_begin_17 : decode b_So_begin 17 = .ok (.iconst 0, 1) := by decide +kernel
theorem d_So_begin_18 : decode b_So_begin 18 = .ok (.putfield 29, 3) := by decide +kernel
theorem d_So_begin_21 : decode b_So_begin 21 = .ok (.return_, 1) := by decide +kernel
abbrev rm_So_begin : Room := { frames := 0, cells := 0, slots := 0, locals := 0 }
theorem ce_So_begin : gCe y_So_begin (.code y_So_begin b_So_begin 6 none) 6 3 false := gCe.code wd_350 wd_56 wd_348 (by decide) (by decide +kernel)
def f_So_begin (g0 : gG) (a0 : Nat) (p1 : Int32) (p2 : Int64) (p3 : Int64) (w : gW) : gX Unit := (gp w a0 3 0 (.int p1)).bind fun w => (gp w a0 3 1 (.long p2)).bind fun w => (gp w a0 3 2 (.long p3)).bind fun w => (gp w a0 3 5 (.int 0)).bind fun w => some (.inr (), w)
set_option maxHeartbeats 4000000 in
set_option maxRecDepth 100000 in
theorem m_So_begin (l : Launch) (hst : l.stackTraces = false) (D : gD) (g0 : gG) (a0 : Nat) (p1 : Int32) (p2 : Int64) (p3 : Int64) (w : gW) (r : (String ⊕ Unit) × gW) (h : f_So_begin g0 a0 p1 p2 p3 w = some r) : gMet l y_So_begin (.code y_So_begin b_So_begin 6 none) rm_So_begin D g0 [.ref a0, .int p1, .long p2, .long p3] w (goV r) := by
  refine gw_ofV (by decide +kernel) (Nat.le_of_ble_eq_true rfl) ?_
  intro p e s m below meth c ls args A Q hx hb hml hown hlocks hin hnt hT hK hZ hA hret hexc hthr hI hl
  obtain ⟨H, hH⟩ : ∃ H, H = s.heap := ⟨_, rfl⟩
  rw [← hH] at hI ⊢
  obtain ⟨locs, hlocs⟩ : ∃ z : List Loc, z = [] := ⟨_, rfl⟩
  rw [← hlocs] at hI ⊢
  have hl : lv_has ls 6 [(0, .ref a0), (1, .int p1), (2, .long p2), (4, .long p3)] := hl
  unfold f_So_begin at h
  refine lv_aload_n hx hb d_So_begin_0 rfl (lv_at hl 0 rfl) ?_
  refine lv_iload_n hx hb d_So_begin_1 rfl (lv_at hl 1 rfl) ?_
  obtain ⟨w, e1, h⟩ := gb h
  refine gw_put hx hb hT hown hK hI (ci := 3) rfl i_3 t_3 t_3_ok n_3 0 (by decide) wd_129 (fun _ h9 => h9) rfl (ty := .int) (by decide +kernel) rfl rfl e1 d_So_begin_2 (fun H locs hI => ?_)
  refine lv_aload_n hx hb d_So_begin_5 rfl (lv_at hl 0 rfl) ?_
  refine lv_lload_n hx hb d_So_begin_6 rfl (lv_at hl 2 rfl) ?_
  obtain ⟨w, e2, h⟩ := gb h
  refine gw_put hx hb hT hown hK hI (ci := 3) rfl i_3 t_3 t_3_ok n_3 1 (by decide) wd_132 (fun _ h9 => h9) rfl (ty := .long) (by decide +kernel) rfl rfl e2 d_So_begin_7 (fun H locs hI => ?_)
  refine lv_aload_n hx hb d_So_begin_10 rfl (lv_at hl 0 rfl) ?_
  refine lv_lload hx hb d_So_begin_11 (lv_at hl 3 rfl) ?_
  obtain ⟨w, e3, h⟩ := gb h
  refine gw_put hx hb hT hown hK hI (ci := 3) rfl i_3 t_3 t_3_ok n_3 2 (by decide) wd_134 (fun _ h9 => h9) rfl (ty := .long) (by decide +kernel) rfl rfl e3 d_So_begin_13 (fun H locs hI => ?_)
  refine lv_aload_n hx hb d_So_begin_16 rfl (lv_at hl 0 rfl) ?_
  refine lv_iconst (v := 0) hx hb d_So_begin_17 (by decide) ?_
  obtain ⟨w, e4, h⟩ := gb h
  refine gw_put hx hb hT hown hK hI (ci := 3) rfl i_3 t_3 t_3_ok n_3 5 (by decide) wd_139 (fun _ h9 => h9) rfl (ty := .int) (by decide +kernel) rfl rfl e4 d_So_begin_18 (fun H locs hI => ?_)
  exact W.widen (show 0 ≤ 0 by omega) (show 0 ≤ 0 by omega) (hret _ _ (Option.some.inj h).symm _ _ _ _ d_So_begin_21 hI)

abbrev b_So_addCorner : ByteArray := prog_7_method_3_code
def y_So_addCorner : MethodName := ⟨"BodySolids$Solid", "addCorner", "(JJ)V"⟩
theorem d_So_addCorner_0 : decode b_So_addCorner 0 = .ok (.aload_n 0, 1) := by decide +kernel
theorem d_So_addCorner_1 : decode b_So_addCorner 1 = .ok (.getfield 29, 3) := by decide +kernel
theorem d_So_addCorner_4 : decode b_So_addCorner 4 = .ok (.bipush 8, 2) := by decide +kernel
theorem d_So_addCorner_6 : decode b_So_addCorner 6 = .ok (.if_icmp .lt 4, 3) := by decide +kernel
theorem d_So_addCorner_9 : decode b_So_addCorner 9 = .ok (.return_, 1) := by decide +kernel
theorem d_So_addCorner_10 : decode b_So_addCorner 10 = .ok (.aload_n 0, 1) := by decide +kernel
theorem d_So_addCorner_11 : decode b_So_addCorner 11 = .ok (.aload_n 0, 1) := by decide +kernel
theorem d_So_addCorner_12 : decode b_So_addCorner 12 = .ok (.getfield 29, 3) := by decide +kernel
theorem d_So_addCorner_15 : decode b_So_addCorner 15 = .ok (.ifCond .ne 7, 3) := by decide +kernel
theorem d_So_addCorner_18 : decode b_So_addCorner 18 = .ok (.lload_n 1, 1) := by decide +kernel
theorem d_So_addCorner_19 : decode b_So_addCorner 19 = .ok (.goto 11, 3) := by decide +kernel
theorem d_So_addCorner_22 : decode b_So_addCorner 22 = .ok (.aload_n 0, 1) := by decide +kernel
theorem d_So_addCorner_23 : decode b_So_addCorner 23 = .ok (.getfield 32, 3) := by decide +kernel
theorem d_So_addCorner_26 : decode b_So_addCorner 26 = .ok (.lload_n 1, 1) := by decide +kernel
theorem d_So_addCorner_27 : decode b_So_addCorner 27 = .ok (.invokestatic 35, 3) := by decide +kernel
theorem d_So_addCorner_30 : decode b_So_addCorner 30 = .ok (.putfield 32, 3) := by decide +kernel
theorem d_So_addCorner_33 : decode b_So_addCorner 33 = .ok (.aload_n 0, 1) := by decide +kernel
theorem d_So_addCorner_34 : decode b_So_addCorner 34 = .ok (.aload_n 0, 1) := by decide +kernel
theorem d_So_addCorner_35 : decode b_So_addCorner 35 = .ok (.getfield 29, 3) := by decide +kernel
theorem d_So_addCorner_38 : decode b_So_addCorner 38 = .ok (.ifCond .ne 7, 3) := by decide +kernel
theorem d_So_addCorner_41 : decode b_So_addCorner 41 = .ok (.lload_n 3, 1) := by decide +kernel
theorem d_So_addCorner_42 : decode b_So_addCorner 42 = .ok (.goto 11, 3) := by decide +kernel
theorem d_So_addCorner_45 : decode b_So_addCorner 45 = .ok (.aload_n 0, 1) := by decide +kernel
theorem d_So_addCorner_46 : decode b_So_addCorner 46 = .ok (.getfield 41, 3) := by decide +kernel
theorem d_So_addCorner_49 : decode b_So_addCorner 49 = .ok (.lload_n 3, 1) := by decide +kernel
theorem d_So_addCorner_50 : decode b_So_addCorner 50 = .ok (.invokestatic 35, 3) := by decide +kernel
theorem d_So_addCorner_53 : decode b_So_addCorner 53 = .ok (.putfield 41, 3) := by decide +kernel
theorem d_So_addCorner_56 : decode b_So_addCorner 56 = .ok (.aload_n 0, 1) := by decide +kernel
theorem d_So_addCorner_57 : decode b_So_addCorner 57 = .ok (.aload_n 0, 1) := by decide +kernel
theorem d_So_addCorner_58 : decode b_So_addCorner 58 = .ok (.getfield 29, 3) := by decide +kernel
theorem d_So_addCorner_61 : decode b_So_addCorner 61 = .ok (.ifCond .ne 7, 3) := by decide +kernel
theorem d_So_addCorner_64 : decode b_So_addCorner 64 = .ok (.lload_n 1, 1) := by decide +kernel
theorem d_So_addCorner_65 : decode b_So_addCorner 65 = .ok (.goto 11, 3) := by decide +kernel
theorem d_So_addCorner_68 : decode b_So_addCorner 68 = .ok (.aload_n 0, 1) := by decide +kernel
theorem d_So_addCorner_69 : decode b_So_addCorner 69 = .ok (.getfield 44, 3) := by decide +kernel
theorem d_So_addCorner_72 : decode b_So_addCorner 72 = .ok (.lload_n 1, 1) := by decide +kernel
theorem d_So_addCorner_73 : decode b_So_addCorner 73 = .ok (.invokestatic 47, 3) := by decide +kernel
theorem d_So_addCorner_76 : decode b_So_addCorner 76 = .ok (.putfield 44, 3) := by decide +kernel
theorem d_So_addCorner_79 : decode b_So_addCorner 79 = .ok (.aload_n 0, 1) := by decide +kernel
theorem d_So_addCorner_80 : decode b_So_addCorner 80 = .ok (.aload_n 0, 1) := by decide +kernel
theorem d_So_addCorner_81 : decode b_So_addCorner 81 = .ok (.getfield 29, 3) := by decide +kernel
theorem d_So_addCorner_84 : decode b_So_addCorner 84 = .ok (.ifCond .ne 7, 3) := by decide +kernel
theorem d_So_addCorner_87 : decode b_So_addCorner 87 = .ok (.lload_n 3, 1) := by decide +kernel
theorem d_So_addCorner_88 : decode b_So_addCorner 88 = .ok (.goto 11, 3) := by decide +kernel
theorem d_So_addCorner_91 : decode b_So_addCorner 91 = .ok (.aload_n 0, 1) := by decide +kernel
theorem d_So_addCorner_92 : decode b_So_addCorner 92 = .ok (.getfield 50, 3) := by decide +kernel
theorem d_So_addCorner_95 : decode b_So_addCorner 95 = .ok (.lload_n 3, 1) := by decide +kernel
theorem d_So_addCorner_96 : decode b_So_addCorner 96 = .ok (.invokestatic 47, 3) := by decide +kernel
theorem d_So_addCorner_99 : decode b_So_addCorner 99 = .ok (.putfield 50, 3) := by decide +kernel
theorem d_So_addCorner_102 : decode b_So_addCorner 102 = .ok (.aload_n 0, 1) := by decide +kernel
theorem d_So_addCorner_103 : decode b_So_addCorner 103 = .ok (.getfield 9, 3) := by decide +kernel
theorem d_So_addCorner_106 : decode b_So_addCorner 106 = .ok (.aload_n 0, 1) := by decide +kernel
theorem d_So_addCorner_107 : decode b_So_addCorner 107 = .ok (.getfield 29, 3) := by decide +kernel
theorem d_So_addCorner_110 : decode b_So_addCorner 110 = .ok (.lload_n 1, 1) := by decide +kernel
theorem d_So_addCorner_111 : decode b_So_addCorner 111 = .ok (.lastore, 1) := by decide +kernel
theorem d_So_addCorner_112 : decode b_So_addCorner 112 = .ok (.aload_n 0, 1) := by decide +kernel
theorem d_So_addCorner_113 : decode b_So_addCorner 113 = .ok (.getfield 15, 3) := by decide +kernel
theorem d_So_addCorner_116 : decode b_So_addCorner 116 = .ok (.aload_n 0, 1) := by decide +kernel
theorem d_So_addCorner_117 : decode b_So_addCorner 117 = .ok (.getfield 29, 3) := by decide +kernel
theorem d_So_addCorner_120 : decode b_So_addCorner 120 = .ok (.lload_n 3, 1) := by decide +kernel
theorem d_So_addCorner_121 : decode b_So_addCorner 121 = .ok (.lastore, 1) := by decide +kernel
theorem d_So_addCorner_122 : decode b_So_addCorner 122 = .ok (.aload_n 0, 1) := by decide +kernel
theorem d_So_addCorner_123 : decode b_So_addCorner 123 = .ok (.dup, 1) := by decide +kernel
theorem d_So_addCorner_124 : decode b_So_addCorner 124 = .ok (.getfield 29, 3) := by decide +kernel
theorem d_So_addCorner_127 : decode b_So_addCorner 127 = .ok (.iconst 1, 1) := by decide +kernel
theorem d_So_addCorner_128 : decode b_So_addCorner 128 = .ok (.iadd, 1) := by decide +kernel
theorem d_So_addCorner_129 : decode b_So_addCorner 129 = .ok (.putfield 29, 3) := by decide +kernel
theorem d_So_addCorner_132 : decode b_So_addCorner 132 = .ok (.return_, 1) := by decide +kernel
abbrev rm_So_addCorner : Room := { frames := 1, cells := 0, slots := 0, locals := 23 }
theorem ce_So_addCorner : gCe y_So_addCorner (.code y_So_addCorner b_So_addCorner 5 none) 5 2 false := gCe.code wd_362 wd_56 wd_360 (by decide) (by decide +kernel)
def f_So_addCorner (g0 : gG) (a0 : Nat) (p1 : Int64) (p2 : Int64) (w : gW) : gX Unit := (gfI w a0 3 5).bind fun v1 => if v1 < 8 then ((gfI w a0 3 5).bind fun v4 => gjoin (fun K30 => if v4 = 0 then (K30 p1 w) else ((gfJ w a0 3 6).bind fun v52 => gbind (f_Ma_min2 g0 v52 p1 w) fun v56 w => K30 v56 w)) (fun (y6 : Int64) (w : gW) => (gp w a0 3 6 (.long y6)).bind fun w => (gfI w a0 3 5).bind fun v8 => gjoin (fun K53 => if v8 = 0 then (K53 p2 w) else ((gfJ w a0 3 7).bind fun v46 => gbind (f_Ma_min2 g0 v46 p2 w) fun v50 w => K53 v50 w)) (fun (y10 : Int64) (w : gW) => (gp w a0 3 7 (.long y10)).bind fun w => (gfI w a0 3 5).bind fun v12 => gjoin (fun K76 => if v12 = 0 then (K76 p1 w) else ((gfJ w a0 3 9).bind fun v40 => gbind (f_Ma_max2 g0 v40 p1 w) fun v44 w => K76 v44 w)) (fun (y14 : Int64) (w : gW) => (gp w a0 3 9 (.long y14)).bind fun w => (gfI w a0 3 5).bind fun v16 => gjoin (fun K99 => if v16 = 0 then (K99 p2 w) else ((gfJ w a0 3 10).bind fun v34 => gbind (f_Ma_max2 g0 v34 p2 w) fun v38 w => K99 v38 w)) (fun (y18 : Int64) (w : gW) => (gp w a0 3 10 (.long y18)).bind fun w => (gfA w a0 3 3).bind fun v20 => (gfI w a0 3 5).bind fun v22 => (gsJ w v20 v22 p1).bind fun w => (gfA w a0 3 4).bind fun v25 => (gfI w a0 3 5).bind fun v27 => (gsJ w v25 v27 p2).bind fun w => (gfI w a0 3 5).bind fun v30 => (gp w a0 3 5 (.int (v30 + 1))).bind fun w => some (.inr (), w)))))) else (some (.inr (), w))
set_option maxHeartbeats 4000000 in
set_option maxRecDepth 100000 in
theorem m_So_addCorner (l : Launch) (hst : l.stackTraces = false) (D : gD) (g0 : gG) (a0 : Nat) (p1 : Int64) (p2 : Int64) (w : gW) (r : (String ⊕ Unit) × gW) (h : f_So_addCorner g0 a0 p1 p2 w = some r) : gMet l y_So_addCorner (.code y_So_addCorner b_So_addCorner 5 none) rm_So_addCorner D g0 [.ref a0, .long p1, .long p2] w (goV r) := by
  refine gw_ofV (by decide +kernel) (Nat.le_of_ble_eq_true rfl) ?_
  intro p e s m below meth c ls args A Q hx hb hml hown hlocks hin hnt hT hK hZ hA hret hexc hthr hI hl
  obtain ⟨H, hH⟩ : ∃ H, H = s.heap := ⟨_, rfl⟩
  rw [← hH] at hI ⊢
  obtain ⟨locs, hlocs⟩ : ∃ z : List Loc, z = [] := ⟨_, rfl⟩
  rw [← hlocs] at hI ⊢
  have hl : lv_has ls 5 [(0, .ref a0), (1, .long p1), (3, .long p2)] := hl
  unfold f_So_addCorner at h
  refine lv_aload_n hx hb d_So_addCorner_0 rfl (lv_at hl 0 rfl) ?_
  obtain ⟨v1, e2, h⟩ := gb h
  refine gw_getI hx hb hT hown hK hI (ci := 3) rfl i_3 5 (by decide) wd_139 (fun _ h9 => h9) e2 d_So_addCorner_1 ?_
  refine lv_bipush (v := 8) hx hb d_So_addCorner_4 (by decide) ?_
  refine lv_icmp_lt (tgt := 10) hx hb d_So_addCorner_6 (by decide) (fun c3 => ?_) (fun c3 => ?_)
  · skip
    have h := git c3 h
    refine lv_aload_n hx hb d_So_addCorner_10 rfl (lv_at hl 0 rfl) ?_
    refine lv_aload_n hx hb d_So_addCorner_11 rfl (lv_at hl 0 rfl) ?_
    obtain ⟨v4, e5, h⟩ := gb h
    refine gw_getI hx hb hT hown hK hI (ci := 3) rfl i_3 5 (by decide) wd_139 (fun _ h9 => h9) e5 d_So_addCorner_12 ?_
    obtain ⟨K30, eK30, h⟩ := gj h
    have hK30 : ∀ (y6 : Int64) (w : gW) (H : Heap) (locs : List Loc) (ls : Array Slot), K30 y6 w = some r → gI D s A w H locs → lv_has ls 5 [(0, .ref a0), (1, .long p1), (3, .long p2)] → W p l e rm_So_addCorner s m args below meth c H locs 0 0 Q (F0 m 30 ls [.long y6, .ref a0]) := by
      intro y6 w H locs ls h hI hl
      have h := gk2 eK30 h
      obtain ⟨w, e7, h⟩ := gb h
      refine gw_put hx hb hT hown hK hI (ci := 3) rfl i_3 t_3 t_3_ok n_3 6 (by decide) wd_142 (fun _ h9 => h9) rfl (ty := .long) (by decide +kernel) rfl rfl e7 d_So_addCorner_30 (fun H locs hI => ?_)
      refine lv_aload_n hx hb d_So_addCorner_33 rfl (lv_at hl 0 rfl) ?_
      refine lv_aload_n hx hb d_So_addCorner_34 rfl (lv_at hl 0 rfl) ?_
      obtain ⟨v8, e9, h⟩ := gb h
      refine gw_getI hx hb hT hown hK hI (ci := 3) rfl i_3 5 (by decide) wd_139 (fun _ h9 => h9) e9 d_So_addCorner_35 ?_
      obtain ⟨K53, eK53, h⟩ := gj h
      have hK53 : ∀ (y10 : Int64) (w : gW) (H : Heap) (locs : List Loc) (ls : Array Slot), K53 y10 w = some r → gI D s A w H locs → lv_has ls 5 [(0, .ref a0), (1, .long p1), (3, .long p2)] → W p l e rm_So_addCorner s m args below meth c H locs 0 0 Q (F0 m 53 ls [.long y10, .ref a0]) := by
        intro y10 w H locs ls h hI hl
        have h := gk2 eK53 h
        obtain ⟨w, e11, h⟩ := gb h
        refine gw_put hx hb hT hown hK hI (ci := 3) rfl i_3 t_3 t_3_ok n_3 7 (by decide) wd_144 (fun _ h9 => h9) rfl (ty := .long) (by decide +kernel) rfl rfl e11 d_So_addCorner_53 (fun H locs hI => ?_)
        refine lv_aload_n hx hb d_So_addCorner_56 rfl (lv_at hl 0 rfl) ?_
        refine lv_aload_n hx hb d_So_addCorner_57 rfl (lv_at hl 0 rfl) ?_
        obtain ⟨v12, e13, h⟩ := gb h
        refine gw_getI hx hb hT hown hK hI (ci := 3) rfl i_3 5 (by decide) wd_139 (fun _ h9 => h9) e13 d_So_addCorner_58 ?_
        obtain ⟨K76, eK76, h⟩ := gj h
        have hK76 : ∀ (y14 : Int64) (w : gW) (H : Heap) (locs : List Loc) (ls : Array Slot), K76 y14 w = some r → gI D s A w H locs → lv_has ls 5 [(0, .ref a0), (1, .long p1), (3, .long p2)] → W p l e rm_So_addCorner s m args below meth c H locs 0 0 Q (F0 m 76 ls [.long y14, .ref a0]) := by
          intro y14 w H locs ls h hI hl
          have h := gk2 eK76 h
          obtain ⟨w, e15, h⟩ := gb h
          refine gw_put hx hb hT hown hK hI (ci := 3) rfl i_3 t_3 t_3_ok n_3 9 (by decide) wd_148 (fun _ h9 => h9) rfl (ty := .long) (by decide +kernel) rfl rfl e15 d_So_addCorner_76 (fun H locs hI => ?_)
          refine lv_aload_n hx hb d_So_addCorner_79 rfl (lv_at hl 0 rfl) ?_
          refine lv_aload_n hx hb d_So_addCorner_80 rfl (lv_at hl 0 rfl) ?_
          obtain ⟨v16, e17, h⟩ := gb h
          refine gw_getI hx hb hT hown hK hI (ci := 3) rfl i_3 5 (by decide) wd_139 (fun _ h9 => h9) e17 d_So_addCorner_81 ?_
          obtain ⟨K99, eK99, h⟩ := gj h
          have hK99 : ∀ (y18 : Int64) (w : gW) (H : Heap) (locs : List Loc) (ls : Array Slot), K99 y18 w = some r → gI D s A w H locs → lv_has ls 5 [(0, .ref a0), (1, .long p1), (3, .long p2)] → W p l e rm_So_addCorner s m args below meth c H locs 0 0 Q (F0 m 99 ls [.long y18, .ref a0]) := by
            intro y18 w H locs ls h hI hl
            have h := gk2 eK99 h
            obtain ⟨w, e19, h⟩ := gb h
            refine gw_put hx hb hT hown hK hI (ci := 3) rfl i_3 t_3 t_3_ok n_3 10 (by decide) wd_150 (fun _ h9 => h9) rfl (ty := .long) (by decide +kernel) rfl rfl e19 d_So_addCorner_99 (fun H locs hI => ?_)
            refine lv_aload_n hx hb d_So_addCorner_102 rfl (lv_at hl 0 rfl) ?_
            obtain ⟨v20, e21, h⟩ := gb h
            refine gw_getA hx hb hT hown hK hI (ci := 3) rfl i_3 3 (by decide) wd_135 (fun _ h9 => h9) e21 d_So_addCorner_103 ?_
            refine lv_aload_n hx hb d_So_addCorner_106 rfl (lv_at hl 0 rfl) ?_
            obtain ⟨v22, e23, h⟩ := gb h
            refine gw_getI hx hb hT hown hK hI (ci := 3) rfl i_3 5 (by decide) wd_139 (fun _ h9 => h9) e23 d_So_addCorner_107 ?_
            refine lv_lload_n hx hb d_So_addCorner_110 rfl (lv_at hl 1 rfl) ?_
            obtain ⟨w, e24, h⟩ := gb h
            refine gw_astJ hx hb hK hI e24 d_So_addCorner_111 (fun H locs hI => ?_)
            refine lv_aload_n hx hb d_So_addCorner_112 rfl (lv_at hl 0 rfl) ?_
            obtain ⟨v25, e26, h⟩ := gb h
            refine gw_getA hx hb hT hown hK hI (ci := 3) rfl i_3 4 (by decide) wd_137 (fun _ h9 => h9) e26 d_So_addCorner_113 ?_
            refine lv_aload_n hx hb d_So_addCorner_116 rfl (lv_at hl 0 rfl) ?_
            obtain ⟨v27, e28, h⟩ := gb h
            refine gw_getI hx hb hT hown hK hI (ci := 3) rfl i_3 5 (by decide) wd_139 (fun _ h9 => h9) e28 d_So_addCorner_117 ?_
            refine lv_lload_n hx hb d_So_addCorner_120 rfl (lv_at hl 2 rfl) ?_
            obtain ⟨w, e29, h⟩ := gb h
            refine gw_astJ hx hb hK hI e29 d_So_addCorner_121 (fun H locs hI => ?_)
            refine lv_aload_n hx hb d_So_addCorner_122 rfl (lv_at hl 0 rfl) ?_
            refine lv_dup hx hb d_So_addCorner_123 rfl ?_
            obtain ⟨v30, e31, h⟩ := gb h
            refine gw_getI hx hb hT hown hK hI (ci := 3) rfl i_3 5 (by decide) wd_139 (fun _ h9 => h9) e31 d_So_addCorner_124 ?_
            refine lv_iconst (v := 1) hx hb d_So_addCorner_127 (by decide) ?_
            refine lv_iadd hx hb d_So_addCorner_128 ?_
            obtain ⟨w, e32, h⟩ := gb h
            refine gw_put hx hb hT hown hK hI (ci := 3) rfl i_3 t_3 t_3_ok n_3 5 (by decide) wd_139 (fun _ h9 => h9) rfl (ty := .int) (by decide +kernel) rfl rfl e32 d_So_addCorner_129 (fun H locs hI => ?_)
            exact W.widen (show 0 ≤ 0 by omega) (show 0 ≤ 0 by omega) (hret _ _ (Option.some.inj h).symm _ _ _ _ d_So_addCorner_132 hI)
          refine lv_if_ne (tgt := 91) hx hb d_So_addCorner_84 (by decide) (fun c33 => ?_) (fun c33 => ?_)
          · skip
            have h := gie c33 h
            refine lv_aload_n hx hb d_So_addCorner_91 rfl (lv_at hl 0 rfl) ?_
            obtain ⟨v34, e35, h⟩ := gb h
            refine gw_getJ hx hb hT hown hK hI (ci := 3) rfl i_3 10 (by decide) wd_150 (fun _ h9 => h9) e35 d_So_addCorner_92 ?_
            refine lv_lload_n hx hb d_So_addCorner_95 rfl (lv_at hl 2 rfl) ?_
            obtain ⟨u36, e37⟩ := gsome h
            refine gw_callJ e37 h (gw_runS (As := [.long v34, .long p2]) (rest := [.ref a0]) hx hb hml hown hT hK hZ hA hI (m_Ma_max2 l hst D g0 v34 p2 w u36 e37) ce_Ma_max2 wd_364 ⟨by decide, by decide⟩ rfl rfl hl.1 rfl (lv_room (Nat.le_of_ble_eq_true rfl)) d_So_addCorner_96 ⟨(show 0 + 0 ≤ 0 by omega), (show 0 + 0 ≤ 0 by omega)⟩) hI hA hexc (show 0 + 0 ≤ 0 by omega) (show 0 + 0 ≤ 0 by omega) (fun v38 w H locs h hI => ?_)
            exact hK99 _ w H locs ls h hI (lv_sub hl [0, 1, 2] rfl)
          · skip
            have h := git c33 h
            refine lv_lload_n hx hb d_So_addCorner_87 rfl (lv_at hl 2 rfl) ?_
            refine lv_goto (tgt := 99) hx hb d_So_addCorner_88 (by decide) ?_
            exact hK99 _ w H locs ls h hI (lv_sub hl [0, 1, 2] rfl)
        refine lv_if_ne (tgt := 68) hx hb d_So_addCorner_61 (by decide) (fun c39 => ?_) (fun c39 => ?_)
        · skip
          have h := gie c39 h
          refine lv_aload_n hx hb d_So_addCorner_68 rfl (lv_at hl 0 rfl) ?_
          obtain ⟨v40, e41, h⟩ := gb h
          refine gw_getJ hx hb hT hown hK hI (ci := 3) rfl i_3 9 (by decide) wd_148 (fun _ h9 => h9) e41 d_So_addCorner_69 ?_
          refine lv_lload_n hx hb d_So_addCorner_72 rfl (lv_at hl 1 rfl) ?_
          obtain ⟨u42, e43⟩ := gsome h
          refine gw_callJ e43 h (gw_runS (As := [.long v40, .long p1]) (rest := [.ref a0]) hx hb hml hown hT hK hZ hA hI (m_Ma_max2 l hst D g0 v40 p1 w u42 e43) ce_Ma_max2 wd_364 ⟨by decide, by decide⟩ rfl rfl hl.1 rfl (lv_room (Nat.le_of_ble_eq_true rfl)) d_So_addCorner_73 ⟨(show 0 + 0 ≤ 0 by omega), (show 0 + 0 ≤ 0 by omega)⟩) hI hA hexc (show 0 + 0 ≤ 0 by omega) (show 0 + 0 ≤ 0 by omega) (fun v44 w H locs h hI => ?_)
          exact hK76 _ w H locs ls h hI (lv_sub hl [0, 1, 2] rfl)
        · skip
          have h := git c39 h
          refine lv_lload_n hx hb d_So_addCorner_64 rfl (lv_at hl 1 rfl) ?_
          refine lv_goto (tgt := 76) hx hb d_So_addCorner_65 (by decide) ?_
          exact hK76 _ w H locs ls h hI (lv_sub hl [0, 1, 2] rfl)
      refine lv_if_ne (tgt := 45) hx hb d_So_addCorner_38 (by decide) (fun c45 => ?_) (fun c45 => ?_)
      · skip
        have h := gie c45 h
        refine lv_aload_n hx hb d_So_addCorner_45 rfl (lv_at hl 0 rfl) ?_
        obtain ⟨v46, e47, h⟩ := gb h
        refine gw_getJ hx hb hT hown hK hI (ci := 3) rfl i_3 7 (by decide) wd_144 (fun _ h9 => h9) e47 d_So_addCorner_46 ?_
        refine lv_lload_n hx hb d_So_addCorner_49 rfl (lv_at hl 2 rfl) ?_
        obtain ⟨u48, e49⟩ := gsome h
        refine gw_callJ e49 h (gw_runS (As := [.long v46, .long p2]) (rest := [.ref a0]) hx hb hml hown hT hK hZ hA hI (m_Ma_min2 l hst D g0 v46 p2 w u48 e49) ce_Ma_min2 wd_363 ⟨by decide, by decide⟩ rfl rfl hl.1 rfl (lv_room (Nat.le_of_ble_eq_true rfl)) d_So_addCorner_50 ⟨(show 0 + 0 ≤ 0 by omega), (show 0 + 0 ≤ 0 by omega)⟩) hI hA hexc (show 0 + 0 ≤ 0 by omega) (show 0 + 0 ≤ 0 by omega) (fun v50 w H locs h hI => ?_)
        exact hK53 _ w H locs ls h hI (lv_sub hl [0, 1, 2] rfl)
      · skip
        have h := git c45 h
        refine lv_lload_n hx hb d_So_addCorner_41 rfl (lv_at hl 2 rfl) ?_
        refine lv_goto (tgt := 53) hx hb d_So_addCorner_42 (by decide) ?_
        exact hK53 _ w H locs ls h hI (lv_sub hl [0, 1, 2] rfl)
    refine lv_if_ne (tgt := 22) hx hb d_So_addCorner_15 (by decide) (fun c51 => ?_) (fun c51 => ?_)
    · skip
      have h := gie c51 h
      refine lv_aload_n hx hb d_So_addCorner_22 rfl (lv_at hl 0 rfl) ?_
      obtain ⟨v52, e53, h⟩ := gb h
      refine gw_getJ hx hb hT hown hK hI (ci := 3) rfl i_3 6 (by decide) wd_142 (fun _ h9 => h9) e53 d_So_addCorner_23 ?_
      refine lv_lload_n hx hb d_So_addCorner_26 rfl (lv_at hl 1 rfl) ?_
      obtain ⟨u54, e55⟩ := gsome h
      refine gw_callJ e55 h (gw_runS (As := [.long v52, .long p1]) (rest := [.ref a0]) hx hb hml hown hT hK hZ hA hI (m_Ma_min2 l hst D g0 v52 p1 w u54 e55) ce_Ma_min2 wd_363 ⟨by decide, by decide⟩ rfl rfl hl.1 rfl (lv_room (Nat.le_of_ble_eq_true rfl)) d_So_addCorner_27 ⟨(show 0 + 0 ≤ 0 by omega), (show 0 + 0 ≤ 0 by omega)⟩) hI hA hexc (show 0 + 0 ≤ 0 by omega) (show 0 + 0 ≤ 0 by omega) (fun v56 w H locs h hI => ?_)
      exact hK30 _ w H locs ls h hI (lv_sub hl [0, 1, 2] rfl)
    · skip
      have h := git c51 h
      refine lv_lload_n hx hb d_So_addCorner_18 rfl (lv_at hl 1 rfl) ?_
      refine lv_goto (tgt := 30) hx hb d_So_addCorner_19 (by decide) ?_
      exact hK30 _ w H locs ls h hI (lv_sub hl [0, 1, 2] rfl)
  · skip
    have h := gie c3 h
    exact W.widen (show 0 ≤ 0 by omega) (show 0 ≤ 0 by omega) (hret _ _ (Option.some.inj h).symm _ _ _ _ d_So_addCorner_9 hI)

abbrev b_So_addRectangle : ByteArray := prog_7_method_4_code
def y_So_addRectangle : MethodName := ⟨"BodySolids$Solid", "addRectangle", "(JJJJ)V"⟩
theorem d_So_addRectangle_0 : decode b_So_addRectangle 0 = .ok (.aload_n 0, 1) := by decide +kernel
theorem d_So_addRectangle_1 : decode b_So_addRectangle 1 = .ok (.lload_n 1, 1) := by decide +kernel
theorem d_So_addRectangle_2 : decode b_So_addRectangle 2 = .ok (.lload_n 3, 1) := by decide +kernel
theorem d_So_addRectangle_3 : decode b_So_addRectangle 3 = .ok (.invokevirtual 53, 3) := by decide +kernel
theorem d_So_addRectangle_6 : decode b_So_addRectangle 6 = .ok (.aload_n 0, 1) := by decide +kernel
theorem d_So_addRectangle_7 : decode b_So_addRectangle 7 = .ok (.lload 5, 2) := by decide +kernel
theorem d_So_addRectangle_9 : decode b_So_addRectangle 9 = .ok (.lload_n 3, 1) := by decide +kernel
theorem d_So_addRectangle_10 : decode b_So_addRectangle 10 = .ok (.invokevirtual 53, 3) := by decide +kernel
theorem d_So_addRectangle_13 : decode b_So_addRectangle 13 = .ok (.aload_n 0, 1) := by decide +kernel
theorem d_So_addRectangle_14 : decode b_So_addRectangle 14 = .ok (.lload 5, 2) := by decide +kernel
theorem d_So_addRectangle_16 : decode b_So_addRectangle 16 = .ok (.lload 7, 2) := by decide +kernel
theorem d_So_addRectangle_18 : decode b_So_addRectangle 18 = .ok (.invokevirtual 53, 3) := by decide +kernel
theorem d_So_addRectangle_21 : decode b_So_addRectangle 21 = .ok (.aload_n 0, 1) := by decide +kernel
theorem d_So_addRectangle_22 : decode b_So_addRectangle 22 = .ok (.lload_n 1, 1) := by decide +kernel
theorem d_So_addRectangle_23 : decode b_So_addRectangle 23 = .ok (.lload 7, 2) := by decide +kernel
theorem d_So_addRectangle_25 : decode b_So_addRectangle 25 = .ok (.invokevirtual 53, 3) := by decide +kernel
theorem d_So_addRectangle_28 : decode b_So_addRectangle 28 = .ok (.return_, 1) := by decide +kernel
abbrev rm_So_addRectangle : Room := { frames := 2, cells := 0, slots := 0, locals := 47 }
theorem ce_So_addRectangle : gCe y_So_addRectangle (.code y_So_addRectangle b_So_addRectangle 9 none) 9 4 false := gCe.code wd_552 wd_56 wd_550 (by decide) (by decide +kernel)
def f_So_addRectangle (g0 : gG) (a0 : Nat) (p1 : Int64) (p2 : Int64) (p3 : Int64) (p4 : Int64) (w : gW) : gX Unit := (gck w a0 3).bind fun _ => gbind (f_So_addCorner g0 a0 p1 p2 w) fun v5 w => (gck w a0 3).bind fun _ => gbind (f_So_addCorner g0 a0 p3 p2 w) fun v10 w => (gck w a0 3).bind fun _ => gbind (f_So_addCorner g0 a0 p3 p4 w) fun v15 w => (gck w a0 3).bind fun _ => gbind (f_So_addCorner g0 a0 p1 p4 w) fun v20 w => some (.inr (), w)
set_option maxHeartbeats 4000000 in
set_option maxRecDepth 100000 in
theorem m_So_addRectangle (l : Launch) (hst : l.stackTraces = false) (D : gD) (g0 : gG) (a0 : Nat) (p1 : Int64) (p2 : Int64) (p3 : Int64) (p4 : Int64) (w : gW) (r : (String ⊕ Unit) × gW) (h : f_So_addRectangle g0 a0 p1 p2 p3 p4 w = some r) : gMet l y_So_addRectangle (.code y_So_addRectangle b_So_addRectangle 9 none) rm_So_addRectangle D g0 [.ref a0, .long p1, .long p2, .long p3, .long p4] w (goV r) := by
  refine gw_ofV (by decide +kernel) (Nat.le_of_ble_eq_true rfl) ?_
  intro p e s m below meth c ls args A Q hx hb hml hown hlocks hin hnt hT hK hZ hA hret hexc hthr hI hl
  obtain ⟨H, hH⟩ : ∃ H, H = s.heap := ⟨_, rfl⟩
  rw [← hH] at hI ⊢
  obtain ⟨locs, hlocs⟩ : ∃ z : List Loc, z = [] := ⟨_, rfl⟩
  rw [← hlocs] at hI ⊢
  have hl : lv_has ls 9 [(0, .ref a0), (1, .long p1), (3, .long p2), (5, .long p3), (7, .long p4)] := hl
  unfold f_So_addRectangle at h
  refine lv_aload_n hx hb d_So_addRectangle_0 rfl (lv_at hl 0 rfl) ?_
  refine lv_lload_n hx hb d_So_addRectangle_1 rfl (lv_at hl 1 rfl) ?_
  refine lv_lload_n hx hb d_So_addRectangle_2 rfl (lv_at hl 2 rfl) ?_
  obtain ⟨q3, e4, h⟩ := gb h
  obtain ⟨u1, e2⟩ := gsome h
  refine gw_callV e2 h (gw_runV (As := [.long p1, .long p2]) (rest := []) hx hb hml hown hT hK hZ hA hI (ci := 3) rfl e4 (m_So_addCorner l hst D g0 a0 p1 p2 w u1 e2) ce_So_addCorner wd_359 wd_361 ⟨by decide, by decide⟩ rfl rfl hl.1 rfl (lv_room (Nat.le_of_ble_eq_true rfl)) d_So_addRectangle_3 ⟨(show 0 + 0 ≤ 0 by omega), (show 0 + 0 ≤ 0 by omega)⟩) hI hA hexc (show 0 + 0 ≤ 0 by omega) (show 0 + 0 ≤ 0 by omega) (fun v5 w H locs h hI => ?_)
  refine lv_aload_n hx hb d_So_addRectangle_6 rfl (lv_at hl 0 rfl) ?_
  refine lv_lload hx hb d_So_addRectangle_7 (lv_at hl 3 rfl) ?_
  refine lv_lload_n hx hb d_So_addRectangle_9 rfl (lv_at hl 2 rfl) ?_
  obtain ⟨q8, e9, h⟩ := gb h
  obtain ⟨u6, e7⟩ := gsome h
  refine gw_callV e7 h (gw_runV (As := [.long p3, .long p2]) (rest := []) hx hb hml hown hT hK hZ hA hI (ci := 3) rfl e9 (m_So_addCorner l hst D g0 a0 p3 p2 w u6 e7) ce_So_addCorner wd_359 wd_361 ⟨by decide, by decide⟩ rfl rfl hl.1 rfl (lv_room (Nat.le_of_ble_eq_true rfl)) d_So_addRectangle_10 ⟨(show 0 + 0 ≤ 0 by omega), (show 0 + 0 ≤ 0 by omega)⟩) hI hA hexc (show 0 + 0 ≤ 0 by omega) (show 0 + 0 ≤ 0 by omega) (fun v10 w H locs h hI => ?_)
  refine lv_aload_n hx hb d_So_addRectangle_13 rfl (lv_at hl 0 rfl) ?_
  refine lv_lload hx hb d_So_addRectangle_14 (lv_at hl 3 rfl) ?_
  refine lv_lload hx hb d_So_addRectangle_16 (lv_at hl 4 rfl) ?_
  obtain ⟨q13, e14, h⟩ := gb h
  obtain ⟨u11, e12⟩ := gsome h
  refine gw_callV e12 h (gw_runV (As := [.long p3, .long p4]) (rest := []) hx hb hml hown hT hK hZ hA hI (ci := 3) rfl e14 (m_So_addCorner l hst D g0 a0 p3 p4 w u11 e12) ce_So_addCorner wd_359 wd_361 ⟨by decide, by decide⟩ rfl rfl hl.1 rfl (lv_room (Nat.le_of_ble_eq_true rfl)) d_So_addRectangle_18 ⟨(show 0 + 0 ≤ 0 by omega), (show 0 + 0 ≤ 0 by omega)⟩) hI hA hexc (show 0 + 0 ≤ 0 by omega) (show 0 + 0 ≤ 0 by omega) (fun v15 w H locs h hI => ?_)
  refine lv_aload_n hx hb d_So_addRectangle_21 rfl (lv_at hl 0 rfl) ?_
  refine lv_lload_n hx hb d_So_addRectangle_22 rfl (lv_at hl 1 rfl) ?_
  refine lv_lload hx hb d_So_addRectangle_23 (lv_at hl 4 rfl) ?_
  obtain ⟨q18, e19, h⟩ := gb h
  obtain ⟨u16, e17⟩ := gsome h
  refine gw_callV e17 h (gw_runV (As := [.long p1, .long p4]) (rest := []) hx hb hml hown hT hK hZ hA hI (ci := 3) rfl e19 (m_So_addCorner l hst D g0 a0 p1 p4 w u16 e17) ce_So_addCorner wd_359 wd_361 ⟨by decide, by decide⟩ rfl rfl hl.1 rfl (lv_room (Nat.le_of_ble_eq_true rfl)) d_So_addRectangle_25 ⟨(show 0 + 0 ≤ 0 by omega), (show 0 + 0 ≤ 0 by omega)⟩) hI hA hexc (show 0 + 0 ≤ 0 by omega) (show 0 + 0 ≤ 0 by omega) (fun v20 w H locs h hI => ?_)
  exact W.widen (show 0 ≤ 0 by omega) (show 0 ≤ 0 by omega) (hret _ _ (Option.some.inj h).symm _ _ _ _ d_So_addRectangle_28 hI)

abbrev b_So_setHeights : ByteArray := prog_7_method_5_code
def y_So_setHeights : MethodName := ⟨"BodySolids$Solid", "setHeights", "(JJ)V"⟩
theorem d_So_setHeights_0 : decode b_So_setHeights 0 = .ok (.aload_n 0, 1) := by decide +kernel
theorem d_So_setHeights_1 : decode b_So_setHeights 1 = .ok (.lload_n 1, 1) := by decide +kernel
theorem d_So_setHeights_2 : decode b_So_setHeights 2 = .ok (.putfield 57, 3) := by decide +kernel
theorem d_So_setHeights_5 : decode b_So_setHeights 5 = .ok (.aload_n 0, 1) := by decide +kernel
theorem d_So_setHeights_6 : decode b_So_setHeights 6 = .ok (.lload_n 3, 1) := by decide +kernel
theorem d_So_setHeights_7 : decode b_So_setHeights 7 = .ok (.putfield 60, 3) := by decide +kernel
theorem d_So_setHeights_10 : decode b_So_setHeights 10 = .ok (.return_, 1) := by decide +kernel
abbrev rm_So_setHeights : Room := { frames := 0, cells := 0, slots := 0, locals := 0 }
theorem ce_So_setHeights : gCe y_So_setHeights (.code y_So_setHeights b_So_setHeights 5 none) 5 2 false := gCe.code wd_368 wd_56 wd_366 (by decide) (by decide +kernel)
def f_So_setHeights (g0 : gG) (a0 : Nat) (p1 : Int64) (p2 : Int64) (w : gW) : gX Unit := (gp w a0 3 8 (.long p1)).bind fun w => (gp w a0 3 11 (.long p2)).bind fun w => some (.inr (), w)
set_option maxHeartbeats 4000000 in
set_option maxRecDepth 100000 in
theorem m_So_setHeights (l : Launch) (hst : l.stackTraces = false) (D : gD) (g0 : gG) (a0 : Nat) (p1 : Int64) (p2 : Int64) (w : gW) (r : (String ⊕ Unit) × gW) (h : f_So_setHeights g0 a0 p1 p2 w = some r) : gMet l y_So_setHeights (.code y_So_setHeights b_So_setHeights 5 none) rm_So_setHeights D g0 [.ref a0, .long p1, .long p2] w (goV r) := by
  refine gw_ofV (by decide +kernel) (Nat.le_of_ble_eq_true rfl) ?_
  intro p e s m below meth c ls args A Q hx hb hml hown hlocks hin hnt hT hK hZ hA hret hexc hthr hI hl
  obtain ⟨H, hH⟩ : ∃ H, H = s.heap := ⟨_, rfl⟩
  rw [← hH] at hI ⊢
  obtain ⟨locs, hlocs⟩ : ∃ z : List Loc, z = [] := ⟨_, rfl⟩
  rw [← hlocs] at hI ⊢
  have hl : lv_has ls 5 [(0, .ref a0), (1, .long p1), (3, .long p2)] := hl
  unfold f_So_setHeights at h
  refine lv_aload_n hx hb d_So_setHeights_0 rfl (lv_at hl 0 rfl) ?_
  refine lv_lload_n hx hb d_So_setHeights_1 rfl (lv_at hl 1 rfl) ?_
  obtain ⟨w, e1, h⟩ := gb h
  refine gw_put hx hb hT hown hK hI (ci := 3) rfl i_3 t_3 t_3_ok n_3 8 (by decide) wd_146 (fun _ h9 => h9) rfl (ty := .long) (by decide +kernel) rfl rfl e1 d_So_setHeights_2 (fun H locs hI => ?_)
  refine lv_aload_n hx hb d_So_setHeights_5 rfl (lv_at hl 0 rfl) ?_
  refine lv_lload_n hx hb d_So_setHeights_6 rfl (lv_at hl 2 rfl) ?_
  obtain ⟨w, e2, h⟩ := gb h
  refine gw_put hx hb hT hown hK hI (ci := 3) rfl i_3 t_3 t_3_ok n_3 11 (by decide) wd_152 (fun _ h9 => h9) rfl (ty := .long) (by decide +kernel) rfl rfl e2 d_So_setHeights_7 (fun H locs hI => ?_)
  exact W.widen (show 0 ≤ 0 by omega) (show 0 ≤ 0 by omega) (hret _ _ (Option.some.inj h).symm _ _ _ _ d_So_setHeights_10 hI)

abbrev b_By_add : ByteArray := prog_2_method_3_code
def y_By_add : MethodName := ⟨"BodySolids$Body", "add", "(LBodySolids$Solid;J)V"⟩
theorem d_By_add_0 : decode b_By_add 0 = .ok (.aload_n 0, 1) := by decide +kernel
theorem d_By_add_1 : decode b_By_add 1 = .ok (.getfield 12, 3) := by decide +kernel
theorem d_By_add_4 : decode b_By_add 4 = .ok (.aload_n 1, 1) := by decide +kernel
theorem d_By_add_5 : decode b_By_add 5 = .ok (.invokevirtual 26, 3) := by decide +kernel
theorem d_By_add_8 : decode b_By_add 8 = .ok (.pop, 1) := by decide +kernel
theorem d_By_add_9 : decode b_By_add 9 = .ok (.aload_n 0, 1) := by decide +kernel
theorem d_By_add_10 : decode b_By_add 10 = .ok (.dup, 1) := by decide +kernel
theorem d_By_add_11 : decode b_By_add 11 = .ok (.getfield 18, 3) := by decide +kernel
theorem d_By_add_14 : decode b_By_add 14 = .ok (.lload_n 2, 1) := by decide +kernel
theorem d_By_add_15 : decode b_By_add 15 = .ok (.ladd, 1) := by decide +kernel
theorem d_By_add_16 : decode b_By_add 16 = .ok (.putfield 18, 3) := by decide +kernel
theorem d_By_add_19 : decode b_By_add 19 = .ok (.return_, 1) := by decide +kernel
abbrev rm_By_add : Room := { frames := 7, cells := 1, slots := 64, locals := 179 }
theorem ce_By_add : gCe y_By_add (.code y_By_add b_By_add 4 none) 4 2 false := gCe.code wd_558 wd_58 wd_556 (by decide) (by decide +kernel)
def f_By_add (g0 : gG) (a0 : Nat) (a1 : Nat) (p2 : Int64) (w : gW) : gX Unit := (gfA w a0 4 0).bind fun v1 => (gck w v1 1).bind fun _ => gbind (f_AL_add g0 v1 a1 w) fun v7 w => (gfJ w a0 4 1).bind fun v8 => (gp w a0 4 1 (.long (v8 + p2))).bind fun w => some (.inr (), w)
set_option maxHeartbeats 4000000 in
set_option maxRecDepth 100000 in
theorem m_By_add (l : Launch) (hst : l.stackTraces = false) (D : gD) (g0 : gG) (a0 : Nat) (a1 : Nat) (p2 : Int64) (w : gW) (r : (String ⊕ Unit) × gW) (h : f_By_add g0 a0 a1 p2 w = some r) : gMet l y_By_add (.code y_By_add b_By_add 4 none) rm_By_add D g0 [.ref a0, .ref a1, .long p2] w (goV r) := by
  refine gw_ofV (by decide +kernel) (Nat.le_of_ble_eq_true rfl) ?_
  intro p e s m below meth c ls args A Q hx hb hml hown hlocks hin hnt hT hK hZ hA hret hexc hthr hI hl
  obtain ⟨H, hH⟩ : ∃ H, H = s.heap := ⟨_, rfl⟩
  rw [← hH] at hI ⊢
  obtain ⟨locs, hlocs⟩ : ∃ z : List Loc, z = [] := ⟨_, rfl⟩
  rw [← hlocs] at hI ⊢
  have hl : lv_has ls 4 [(0, .ref a0), (1, .ref a1), (2, .long p2)] := hl
  unfold f_By_add at h
  refine lv_aload_n hx hb d_By_add_0 rfl (lv_at hl 0 rfl) ?_
  obtain ⟨v1, e2, h⟩ := gb h
  refine gw_getA hx hb hT hown hK hI (ci := 4) rfl i_4 0 (by decide) wd_236 (fun _ h9 => h9) e2 d_By_add_1 ?_
  refine lv_aload_n hx hb d_By_add_4 rfl (lv_at hl 1 rfl) ?_
  obtain ⟨q5, e6, h⟩ := gb h
  obtain ⟨u3, e4⟩ := gsome h
  refine gw_callI e4 h (gw_runV (As := [.ref a1]) (rest := []) hx hb hml hown hT hK hZ hA hI (ci := 1) rfl e6 (m_AL_add l hst D g0 v1 a1 w u3 e4) ce_AL_add wd_559 wd_252 ⟨by decide, by decide⟩ rfl rfl hl.1 rfl (lv_room (Nat.le_of_ble_eq_true rfl)) d_By_add_5 ⟨(show 0 + 1 ≤ 1 by omega), (show 0 + 64 ≤ 64 by omega)⟩) hI hA hexc (show 0 + 1 ≤ 1 by omega) (show 0 + 64 ≤ 64 by omega) (fun v7 w H locs h hI => ?_)
  refine W.widen (k := 1) (n := 64) (show 0 + 1 ≤ 1 by omega) (show 0 + 64 ≤ 64 by omega) ?_
  refine lv_pop hx hb d_By_add_8 rfl ?_
  refine lv_aload_n hx hb d_By_add_9 rfl (lv_at hl 0 rfl) ?_
  refine lv_dup hx hb d_By_add_10 rfl ?_
  obtain ⟨v8, e9, h⟩ := gb h
  refine gw_getJ hx hb hT hown hK hI (ci := 4) rfl i_4 1 (by decide) wd_239 (fun _ h9 => h9) e9 d_By_add_11 ?_
  refine lv_lload_n hx hb d_By_add_14 rfl (lv_at hl 2 rfl) ?_
  refine lv_ladd hx hb d_By_add_15 ?_
  obtain ⟨w, e10, h⟩ := gb h
  refine gw_put hx hb hT hown hK hI (ci := 4) rfl i_4 t_4 t_4_ok n_4 1 (by decide) wd_239 (fun _ h9 => h9) rfl (ty := .long) (by decide +kernel) rfl rfl e10 d_By_add_16 (fun H locs hI => ?_)
  exact W.widen (show 1 ≤ 1 by omega) (show 64 ≤ 64 by omega) (hret _ _ (Option.some.inj h).symm _ _ _ _ d_By_add_19 hI)

abbrev b_B_relationSlot : ByteArray := prog_1_method_32_code
def y_B_relationSlot : MethodName := ⟨"BodySolids", "relationSlot", "(II)I"⟩
theorem d_B_relationSlot_0 : decode b_B_relationSlot 0 = .ok (.iload_n 0, 1) := by decide +kernel
theorem d_B_relationSlot_1 : decode b_B_relationSlot 1 = .ok (.iload_n 1, 1) := by decide +kernel
theorem d_B_relationSlot_2 : decode b_B_relationSlot 2 = .ok (.invokestatic 268, 3) := by decide +kernel
theorem d_B_relationSlot_5 : decode b_B_relationSlot 5 = .ok (.bipush 30, 2) := by decide +kernel
theorem d_B_relationSlot_7 : decode b_B_relationSlot 7 = .ok (.imul, 1) := by decide +kernel
theorem d_B_relationSlot_8 : decode b_B_relationSlot 8 = .ok (.iload_n 0, 1) := by decide +kernel
theorem d_B_relationSlot_9 : decode b_B_relationSlot 9 = .ok (.iload_n 1, 1) := by decide +kernel
theorem d_B_relationSlot_10 : decode b_B_relationSlot 10 = .ok (.invokestatic 270, 3) := by decide +kernel
theorem d_B_relationSlot_13 : decode b_B_relationSlot 13 = .ok (.iadd, 1) := by decide +kernel
theorem d_B_relationSlot_14 : decode b_B_relationSlot 14 = .ok (.ireturn, 1) := by decide +kernel
abbrev rm_B_relationSlot : Room := { frames := 1, cells := 0, slots := 0, locals := 21 }
theorem ce_B_relationSlot : gCe y_B_relationSlot (.code y_B_relationSlot b_B_relationSlot 2 (some .int)) 2 2 true := gCe.code wd_318 wd_49 wd_317 (by decide) (by decide +kernel)
def f_B_relationSlot (g0 : gG) (p0 : Int32) (p1 : Int32) (w : gW) : gX Int32 := gbind (f_Ma_min g0 p0 p1 w) fun v3 w => gbind (f_Ma_max g0 p0 p1 w) fun v6 w => some (.inr ((v3 * 30) + v6), w)
set_option maxHeartbeats 4000000 in
set_option maxRecDepth 100000 in
theorem m_B_relationSlot (l : Launch) (hst : l.stackTraces = false) (D : gD) (g0 : gG) (p0 : Int32) (p1 : Int32) (w : gW) (r : (String ⊕ Int32) × gW) (h : f_B_relationSlot g0 p0 p1 w = some r) : gMet l y_B_relationSlot (.code y_B_relationSlot b_B_relationSlot 2 (some .int)) rm_B_relationSlot D g0 [.int p0, .int p1] w (goI r) := by
  refine gw_ofI (by decide +kernel) (Nat.le_of_ble_eq_true rfl) ?_
  intro p e s m below meth c ls args A Q hx hb hml hown hlocks hin hnt hT hK hZ hA hret hexc hthr hI hl
  obtain ⟨H, hH⟩ : ∃ H, H = s.heap := ⟨_, rfl⟩
  rw [← hH] at hI ⊢
  obtain ⟨locs, hlocs⟩ : ∃ z : List Loc, z = [] := ⟨_, rfl⟩
  rw [← hlocs] at hI ⊢
  have hl : lv_has ls 2 [(0, .int p0), (1, .int p1)] := hl
  unfold f_B_relationSlot at h
  refine lv_iload_n hx hb d_B_relationSlot_0 rfl (lv_at hl 0 rfl) ?_
  refine lv_iload_n hx hb d_B_relationSlot_1 rfl (lv_at hl 1 rfl) ?_
  obtain ⟨u1, e2⟩ := gsome h
  refine gw_callI e2 h (gw_runS (As := [.int p0, .int p1]) (rest := []) hx hb hml hown hT hK hZ hA hI (m_Ma_min l hst D g0 p0 p1 w u1 e2) ce_Ma_min wd_319 ⟨by decide, by decide⟩ rfl rfl hl.1 rfl (lv_room (Nat.le_of_ble_eq_true rfl)) d_B_relationSlot_2 ⟨(show 0 + 0 ≤ 0 by omega), (show 0 + 0 ≤ 0 by omega)⟩) hI hA hexc (show 0 + 0 ≤ 0 by omega) (show 0 + 0 ≤ 0 by omega) (fun v3 w H locs h hI => ?_)
  refine lv_bipush (v := 30) hx hb d_B_relationSlot_5 (by decide) ?_
  refine lv_imul hx hb d_B_relationSlot_7 ?_
  refine lv_iload_n hx hb d_B_relationSlot_8 rfl (lv_at hl 0 rfl) ?_
  refine lv_iload_n hx hb d_B_relationSlot_9 rfl (lv_at hl 1 rfl) ?_
  obtain ⟨u4, e5⟩ := gsome h
  refine gw_callI e5 h (gw_runS (As := [.int p0, .int p1]) (rest := [.int (v3 * 30)]) hx hb hml hown hT hK hZ hA hI (m_Ma_max l hst D g0 p0 p1 w u4 e5) ce_Ma_max wd_320 ⟨by decide, by decide⟩ rfl rfl hl.1 rfl (lv_room (Nat.le_of_ble_eq_true rfl)) d_B_relationSlot_10 ⟨(show 0 + 0 ≤ 0 by omega), (show 0 + 0 ≤ 0 by omega)⟩) hI hA hexc (show 0 + 0 ≤ 0 by omega) (show 0 + 0 ≤ 0 by omega) (fun v6 w H locs h hI => ?_)
  refine lv_iadd hx hb d_B_relationSlot_13 ?_
  exact W.widen (show 0 ≤ 0 by omega) (show 0 ≤ 0 by omega) (hret _ _ (Option.some.inj h).symm _ _ _ _ d_B_relationSlot_14 hI)

abbrev b_B_forgetRelationsAt : ByteArray := prog_1_method_33_code
def y_B_forgetRelationsAt : MethodName := ⟨"BodySolids", "forgetRelationsAt", "(I)V"⟩
theorem d_B_forgetRelationsAt_0 : decode b_B_forgetRelationsAt 0 = .ok (.iconst 0, 1) := by decide +kernel
theorem d_B_forgetRelationsAt_1 : decode b_B_forgetRelationsAt 1 = .ok (.istore_n 2, 1) := by decide +kernel
theorem d_B_forgetRelationsAt_2 : decode b_B_forgetRelationsAt 2 = .ok (.iload_n 2, 1) := by decide +kernel
theorem d_B_forgetRelationsAt_3 : decode b_B_forgetRelationsAt 3 = .ok (.bipush 30, 2) := by decide +kernel
theorem d_B_forgetRelationsAt_5 : decode b_B_forgetRelationsAt 5 = .ok (.if_icmp .ge 20, 3) := by decide +kernel
theorem d_B_forgetRelationsAt_8 : decode b_B_forgetRelationsAt 8 = .ok (.aload_n 0, 1) := by decide +kernel
theorem d_B_forgetRelationsAt_9 : decode b_B_forgetRelationsAt 9 = .ok (.getfield 48, 3) := by decide +kernel
theorem d_B_forgetRelationsAt_12 : decode b_B_forgetRelationsAt 12 = .ok (.iload_n 1, 1) := by decide +kernel
theorem d_B_forgetRelationsAt_13 : decode b_B_forgetRelationsAt 13 = .ok (.iload_n 2, 1) := by decide +kernel
theorem d_B_forgetRelationsAt_14 : decode b_B_forgetRelationsAt 14 = .ok (.invokestatic 272, 3) := by decide +kernel
theorem d_B_forgetRelationsAt_17 : decode b_B_forgetRelationsAt 17 = .ok (.iconst (-1), 1) := by decide +kernel
theorem d_B_forgetRelationsAt_18 : decode b_B_forgetRelationsAt 18 = .ok (.iastore, 1) := by decide +kernel
theorem d_B_forgetRelationsAt_19 : decode b_B_forgetRelationsAt 19 = .ok (.iinc 2 1, 3) := by decide +kernel
theorem d_B_forgetRelationsAt_22 : decode b_B_forgetRelationsAt 22 = .ok (.goto (-20), 3) := by decide +kernel
theorem d_B_forgetRelationsAt_25 : decode b_B_forgetRelationsAt 25 = .ok (.return_, 1) := by decide +kernel
abbrev rm_B_forgetRelationsAt : Room := { frames := 2, cells := 0, slots := 0, locals := 42 }
theorem ce_B_forgetRelationsAt : gCe y_B_forgetRelationsAt (.code y_B_forgetRelationsAt b_B_forgetRelationsAt 3 none) 3 1 false := gCe.code wd_567 wd_49 wd_566 (by decide) (by decide +kernel)
def f_B_forgetRelationsAt_L2 (g0 : gG) (c0 : Nat) (c1 : Int32) (K25 : gW → gX Unit) : Nat → Int32 → gW → gX Unit
  | 0, _, _ => none
  | n + 1, z2, w => if 30 ≤ z2 then (K25 w) else ((gfA w c0 0 7).bind fun v2 => gbind (f_B_relationSlot g0 c1 z2 w) fun v6 w => (gsI w v2 v6 (-1)).bind fun w => f_B_forgetRelationsAt_L2 g0 c0 c1 K25 n (z2 + 1) w)
def f_B_forgetRelationsAt (g0 : gG) (a0 : Nat) (p1 : Int32) (w : gW) : gX Unit := gjoin (fun K25 => f_B_forgetRelationsAt_L2 g0 a0 p1 K25 64 0 w) (fun (w : gW) => some (.inr (), w))
set_option maxHeartbeats 4000000 in
set_option maxRecDepth 100000 in
theorem m_B_forgetRelationsAt (l : Launch) (hst : l.stackTraces = false) (D : gD) (g0 : gG) (a0 : Nat) (p1 : Int32) (w : gW) (r : (String ⊕ Unit) × gW) (h : f_B_forgetRelationsAt g0 a0 p1 w = some r) : gMet l y_B_forgetRelationsAt (.code y_B_forgetRelationsAt b_B_forgetRelationsAt 3 none) rm_B_forgetRelationsAt D g0 [.ref a0, .int p1] w (goV r) := by
  refine gw_ofV (by decide +kernel) (Nat.le_of_ble_eq_true rfl) ?_
  intro p e s m below meth c ls args A Q hx hb hml hown hlocks hin hnt hT hK hZ hA hret hexc hthr hI hl
  obtain ⟨H, hH⟩ : ∃ H, H = s.heap := ⟨_, rfl⟩
  rw [← hH] at hI ⊢
  obtain ⟨locs, hlocs⟩ : ∃ z : List Loc, z = [] := ⟨_, rfl⟩
  rw [← hlocs] at hI ⊢
  have hl : lv_has ls 3 [(0, .ref a0), (1, .int p1)] := hl
  unfold f_B_forgetRelationsAt at h
  refine lv_iconst (v := 0) hx hb d_B_forgetRelationsAt_0 (by decide) ?_
  refine lv_istore_n (lv' := [(2, .int 0), (0, .ref a0), (1, .int p1)]) hx hb d_B_forgetRelationsAt_1 rfl hl (by decide) rfl (fun ls hl => ?_)
  obtain ⟨K25, eK25, h⟩ := gj h
  have hK25 : ∀ (w : gW) (H : Heap) (locs : List Loc) (ls : Array Slot), K25 w = some r → gI D s A w H locs → lv_has ls 3 [] → W p l e rm_B_forgetRelationsAt s m args below meth c H locs 0 0 Q (F0 m 25 ls []) := by
    intro w H locs ls h hI hl
    have h := gk1 eK25 h
    exact W.widen (show 0 ≤ 0 by omega) (show 0 ≤ 0 by omega) (hret _ _ (Option.some.inj h).symm _ _ _ _ d_B_forgetRelationsAt_25 hI)
  have hL2 : ∀ (n : Nat), ∀ (z1 : Int32) (w : gW) (H : Heap) (locs : List Loc) (ls : Array Slot), f_B_forgetRelationsAt_L2 g0 a0 p1 K25 n z1 w = some r → gI D s A w H locs → lv_has ls 3 [(0, .ref a0), (1, .int p1), (2, .int z1)] → W p l e rm_B_forgetRelationsAt s m args below meth c H locs 0 0 Q (F0 m 2 ls []) := by
    intro n
    induction n with
    | zero => intro z1 w H locs ls h hI hl; exact absurd h (by simp [f_B_forgetRelationsAt_L2])
    | succ n ih =>
      intro z1 w H locs ls h hI hl
      rw [f_B_forgetRelationsAt_L2] at h
      refine lv_iload_n hx hb d_B_forgetRelationsAt_2 rfl (lv_at hl 2 rfl) ?_
      refine lv_bipush (v := 30) hx hb d_B_forgetRelationsAt_3 (by decide) ?_
      refine lv_icmp_ge (tgt := 25) hx hb d_B_forgetRelationsAt_5 (by decide) (fun c2 => ?_) (fun c2 => ?_)
      · skip
        have h := git c2 h
        exact hK25 w H locs ls h hI (lv_sub hl [] rfl)
      · skip
        have h := gie c2 h
        refine lv_aload_n hx hb d_B_forgetRelationsAt_8 rfl (lv_at hl 0 rfl) ?_
        obtain ⟨v3, e4, h⟩ := gb h
        refine gw_getA hx hb hT hown hK hI (ci := 0) rfl i_0 7 (by decide) wd_196 (fun _ h9 => h9) e4 d_B_forgetRelationsAt_9 ?_
        refine lv_iload_n hx hb d_B_forgetRelationsAt_12 rfl (lv_at hl 1 rfl) ?_
        refine lv_iload_n hx hb d_B_forgetRelationsAt_13 rfl (lv_at hl 2 rfl) ?_
        obtain ⟨u5, e6⟩ := gsome h
        refine gw_callI e6 h (gw_runS (As := [.int p1, .int z1]) (rest := [.ref v3]) hx hb hml hown hT hK hZ hA hI (m_B_relationSlot l hst D g0 p1 z1 w u5 e6) ce_B_relationSlot wd_316 ⟨by decide, by decide⟩ rfl rfl hl.1 rfl (lv_room (Nat.le_of_ble_eq_true rfl)) d_B_forgetRelationsAt_14 ⟨(show 0 + 0 ≤ 0 by omega), (show 0 + 0 ≤ 0 by omega)⟩) hI hA hexc (show 0 + 0 ≤ 0 by omega) (show 0 + 0 ≤ 0 by omega) (fun v7 w H locs h hI => ?_)
        refine lv_iconst (v := -1) hx hb d_B_forgetRelationsAt_17 (by decide) ?_
        obtain ⟨w, e8, h⟩ := gb h
        refine gw_astI hx hb hK hI e8 d_B_forgetRelationsAt_18 (fun H locs hI => ?_)
        refine lv_iinc (v := z1 + 1) (lv' := [(2, .int (z1 + 1)), (0, .ref a0), (1, .int p1)]) hx hb d_B_forgetRelationsAt_19 hl (k := 2) rfl rfl (by decide) rfl (fun ls hl => ?_)
        refine lv_goto (tgt := 2) hx hb d_B_forgetRelationsAt_22 (by decide) ?_
        exact ih _ w H locs ls h hI (lv_sub hl [1, 2, 0] rfl)
  exact hL2 64 _ w H locs ls h hI (lv_sub hl [1, 2, 0] rfl)

abbrev b_B_forgetRelationsOf : ByteArray := prog_1_method_34_code
def y_B_forgetRelationsOf : MethodName := ⟨"BodySolids", "forgetRelationsOf", "(LBodySolids$Body;)V"⟩
theorem d_B_forgetRelationsOf_0 : decode b_B_forgetRelationsOf 0 = .ok (.iconst 0, 1) := by decide +kernel
theorem d_B_forgetRelationsOf_1 : decode b_B_forgetRelationsOf 1 = .ok (.istore_n 2, 1) := by decide +kernel
theorem d_B_forgetRelationsOf_2 : decode b_B_forgetRelationsOf 2 = .ok (.iload_n 2, 1) := by decide +kernel
theorem d_B_forgetRelationsOf_3 : decode b_B_forgetRelationsOf 3 = .ok (.aload_n 0, 1) := by decide +kernel
theorem d_B_forgetRelationsOf_4 : decode b_B_forgetRelationsOf 4 = .ok (.getfield 31, 3) := by decide +kernel
theorem d_B_forgetRelationsOf_7 : decode b_B_forgetRelationsOf 7 = .ok (.invokevirtual 68, 3) := by decide +kernel
theorem d_B_forgetRelationsOf_10 : decode b_B_forgetRelationsOf 10 = .ok (.if_icmp .ge 32, 3) := by decide +kernel
theorem d_B_forgetRelationsOf_13 : decode b_B_forgetRelationsOf 13 = .ok (.aload_n 0, 1) := by decide +kernel
theorem d_B_forgetRelationsOf_14 : decode b_B_forgetRelationsOf 14 = .ok (.getfield 31, 3) := by decide +kernel
theorem d_B_forgetRelationsOf_17 : decode b_B_forgetRelationsOf 17 = .ok (.iload_n 2, 1) := by decide +kernel
theorem d_B_forgetRelationsOf_18 : decode b_B_forgetRelationsOf 18 = .ok (.invokevirtual 205, 3) := by decide +kernel
theorem d_B_forgetRelationsOf_21 : decode b_B_forgetRelationsOf 21 = .ok (.checkcast 164, 3) := by decide +kernel
theorem d_B_forgetRelationsOf_24 : decode b_B_forgetRelationsOf 24 = .ok (.getfield 275, 3) := by decide +kernel
theorem d_B_forgetRelationsOf_27 : decode b_B_forgetRelationsOf 27 = .ok (.aload_n 1, 1) := by decide +kernel
theorem d_B_forgetRelationsOf_28 : decode b_B_forgetRelationsOf 28 = .ok (.if_acmp .ne 8, 3) := by decide +kernel
theorem d_B_forgetRelationsOf_31 : decode b_B_forgetRelationsOf 31 = .ok (.aload_n 0, 1) := by decide +kernel
theorem d_B_forgetRelationsOf_32 : decode b_B_forgetRelationsOf 32 = .ok (.iload_n 2, 1) := by decide +kernel
theorem d_B_forgetRelationsOf_33 : decode b_B_forgetRelationsOf 33 = .ok (.invokevirtual 182, 3) := by decide +kernel
theorem d_B_forgetRelationsOf_36 : decode b_B_forgetRelationsOf 36 = .ok (.iinc 2 1, 3) := by decide +kernel
theorem d_B_forgetRelationsOf_39 : decode b_B_forgetRelationsOf 39 = .ok (.goto (-37), 3) := by decide +kernel
theorem d_B_forgetRelationsOf_42 : decode b_B_forgetRelationsOf 42 = .ok (.return_, 1) := by decide +kernel
abbrev rm_B_forgetRelationsOf : Room := { frames := 3, cells := 0, slots := 0, locals := 64 }
theorem ce_B_forgetRelationsOf : gCe y_B_forgetRelationsOf (.code y_B_forgetRelationsOf b_B_forgetRelationsOf 3 none) 3 1 false := gCe.code wd_563 wd_49 wd_562 (by decide) (by decide +kernel)
def f_B_forgetRelationsOf_L2 (g0 : gG) (c0 : Nat) (c1 : Nat) (K42 : gW → gX Unit) : Nat → Int32 → gW → gX Unit
  | 0, _, _ => none
  | n + 1, z2, w => (gfA w c0 0 2).bind fun v1 => (gck w v1 1).bind fun _ => gbind (f_AL_size g0 v1 w) fun v7 w => if v7 ≤ z2 then (K42 w) else ((gfA w c0 0 2).bind fun v9 => (gck w v9 1).bind fun _ => gbind (f_AL_get g0 v9 z2 w) fun v15 w => (gck w v15 5).bind fun _ => (gfA w v15 5 0).bind fun v18 => gjoin (fun K36 => if v18 = c1 then ((gck w c0 0).bind fun _ => gbind (f_B_forgetRelationsAt g0 c0 z2 w) fun v25 w => K36 w) else (K36 w)) (fun (w : gW) => f_B_forgetRelationsOf_L2 g0 c0 c1 K42 n (z2 + 1) w))
def f_B_forgetRelationsOf (g0 : gG) (a0 : Nat) (a1 : Nat) (w : gW) : gX Unit := gjoin (fun K42 => f_B_forgetRelationsOf_L2 g0 a0 a1 K42 64 0 w) (fun (w : gW) => some (.inr (), w))
set_option maxHeartbeats 4000000 in
set_option maxRecDepth 100000 in
theorem m_B_forgetRelationsOf (l : Launch) (hst : l.stackTraces = false) (D : gD) (g0 : gG) (a0 : Nat) (a1 : Nat) (w : gW) (r : (String ⊕ Unit) × gW) (h : f_B_forgetRelationsOf g0 a0 a1 w = some r) : gMet l y_B_forgetRelationsOf (.code y_B_forgetRelationsOf b_B_forgetRelationsOf 3 none) rm_B_forgetRelationsOf D g0 [.ref a0, .ref a1] w (goV r) := by
  refine gw_ofV (by decide +kernel) (Nat.le_of_ble_eq_true rfl) ?_
  intro p e s m below meth c ls args A Q hx hb hml hown hlocks hin hnt hT hK hZ hA hret hexc hthr hI hl
  obtain ⟨H, hH⟩ : ∃ H, H = s.heap := ⟨_, rfl⟩
  rw [← hH] at hI ⊢
  obtain ⟨locs, hlocs⟩ : ∃ z : List Loc, z = [] := ⟨_, rfl⟩
  rw [← hlocs] at hI ⊢
  have hl : lv_has ls 3 [(0, .ref a0), (1, .ref a1)] := hl
  unfold f_B_forgetRelationsOf at h
  refine lv_iconst (v := 0) hx hb d_B_forgetRelationsOf_0 (by decide) ?_
  refine lv_istore_n (lv' := [(2, .int 0), (0, .ref a0), (1, .ref a1)]) hx hb d_B_forgetRelationsOf_1 rfl hl (by decide) rfl (fun ls hl => ?_)
  obtain ⟨K42, eK42, h⟩ := gj h
  have hK42 : ∀ (w : gW) (H : Heap) (locs : List Loc) (ls : Array Slot), K42 w = some r → gI D s A w H locs → lv_has ls 3 [] → W p l e rm_B_forgetRelationsOf s m args below meth c H locs 0 0 Q (F0 m 42 ls []) := by
    intro w H locs ls h hI hl
    have h := gk1 eK42 h
    exact W.widen (show 0 ≤ 0 by omega) (show 0 ≤ 0 by omega) (hret _ _ (Option.some.inj h).symm _ _ _ _ d_B_forgetRelationsOf_42 hI)
  have hL2 : ∀ (n : Nat), ∀ (z1 : Int32) (w : gW) (H : Heap) (locs : List Loc) (ls : Array Slot), f_B_forgetRelationsOf_L2 g0 a0 a1 K42 n z1 w = some r → gI D s A w H locs → lv_has ls 3 [(0, .ref a0), (1, .ref a1), (2, .int z1)] → W p l e rm_B_forgetRelationsOf s m args below meth c H locs 0 0 Q (F0 m 2 ls []) := by
    intro n
    induction n with
    | zero => intro z1 w H locs ls h hI hl; exact absurd h (by simp [f_B_forgetRelationsOf_L2])
    | succ n ih =>
      intro z1 w H locs ls h hI hl
      rw [f_B_forgetRelationsOf_L2] at h
      refine lv_iload_n hx hb d_B_forgetRelationsOf_2 rfl (lv_at hl 2 rfl) ?_
      refine lv_aload_n hx hb d_B_forgetRelationsOf_3 rfl (lv_at hl 0 rfl) ?_
      obtain ⟨v2, e3, h⟩ := gb h
      refine gw_getA hx hb hT hown hK hI (ci := 0) rfl i_0 2 (by decide) wd_191 (fun _ h9 => h9) e3 d_B_forgetRelationsOf_4 ?_
      obtain ⟨q6, e7, h⟩ := gb h
      obtain ⟨u4, e5⟩ := gsome h
      refine gw_callI e5 h (gw_runV (As := []) (rest := [.int z1]) hx hb hml hown hT hK hZ hA hI (ci := 1) rfl e7 (m_AL_size l hst D g0 v2 w u4 e5) ce_AL_size wd_224 wd_226 ⟨by decide, by decide⟩ rfl rfl hl.1 rfl (lv_room (Nat.le_of_ble_eq_true rfl)) d_B_forgetRelationsOf_7 ⟨(show 0 + 0 ≤ 0 by omega), (show 0 + 0 ≤ 0 by omega)⟩) hI hA hexc (show 0 + 0 ≤ 0 by omega) (show 0 + 0 ≤ 0 by omega) (fun v8 w H locs h hI => ?_)
      refine lv_icmp_ge (tgt := 42) hx hb d_B_forgetRelationsOf_10 (by decide) (fun c9 => ?_) (fun c9 => ?_)
      · skip
        have h := git c9 h
        exact hK42 w H locs ls h hI (lv_sub hl [] rfl)
      · skip
        have h := gie c9 h
        refine lv_aload_n hx hb d_B_forgetRelationsOf_13 rfl (lv_at hl 0 rfl) ?_
        obtain ⟨v10, e11, h⟩ := gb h
        refine gw_getA hx hb hT hown hK hI (ci := 0) rfl i_0 2 (by decide) wd_191 (fun _ h9 => h9) e11 d_B_forgetRelationsOf_14 ?_
        refine lv_iload_n hx hb d_B_forgetRelationsOf_17 rfl (lv_at hl 2 rfl) ?_
        obtain ⟨q14, e15, h⟩ := gb h
        obtain ⟨u12, e13⟩ := gsome h
        refine gw_callA e13 h (gw_runV (As := [.int z1]) (rest := []) hx hb hml hown hT hK hZ hA hI (ci := 1) rfl e15 (m_AL_get l hst D g0 v10 z1 w u12 e13) ce_AL_get wd_321 wd_323 ⟨by decide, by decide⟩ rfl rfl hl.1 rfl (lv_room (Nat.le_of_ble_eq_true rfl)) d_B_forgetRelationsOf_18 ⟨(show 0 + 0 ≤ 0 by omega), (show 0 + 0 ≤ 0 by omega)⟩) hI hA hexc (show 0 + 0 ≤ 0 by omega) (show 0 + 0 ≤ 0 by omega) (fun v16 w H locs h hI => ?_)
        obtain ⟨q18, e17, h⟩ := gb h
        refine gw_cast hx hb hT hown hK hI wd_335 (ci := 5) rfl wd_1123 e17 d_B_forgetRelationsOf_21 ?_
        obtain ⟨v19, e20, h⟩ := gb h
        refine gw_getA hx hb hT hown hK hI (ci := 5) rfl i_5 0 (by decide) wd_653 (fun _ h9 => h9) e20 d_B_forgetRelationsOf_24 ?_
        refine lv_aload_n hx hb d_B_forgetRelationsOf_27 rfl (lv_at hl 1 rfl) ?_
        obtain ⟨K36, eK36, h⟩ := gj h
        have hK36 : ∀ (w : gW) (H : Heap) (locs : List Loc) (ls : Array Slot), K36 w = some r → gI D s A w H locs → lv_has ls 3 [(0, .ref a0), (1, .ref a1), (2, .int z1)] → W p l e rm_B_forgetRelationsOf s m args below meth c H locs 0 0 Q (F0 m 36 ls []) := by
          intro w H locs ls h hI hl
          have h := gk1 eK36 h
          refine lv_iinc (v := z1 + 1) (lv' := [(2, .int (z1 + 1)), (0, .ref a0), (1, .ref a1)]) hx hb d_B_forgetRelationsOf_36 hl (k := 2) rfl rfl (by decide) rfl (fun ls hl => ?_)
          refine lv_goto (tgt := 2) hx hb d_B_forgetRelationsOf_39 (by decide) ?_
          exact ih _ w H locs ls h hI (lv_sub hl [1, 2, 0] rfl)
        refine gw_acmp_ne (tgt := 36) hx hb d_B_forgetRelationsOf_28 (by decide) (fun c21 => ?_) (fun c21 => ?_)
        · skip
          have h := gie c21 h
          exact hK36 w H locs ls h hI (lv_sub hl [0, 1, 2] rfl)
        · skip
          have h := git c21 h
          refine lv_aload_n hx hb d_B_forgetRelationsOf_31 rfl (lv_at hl 0 rfl) ?_
          refine lv_iload_n hx hb d_B_forgetRelationsOf_32 rfl (lv_at hl 2 rfl) ?_
          obtain ⟨q24, e25, h⟩ := gb h
          obtain ⟨u22, e23⟩ := gsome h
          refine gw_callV e23 h (gw_runV (As := [.int z1]) (rest := []) hx hb hml hown hT hK hZ hA hI (ci := 0) rfl e25 (m_B_forgetRelationsAt l hst D g0 a0 z1 w u22 e23) ce_B_forgetRelationsAt wd_564 wd_10 ⟨by decide, by decide⟩ rfl rfl hl.1 rfl (lv_room (Nat.le_of_ble_eq_true rfl)) d_B_forgetRelationsOf_33 ⟨(show 0 + 0 ≤ 0 by omega), (show 0 + 0 ≤ 0 by omega)⟩) hI hA hexc (show 0 + 0 ≤ 0 by omega) (show 0 + 0 ≤ 0 by omega) (fun v26 w H locs h hI => ?_)
          exact hK36 w H locs ls h hI (lv_sub hl [0, 1, 2] rfl)
  exact hL2 64 _ w H locs ls h hI (lv_sub hl [1, 2, 0] rfl)

abbrev b_B_box : ByteArray := prog_1_method_3_code
def y_B_box : MethodName := ⟨"BodySolids", "box", "(IJJJJJJ)Z"⟩
theorem d_B_box_0 : decode b_B_box 0 = .ok (.aload_n 0, 1) := by decide +kernel
theorem d_B_box_1 : decode b_B_box 1 = .ok (.iload_n 1, 1) := by decide +kernel
theorem d_B_box_2 : decode b_B_box 2 = .ok (.invokevirtual 79, 3) := by decide +kernel
theorem d_B_box_5 : decode b_B_box 5 = .ok (.astore 14, 2) := by decide +kernel
theorem d_B_box_7 : decode b_B_box 7 = .ok (.lload_n 2, 1) := by decide +kernel
theorem d_B_box_8 : decode b_B_box 8 = .ok (.lload 4, 2) := by decide +kernel
theorem d_B_box_10 : decode b_B_box 10 = .ok (.invokestatic 83, 3) := by decide +kernel
theorem d_B_box_13 : decode b_B_box 13 = .ok (.lload 8, 2) := by decide +kernel
theorem d_B_box_15 : decode b_B_box 15 = .ok (.invokestatic 87, 3) := by decide +kernel
theorem d_B_box_18 : decode b_B_box 18 = .ok (.lload 10, 2) := by decide +kernel
theorem d_B_box_20 : decode b_B_box 20 = .ok (.invokestatic 87, 3) := by decide +kernel
theorem d_B_box_23 : decode b_B_box 23 = .ok (.lload_n 2, 1) := by decide +kernel
theorem d_B_box_24 : decode b_B_box 24 = .ok (.lload 8, 2) := by decide +kernel
theorem d_B_box_26 : decode b_B_box 26 = .ok (.ladd, 1) := by decide +kernel
theorem d_B_box_27 : decode b_B_box 27 = .ok (.lload 4, 2) := by decide +kernel
theorem d_B_box_29 : decode b_B_box 29 = .ok (.lload 10, 2) := by decide +kernel
theorem d_B_box_31 : decode b_B_box 31 = .ok (.ladd, 1) := by decide +kernel
theorem d_B_box_32 : decode b_B_box 32 = .ok (.invokestatic 83, 3) := by decide +kernel
theorem d_B_box_35 : decode b_B_box 35 = .ok (.lload 6, 2) := by decide +kernel
theorem d_B_box_37 : decode b_B_box 37 = .ok (.lload 12, 2) := by decide +kernel
theorem d_B_box_39 : decode b_B_box 39 = .ok (.invokestatic 91, 3) := by decide +kernel
theorem d_B_box_42 : decode b_B_box 42 = .ok (.aload 14, 2) := by decide +kernel
theorem d_B_box_44 : decode b_B_box 44 = .ok (.invokevirtual 94, 3) := by decide +kernel
theorem d_B_box_47 : decode b_B_box 47 = .ok (.ifCond .eq 5, 3) := by decide +kernel
theorem d_B_box_50 : decode b_B_box 50 = .ok (.iconst 0, 1) := by decide +kernel
theorem d_B_box_51 : decode b_B_box 51 = .ok (.ireturn, 1) := by decide +kernel
theorem d_B_box_52 : decode b_B_box 52 = .ok (.new 98, 3) := by decide +kernel
theorem d_B_box_55 : decode b_B_box 55 = .ok (.dup, 1) := by decide +kernel
theorem d_B_box_56 : decode b_B_box 56 = .ok (.invokespecial 100, 3) := by decide +kernel
theorem d_B_box_59 : decode b_B_box 59 = .ok (.astore 15, 2) := by decide +kernel
theorem d_B_box_61 : decode b_B_box 61 = .ok (.aload 15, 2) := by decide +kernel
theorem d_B_box_63 : decode b_B_box 63 = .ok (.iconst 0, 1) := by decide +kernel
theorem d_B_box_64 : decode b_B_box 64 = .ok (.lconst 0, 1) := by decide +kernel
theorem d_B_box_65 : decode b_B_box 65 = .ok (.lconst 0, 1) := by decide +kernel
theorem d_B_box_66 : decode b_B_box 66 = .ok (.invokevirtual 101, 3) := by decide +kernel
theorem d_B_box_69 : decode b_B_box 69 = .ok (.aload 15, 2) := by decide +kernel
theorem d_B_box_71 : decode b_B_box 71 = .ok (.lload_n 2, 1) := by decide +kernel
theorem d_B_box_72 : decode b_B_box 72 = .ok (.lload 4, 2) := by decide +kernel
theorem d_B_box_74 : decode b_B_box 74 = .ok (.lload_n 2, 1) := by decide +kernel
theorem d_B_box_75 : decode b_B_box 75 = .ok (.lload 8, 2) := by decide +kernel
theorem d_B_box_77 : decode b_B_box 77 = .ok (.ladd, 1) := by decide +kernel
theorem d_B_box_78 : decode b_B_box 78 = .ok (.lload 4, 2) := by decide +kernel
theorem d_B_box_80 : decode b_B_box 80 = .ok (.lload 10, 2) := by decide +kernel
theorem d_B_box_82 : decode b_B_box 82 = .ok (.ladd, 1) := by decide +kernel
theorem d_B_box_83 : decode b_B_box 83 = .ok (.invokevirtual 105, 3) := by decide +kernel
theorem d_B_box_86 : decode b_B_box 86 = .ok (.aload 15, 2) := by decide +kernel
theorem d_B_box_88 : decode b_B_box 88 = .ok (.lload 6, 2) := by decide +kernel
theorem d_B_box_90 : decode b_B_box 90 = .ok (.lload 6, 2) := by decide +kernel
theorem d_B_box_92 : decode b_B_box 92 = .ok (.lload 12, 2) := by decide +kernel
theorem d_B_box_94 : decode b_B_box 94 = .ok (.ladd, 1) := by decide +kernel
theorem d_B_box_95 : decode b_B_box 95 = .ok (.invokevirtual 109, 3) := by decide +kernel
theorem d_B_box_98 : decode b_B_box 98 = .ok (.aload 14, 2) := by decide +kernel
theorem d_B_box_100 : decode b_B_box 100 = .ok (.aload 15, 2) := by decide +kernel
theorem d_B_box_102 : decode b_B_box 102 = .ok (.ldc2_w 112, 3) := by decide +kernel
theorem d_B_box_105 : decode b_B_box 105 = .ok (.lload 8, 2) := by decide +kernel
theorem d_B_box_107 : decode b_B_box 107 = .ok (.lmul, 1) := by decide +kernel
theorem d_B_box_108 : decode b_B_box 108 = .ok (.lload 10, 2) := by decide +kernel
theorem d_B_box_110 : decode b_B_box 110 = .ok (.lmul, 1) := by decide +kernel
theorem d_B_box_111 : decode b_B_box 111 = .ok (.lload 12, 2) := by decide +kernel
theorem d_B_box_113 : decode b_B_box 113 = .ok (.lmul, 1) := by decide +kernel
theorem d_B_box_114 : decode b_B_box 114 = .ok (.invokevirtual 114, 3) := by decide +kernel
theorem d_B_box_117 : decode b_B_box 117 = .ok (.aload_n 0, 1) := by decide +kernel
theorem d_B_box_118 : decode b_B_box 118 = .ok (.aload 14, 2) := by decide +kernel
theorem d_B_box_120 : decode b_B_box 120 = .ok (.invokevirtual 118, 3) := by decide +kernel
theorem d_B_box_123 : decode b_B_box 123 = .ok (.iconst 1, 1) := by decide +kernel
theorem d_B_box_124 : decode b_B_box 124 = .ok (.ireturn, 1) := by decide +kernel
abbrev rm_B_box : Room := { frames := 10, cells := 14, slots := 152, locals := 202 }
theorem ce_B_box : gCe y_B_box (.code y_B_box b_B_box 16 (some .boolean)) 16 7 false := gCe.code wd_435 wd_49 wd_433 (by decide) (by decide +kernel)
def f_B_box (g0 : gG) (a0 : Nat) (p1 : Int32) (p2 : Int64) (p3 : Int64) (p4 : Int64) (p5 : Int64) (p6 : Int64) (p7 : Int64) (w : gW) : gX Int32 := (gck w a0 0).bind fun _ => gbind (f_B_bodyAt g0 a0 p1 w) fun v5 w => gbind (f_B_needPlace g0 p2 p3 w) fun v8 w => gbind (f_B_needSize g0 p5 w) fun v11 w => gbind (f_B_needSize g0 p6 w) fun v14 w => gbind (f_B_needPlace g0 (p2 + p5) (p3 + p6) w) fun v17 w => gbind (f_B_needUpright g0 p4 p7 w) fun v20 w => (gck w v5 4).bind fun _ => gbind (f_By_isFull g0 v5 w) fun v25 w => if v25 = 0 then (gb2f (gnw w 3 [.int 0, .long 0, .long 0, .null, .null, .int 0, .long 0, .long 0, .long 0, .long 0, .long 0, .long 0]) fun o27 w => gbind (f_So_init g0 o27 w) fun v31 w => (gck w o27 3).bind fun _ => gbind (f_So_begin g0 o27 0 0 0 w) fun v36 w => (gck w o27 3).bind fun _ => gbind (f_So_addRectangle g0 o27 p2 p3 (p2 + p5) (p3 + p6) w) fun v41 w => (gck w o27 3).bind fun _ => gbind (f_So_setHeights g0 o27 p4 (p4 + p7) w) fun v46 w => (gck w v5 4).bind fun _ => gbind (f_By_add g0 v5 o27 (((226 * p5) * p6) * p7) w) fun v51 w => (gck w a0 0).bind fun _ => gbind (f_B_forgetRelationsOf g0 a0 v5 w) fun v56 w => gguard ((1 : Int32) = 0 ∨ (1 : Int32) = 1) (some (.inr 1, w))) else (gguard ((0 : Int32) = 0 ∨ (0 : Int32) = 1) (some (.inr 0, w)))
set_option maxHeartbeats 4000000 in
set_option maxRecDepth 100000 in
theorem m_B_box (l : Launch) (hst : l.stackTraces = false) (D : gD) (g0 : gG) (a0 : Nat) (p1 : Int32) (p2 : Int64) (p3 : Int64) (p4 : Int64) (p5 : Int64) (p6 : Int64) (p7 : Int64) (w : gW) (r : (String ⊕ Int32) × gW) (h : f_B_box g0 a0 p1 p2 p3 p4 p5 p6 p7 w = some r) : gMet l y_B_box (.code y_B_box b_B_box 16 (some .boolean)) rm_B_box D g0 [.ref a0, .int p1, .long p2, .long p3, .long p4, .long p5, .long p6, .long p7] w (goI r) := by
  refine gw_ofZ (by decide +kernel) (Nat.le_of_ble_eq_true rfl) ?_
  intro p e s m below meth c ls args A Q hx hb hml hown hlocks hin hnt hT hK hZ hA hret hexc hthr hI hl
  obtain ⟨H, hH⟩ : ∃ H, H = s.heap := ⟨_, rfl⟩
  rw [← hH] at hI ⊢
  obtain ⟨locs, hlocs⟩ : ∃ z : List Loc, z = [] := ⟨_, rfl⟩
  rw [← hlocs] at hI ⊢
  have hl : lv_has ls 16 [(0, .ref a0), (1, .int p1), (2, .long p2), (4, .long p3), (6, .long p4), (8, .long p5), (10, .long p6), (12, .long p7)] := hl
  unfold f_B_box at h
  refine lv_aload_n hx hb d_B_box_0 rfl (lv_at hl 0 rfl) ?_
  refine lv_iload_n hx hb d_B_box_1 rfl (lv_at hl 1 rfl) ?_
  obtain ⟨q3, e4, h⟩ := gb h
  obtain ⟨u1, e2⟩ := gsome h
  refine gw_callA e2 h (gw_runV (As := [.int p1]) (rest := []) hx hb hml hown hT hK hZ hA hI (ci := 0) rfl e4 (m_B_bodyAt l hst D g0 a0 p1 w u1 e2) ce_B_bodyAt wd_436 wd_7 ⟨by decide, by decide⟩ rfl rfl hl.1 rfl (lv_room (Nat.le_of_ble_eq_true rfl)) d_B_box_2 ⟨(show 0 + 1 ≤ 14 by omega), (show 0 + 6 ≤ 152 by omega)⟩) hI hA hexc (show 0 + 1 ≤ 14 by omega) (show 0 + 6 ≤ 152 by omega) (fun v5 w H locs h hI => ?_)
  refine W.widen (k := 1) (n := 6) (show 0 + 1 ≤ 1 by omega) (show 0 + 6 ≤ 6 by omega) ?_
  refine lv_astore (lv' := [(14, .ref v5), (0, .ref a0), (1, .int p1), (2, .long p2), (4, .long p3), (6, .long p4), (8, .long p5), (10, .long p6), (12, .long p7)]) hx hb d_B_box_5 hl (by decide) rfl (fun ls hl => ?_)
  refine lv_lload_n hx hb d_B_box_7 rfl (lv_at hl 3 rfl) ?_
  refine lv_lload hx hb d_B_box_8 (lv_at hl 4 rfl) ?_
  obtain ⟨u6, e7⟩ := gsome h
  refine gw_callV e7 h (gw_runS (As := [.long p2, .long p3]) (rest := []) hx hb hml hown hT hK hZ hA hI (m_B_needPlace l hst D g0 p2 p3 w u6 e7) ce_B_needPlace wd_511 ⟨by decide, by decide⟩ rfl rfl hl.1 rfl (lv_room (Nat.le_of_ble_eq_true rfl)) d_B_box_10 ⟨(show 1 + 2 ≤ 14 by omega), (show 6 + 12 ≤ 152 by omega)⟩) hI hA hexc (show 1 + 2 ≤ 14 by omega) (show 6 + 12 ≤ 152 by omega) (fun v8 w H locs h hI => ?_)
  refine W.widen (k := 3) (n := 18) (show 1 + 2 ≤ 3 by omega) (show 6 + 12 ≤ 18 by omega) ?_
  refine lv_lload hx hb d_B_box_13 (lv_at hl 6 rfl) ?_
  obtain ⟨u9, e10⟩ := gsome h
  refine gw_callV e10 h (gw_runS (As := [.long p5]) (rest := []) hx hb hml hown hT hK hZ hA hI (m_B_needSize l hst D g0 p5 w u9 e10) ce_B_needSize wd_535 ⟨by decide, by decide⟩ rfl rfl hl.1 rfl (lv_room (Nat.le_of_ble_eq_true rfl)) d_B_box_15 ⟨(show 3 + 1 ≤ 14 by omega), (show 18 + 6 ≤ 152 by omega)⟩) hI hA hexc (show 3 + 1 ≤ 14 by omega) (show 18 + 6 ≤ 152 by omega) (fun v11 w H locs h hI => ?_)
  refine W.widen (k := 4) (n := 24) (show 3 + 1 ≤ 4 by omega) (show 18 + 6 ≤ 24 by omega) ?_
  refine lv_lload hx hb d_B_box_18 (lv_at hl 7 rfl) ?_
  obtain ⟨u12, e13⟩ := gsome h
  refine gw_callV e13 h (gw_runS (As := [.long p6]) (rest := []) hx hb hml hown hT hK hZ hA hI (m_B_needSize l hst D g0 p6 w u12 e13) ce_B_needSize wd_535 ⟨by decide, by decide⟩ rfl rfl hl.1 rfl (lv_room (Nat.le_of_ble_eq_true rfl)) d_B_box_20 ⟨(show 4 + 1 ≤ 14 by omega), (show 24 + 6 ≤ 152 by omega)⟩) hI hA hexc (show 4 + 1 ≤ 14 by omega) (show 24 + 6 ≤ 152 by omega) (fun v14 w H locs h hI => ?_)
  refine W.widen (k := 5) (n := 30) (show 4 + 1 ≤ 5 by omega) (show 24 + 6 ≤ 30 by omega) ?_
  refine lv_lload_n hx hb d_B_box_23 rfl (lv_at hl 3 rfl) ?_
  refine lv_lload hx hb d_B_box_24 (lv_at hl 6 rfl) ?_
  refine lv_ladd hx hb d_B_box_26 ?_
  refine lv_lload hx hb d_B_box_27 (lv_at hl 4 rfl) ?_
  refine lv_lload hx hb d_B_box_29 (lv_at hl 7 rfl) ?_
  refine lv_ladd hx hb d_B_box_31 ?_
  obtain ⟨u15, e16⟩ := gsome h
  refine gw_callV e16 h (gw_runS (As := [.long (p2 + p5), .long (p3 + p6)]) (rest := []) hx hb hml hown hT hK hZ hA hI (m_B_needPlace l hst D g0 (p2 + p5) (p3 + p6) w u15 e16) ce_B_needPlace wd_511 ⟨by decide, by decide⟩ rfl rfl hl.1 rfl (lv_room (Nat.le_of_ble_eq_true rfl)) d_B_box_32 ⟨(show 5 + 2 ≤ 14 by omega), (show 30 + 12 ≤ 152 by omega)⟩) hI hA hexc (show 5 + 2 ≤ 14 by omega) (show 30 + 12 ≤ 152 by omega) (fun v17 w H locs h hI => ?_)
  refine W.widen (k := 7) (n := 42) (show 5 + 2 ≤ 7 by omega) (show 30 + 12 ≤ 42 by omega) ?_
  refine lv_lload hx hb d_B_box_35 (lv_at hl 5 rfl) ?_
  refine lv_lload hx hb d_B_box_37 (lv_at hl 8 rfl) ?_
  obtain ⟨u18, e19⟩ := gsome h
  refine gw_callV e19 h (gw_runS (As := [.long p4, .long p7]) (rest := []) hx hb hml hown hT hK hZ hA hI (m_B_needUpright l hst D g0 p4 p7 w u18 e19) ce_B_needUpright wd_538 ⟨by decide, by decide⟩ rfl rfl hl.1 rfl (lv_room (Nat.le_of_ble_eq_true rfl)) d_B_box_39 ⟨(show 7 + 3 ≤ 14 by omega), (show 42 + 18 ≤ 152 by omega)⟩) hI hA hexc (show 7 + 3 ≤ 14 by omega) (show 42 + 18 ≤ 152 by omega) (fun v20 w H locs h hI => ?_)
  refine W.widen (k := 10) (n := 60) (show 7 + 3 ≤ 10 by omega) (show 42 + 18 ≤ 60 by omega) ?_
  refine lv_aload hx hb d_B_box_42 (lv_at hl 0 rfl) ?_
  obtain ⟨q23, e24, h⟩ := gb h
  obtain ⟨u21, e22⟩ := gsome h
  refine gw_callI e22 h (gw_runV (As := []) (rest := []) hx hb hml hown hT hK hZ hA hI (ci := 4) rfl e24 (m_By_isFull l hst D g0 v5 w u21 e22) ce_By_isFull wd_541 wd_543 ⟨by decide, by decide⟩ rfl rfl hl.1 rfl (lv_room (Nat.le_of_ble_eq_true rfl)) d_B_box_44 ⟨(show 10 + 0 ≤ 14 by omega), (show 60 + 0 ≤ 152 by omega)⟩) hI hA hexc (show 10 + 0 ≤ 14 by omega) (show 60 + 0 ≤ 152 by omega) (fun v25 w H locs h hI => ?_)
  refine lv_if_eq (tgt := 52) hx hb d_B_box_47 (by decide) (fun c26 => ?_) (fun c26 => ?_)
  · skip
    have h := git c26 h
    obtain ⟨o27, w, e28, h⟩ := gb2 h
    refine gw_new hx hb hT hown hK hI hA (ci := 3) rfl i_3 t_3 t_3_ok wd_546 wd_124 wd_56 (fs := [.int 0, .long 0, .long 0, .null, .null, .int 0, .long 0, .long 0, .long 0, .long 0, .long 0, .long 0]) df_3 e28 (show 10 + 1 ≤ 14 by omega) (show 60 + 12 ≤ 152 by omega) d_B_box_52 (fun H hI => ?_)
    refine W.widen (k := 11) (n := 72) (show 10 + 1 ≤ 11 by omega) (show 60 + 12 ≤ 72 by omega) ?_
    refine lv_dup hx hb d_B_box_55 rfl ?_
    obtain ⟨u29, e30⟩ := gsome h
    refine gw_callV e30 h (gw_runIN (As := []) (rest := [.ref o27]) hx hb hml hown hT hK hZ hA hI (m_So_init l hst D g0 o27 w u29 e30) ce_So_init wd_547 rfl ⟨by decide, by decide⟩ rfl rfl hl.1 rfl (lv_room (Nat.le_of_ble_eq_true rfl)) d_B_box_56 ⟨(show 11 + 2 ≤ 14 by omega), (show 72 + 16 ≤ 152 by omega)⟩) hI hA hexc (show 11 + 2 ≤ 14 by omega) (show 72 + 16 ≤ 152 by omega) (fun v31 w H locs h hI => ?_)
    refine W.widen (k := 13) (n := 88) (show 11 + 2 ≤ 13 by omega) (show 72 + 16 ≤ 88 by omega) ?_
    refine lv_astore (lv' := [(15, .ref o27), (14, .ref v5), (0, .ref a0), (1, .int p1), (2, .long p2), (4, .long p3), (6, .long p4), (8, .long p5), (10, .long p6), (12, .long p7)]) hx hb d_B_box_59 hl (by decide) rfl (fun ls hl => ?_)
    refine lv_aload hx hb d_B_box_61 (lv_at hl 0 rfl) ?_
    refine lv_iconst (v := 0) hx hb d_B_box_63 (by decide) ?_
    refine lv_lconst (v := 0) hx hb d_B_box_64 (by decide) ?_
    refine lv_lconst (v := 0) hx hb d_B_box_65 (by decide) ?_
    obtain ⟨q34, e35, h⟩ := gb h
    obtain ⟨u32, e33⟩ := gsome h
    refine gw_callV e33 h (gw_runV (As := [.int 0, .long 0, .long 0]) (rest := []) hx hb hml hown hT hK hZ hA hI (ci := 3) rfl e35 (m_So_begin l hst D g0 o27 0 0 0 w u32 e33) ce_So_begin wd_548 wd_349 ⟨by decide, by decide⟩ rfl rfl hl.1 rfl (lv_room (Nat.le_of_ble_eq_true rfl)) d_B_box_66 ⟨(show 13 + 0 ≤ 14 by omega), (show 88 + 0 ≤ 152 by omega)⟩) hI hA hexc (show 13 + 0 ≤ 14 by omega) (show 88 + 0 ≤ 152 by omega) (fun v36 w H locs h hI => ?_)
    refine lv_aload hx hb d_B_box_69 (lv_at hl 0 rfl) ?_
    refine lv_lload_n hx hb d_B_box_71 rfl (lv_at hl 4 rfl) ?_
    refine lv_lload hx hb d_B_box_72 (lv_at hl 5 rfl) ?_
    refine lv_lload_n hx hb d_B_box_74 rfl (lv_at hl 4 rfl) ?_
    refine lv_lload hx hb d_B_box_75 (lv_at hl 7 rfl) ?_
    refine lv_ladd hx hb d_B_box_77 ?_
    refine lv_lload hx hb d_B_box_78 (lv_at hl 5 rfl) ?_
    refine lv_lload hx hb d_B_box_80 (lv_at hl 8 rfl) ?_
    refine lv_ladd hx hb d_B_box_82 ?_
    obtain ⟨q39, e40, h⟩ := gb h
    obtain ⟨u37, e38⟩ := gsome h
    refine gw_callV e38 h (gw_runV (As := [.long p2, .long p3, .long (p2 + p5), .long (p3 + p6)]) (rest := []) hx hb hml hown hT hK hZ hA hI (ci := 3) rfl e40 (m_So_addRectangle l hst D g0 o27 p2 p3 (p2 + p5) (p3 + p6) w u37 e38) ce_So_addRectangle wd_549 wd_551 ⟨by decide, by decide⟩ rfl rfl hl.1 rfl (lv_room (Nat.le_of_ble_eq_true rfl)) d_B_box_83 ⟨(show 13 + 0 ≤ 14 by omega), (show 88 + 0 ≤ 152 by omega)⟩) hI hA hexc (show 13 + 0 ≤ 14 by omega) (show 88 + 0 ≤ 152 by omega) (fun v41 w H locs h hI => ?_)
    refine lv_aload hx hb d_B_box_86 (lv_at hl 0 rfl) ?_
    refine lv_lload hx hb d_B_box_88 (lv_at hl 6 rfl) ?_
    refine lv_lload hx hb d_B_box_90 (lv_at hl 6 rfl) ?_
    refine lv_lload hx hb d_B_box_92 (lv_at hl 9 rfl) ?_
    refine lv_ladd hx hb d_B_box_94 ?_
    obtain ⟨q44, e45, h⟩ := gb h
    obtain ⟨u42, e43⟩ := gsome h
    refine gw_callV e43 h (gw_runV (As := [.long p4, .long (p4 + p7)]) (rest := []) hx hb hml hown hT hK hZ hA hI (ci := 3) rfl e45 (m_So_setHeights l hst D g0 o27 p4 (p4 + p7) w u42 e43) ce_So_setHeights wd_553 wd_367 ⟨by decide, by decide⟩ rfl rfl hl.1 rfl (lv_room (Nat.le_of_ble_eq_true rfl)) d_B_box_95 ⟨(show 13 + 0 ≤ 14 by omega), (show 88 + 0 ≤ 152 by omega)⟩) hI hA hexc (show 13 + 0 ≤ 14 by omega) (show 88 + 0 ≤ 152 by omega) (fun v46 w H locs h hI => ?_)
    refine lv_aload hx hb d_B_box_98 (lv_at hl 1 rfl) ?_
    refine lv_aload hx hb d_B_box_100 (lv_at hl 0 rfl) ?_
    refine lv_ldc2 (v := 226) hx hb hown (hT _ wd_554 args) d_B_box_102 ?_
    refine lv_lload hx hb d_B_box_105 (lv_at hl 7 rfl) ?_
    refine lv_lmul hx hb d_B_box_107 ?_
    refine lv_lload hx hb d_B_box_108 (lv_at hl 8 rfl) ?_
    refine lv_lmul hx hb d_B_box_110 ?_
    refine lv_lload hx hb d_B_box_111 (lv_at hl 9 rfl) ?_
    refine lv_lmul hx hb d_B_box_113 ?_
    obtain ⟨q49, e50, h⟩ := gb h
    obtain ⟨u47, e48⟩ := gsome h
    refine gw_callV e48 h (gw_runV (As := [.ref o27, .long (((226 * p5) * p6) * p7)]) (rest := []) hx hb hml hown hT hK hZ hA hI (ci := 4) rfl e50 (m_By_add l hst D g0 v5 o27 (((226 * p5) * p6) * p7) w u47 e48) ce_By_add wd_555 wd_557 ⟨by decide, by decide⟩ rfl rfl hl.1 rfl (lv_room (Nat.le_of_ble_eq_true rfl)) d_B_box_114 ⟨(show 13 + 1 ≤ 14 by omega), (show 88 + 64 ≤ 152 by omega)⟩) hI hA hexc (show 13 + 1 ≤ 14 by omega) (show 88 + 64 ≤ 152 by omega) (fun v51 w H locs h hI => ?_)
    refine W.widen (k := 14) (n := 152) (show 13 + 1 ≤ 14 by omega) (show 88 + 64 ≤ 152 by omega) ?_
    refine lv_aload_n hx hb d_B_box_117 rfl (lv_at hl 2 rfl) ?_
    refine lv_aload hx hb d_B_box_118 (lv_at hl 1 rfl) ?_
    obtain ⟨q54, e55, h⟩ := gb h
    obtain ⟨u52, e53⟩ := gsome h
    refine gw_callV e53 h (gw_runV (As := [.ref v5]) (rest := []) hx hb hml hown hT hK hZ hA hI (ci := 0) rfl e55 (m_B_forgetRelationsOf l hst D g0 a0 v5 w u52 e53) ce_B_forgetRelationsOf wd_560 wd_9 ⟨by decide, by decide⟩ rfl rfl hl.1 rfl (lv_room (Nat.le_of_ble_eq_true rfl)) d_B_box_120 ⟨(show 14 + 0 ≤ 14 by omega), (show 152 + 0 ≤ 152 by omega)⟩) hI hA hexc (show 14 + 0 ≤ 14 by omega) (show 152 + 0 ≤ 152 by omega) (fun v56 w H locs h hI => ?_)
    refine lv_iconst (v := 1) hx hb d_B_box_123 (by decide) ?_
    obtain ⟨g57, h⟩ := gif h
    exact W.widen (show 14 ≤ 14 by omega) (show 152 ≤ 152 by omega) (hret g57 0 _ (Option.some.inj h).symm _ _ _ _ d_B_box_124 hI)
  · skip
    have h := gie c26 h
    refine lv_iconst (v := 0) hx hb d_B_box_50 (by decide) ?_
    obtain ⟨g58, h⟩ := gif h
    exact W.widen (show 10 ≤ 14 by omega) (show 60 ≤ 152 by omega) (hret g58 0 _ (Option.some.inj h).symm _ _ _ _ d_B_box_51 hI)
