def f_X8_rate (N : Nat) (k0 : Nat) (v1 : Int32) (v2 : Int32) (σ : zS) : zA := some (((3 : Int32) + (v2 / (3 : Int32))), σ)
set_option maxHeartbeats 4000000 in
set_option maxRecDepth 100000 in
theorem k_X8_rate {l : Launch} {dC : Nat → ClassId} {dI : Nat → Nat → Nat} {A : Nat → Prop} {ad : Nat → Nat} {cI cC cW : ClassId} (hO : zO A 48 ad (cfC ad cI cC cW)) (N : Nat) (k0 : Nat) (hk0 : k0 < 6) (v1 : Int32) (v2 : Int32) (σ : zS) : zM l dC dI A 48 ad (cfC ad cI cC cW) (z_ty cI cC cW) true yX8_rate cX8_rate 3 (some .int) 0 [.ref (ad (30 + k0)), .int v1, .int v2] σ (f_X8_rate N k0 v1 v2 σ) := by
  refine zM_of hO (by decide) (Nat.le_of_ble_eq_true rfl) (fun G hG C => ?_)
  subst hG
  unfold f_X8_rate
  refine zx_sub (L1 := [(0, .ref (ad (30 + k0))), (1, .int v1), (2, .int v2)]) [0, 1, 2] rfl ?_
  refine zx_iconst (v := 3) C dX8_rate_0 (by decide) ?_
  refine zx_iload_n C 2 dX8_rate_1 rfl rfl ?_
  refine zx_iconst (v := 3) C dX8_rate_2 (by decide) ?_
  refine zx_idiv C dX8_rate_3 (by decide) ?_
  refine zx_iadd C dX8_rate_4 ?_
  exact zx_iret C dX8_rate_5
def f_X0_rate (N : Nat) (k0 : Nat) (v1 : Int32) (v2 : Int32) (σ : zS) : zA := z_b (f_X8_rate N k0 v1 v2 σ) (fun r_1 t_2 => some ((r_1 - (1 : Int32)), t_2))
set_option maxHeartbeats 4000000 in
set_option maxRecDepth 100000 in
theorem k_X0_rate {l : Launch} {dC : Nat → ClassId} {dI : Nat → Nat → Nat} {A : Nat → Prop} {ad : Nat → Nat} {cI cC cW : ClassId} (hO : zO A 48 ad (cfC ad cI cC cW)) (N : Nat) (k0 : Nat) (hk0 : k0 < 6) (v1 : Int32) (v2 : Int32) (σ : zS) : zM l dC dI A 48 ad (cfC ad cI cC cW) (z_ty cI cC cW) true yX0_rate cX0_rate 3 (some .int) 1 [.ref (ad (30 + k0)), .int v1, .int v2] σ (f_X0_rate N k0 v1 v2 σ) := by
  refine zM_of hO (by decide) (Nat.le_of_ble_eq_true rfl) (fun G hG C => ?_)
  subst hG
  unfold f_X0_rate
  refine zx_sub (L1 := [(0, .ref (ad (30 + k0))), (1, .int v1), (2, .int v2)]) [0, 1, 2] rfl ?_
  refine zx_aload_n C 0 dX0_rate_0 rfl rfl ?_
  refine zx_iload_n C 1 dX0_rate_1 rfl rfl ?_
  refine zx_iload_n C 2 dX0_rate_2 rfl rfl ?_
  refine zx_callSU (As := [.int v1, .int v2]) (st := []) C yk_X8_rate q_376 q_372 q_72 q_370 (by decide) (l_Wax (k := k0) hk0) (c_wax (k := k0) hk0) (wxc_cl hk0) (k_X8_rate C.hO N k0 hk0 v1 v2 σ) (by decide) rfl rfl (Nat.le_of_ble_eq_true rfl) dX0_rate_3 (fun _ r_1 t_2 => ?_) (fun h9 => nomatch h9)
  refine zx_iconst (v := 1) C dX0_rate_6 (by decide) ?_
  refine zx_isub C dX0_rate_7 ?_
  exact zx_iret C dX0_rate_8
def f_X2_rate (N : Nat) (k0 : Nat) (v1 : Int32) (v2 : Int32) (σ : zS) : zA := z_b (f_X8_rate N k0 v1 v2 σ) (fun r_1 t_2 => some (((2 : Int32) * r_1), t_2))
set_option maxHeartbeats 4000000 in
set_option maxRecDepth 100000 in
theorem k_X2_rate {l : Launch} {dC : Nat → ClassId} {dI : Nat → Nat → Nat} {A : Nat → Prop} {ad : Nat → Nat} {cI cC cW : ClassId} (hO : zO A 48 ad (cfC ad cI cC cW)) (N : Nat) (k0 : Nat) (hk0 : k0 < 6) (v1 : Int32) (v2 : Int32) (σ : zS) : zM l dC dI A 48 ad (cfC ad cI cC cW) (z_ty cI cC cW) true yX2_rate cX2_rate 3 (some .int) 1 [.ref (ad (30 + k0)), .int v1, .int v2] σ (f_X2_rate N k0 v1 v2 σ) := by
  refine zM_of hO (by decide) (Nat.le_of_ble_eq_true rfl) (fun G hG C => ?_)
  subst hG
  unfold f_X2_rate
  refine zx_sub (L1 := [(0, .ref (ad (30 + k0))), (1, .int v1), (2, .int v2)]) [0, 1, 2] rfl ?_
  refine zx_iconst (v := 2) C dX2_rate_0 (by decide) ?_
  refine zx_aload_n C 0 dX2_rate_1 rfl rfl ?_
  refine zx_iload_n C 1 dX2_rate_2 rfl rfl ?_
  refine zx_iload_n C 2 dX2_rate_3 rfl rfl ?_
  refine zx_callSU (As := [.int v1, .int v2]) (st := [.int (2 : Int32)]) C yk_X8_rate q_380 q_372 q_79 q_370 (by decide) (l_Wax (k := k0) hk0) (c_wax (k := k0) hk0) (wxc_cl hk0) (k_X8_rate C.hO N k0 hk0 v1 v2 σ) (by decide) rfl rfl (Nat.le_of_ble_eq_true rfl) dX2_rate_4 (fun _ r_1 t_2 => ?_) (fun h9 => nomatch h9)
  refine zx_imul C dX2_rate_7 ?_
  exact zx_iret C dX2_rate_8
def f_X7_rate (N : Nat) (k0 : Nat) (v1 : Int32) (v2 : Int32) (σ : zS) : zA := z_b (f_X0_rate N k0 v1 v2 σ) (fun r_1 t_2 => some ((r_1 + v1), t_2))
set_option maxHeartbeats 4000000 in
set_option maxRecDepth 100000 in
theorem k_X7_rate {l : Launch} {dC : Nat → ClassId} {dI : Nat → Nat → Nat} {A : Nat → Prop} {ad : Nat → Nat} {cI cC cW : ClassId} (hO : zO A 48 ad (cfC ad cI cC cW)) (N : Nat) (k0 : Nat) (hk0 : k0 < 6) (v1 : Int32) (v2 : Int32) (σ : zS) : zM l dC dI A 48 ad (cfC ad cI cC cW) (z_ty cI cC cW) true yX7_rate cX7_rate 3 (some .int) 2 [.ref (ad (30 + k0)), .int v1, .int v2] σ (f_X7_rate N k0 v1 v2 σ) := by
  refine zM_of hO (by decide) (Nat.le_of_ble_eq_true rfl) (fun G hG C => ?_)
  subst hG
  unfold f_X7_rate
  refine zx_sub (L1 := [(0, .ref (ad (30 + k0))), (1, .int v1), (2, .int v2)]) [0, 1, 2] rfl ?_
  refine zx_aload_n C 0 dX7_rate_0 rfl rfl ?_
  refine zx_iload_n C 1 dX7_rate_1 rfl rfl ?_
  refine zx_iload_n C 2 dX7_rate_2 rfl rfl ?_
  refine zx_callSU (As := [.int v1, .int v2]) (st := []) C yk_X0_rate q_395 q_983 q_86 q_374 (by decide) (l_Wax (k := k0) hk0) (c_wax (k := k0) hk0) (wxc_cl hk0) (k_X0_rate C.hO N k0 hk0 v1 v2 σ) (by decide) rfl rfl (Nat.le_of_ble_eq_true rfl) dX7_rate_3 (fun _ r_1 t_2 => ?_) (fun h9 => nomatch h9)
  refine zx_iload_n C 1 dX7_rate_6 rfl rfl ?_
  refine zx_iadd C dX7_rate_7 ?_
  exact zx_iret C dX7_rate_8
def f_X6_rate (N : Nat) (k0 : Nat) (v1 : Int32) (v2 : Int32) (σ : zS) : zA := z_b (f_X2_rate N k0 v1 v2 σ) (fun r_1 t_2 => some ((if (1 : Int32) < (r_1 - v1) then (r_1 - v1) else (1 : Int32)), t_2))
set_option maxHeartbeats 4000000 in
set_option maxRecDepth 100000 in
theorem k_X6_rate {l : Launch} {dC : Nat → ClassId} {dI : Nat → Nat → Nat} {A : Nat → Prop} {ad : Nat → Nat} {cI cC cW : ClassId} (hO : zO A 48 ad (cfC ad cI cC cW)) (N : Nat) (k0 : Nat) (hk0 : k0 < 6) (v1 : Int32) (v2 : Int32) (σ : zS) : zM l dC dI A 48 ad (cfC ad cI cC cW) (z_ty cI cC cW) true yX6_rate cX6_rate 3 (some .int) 2 [.ref (ad (30 + k0)), .int v1, .int v2] σ (f_X6_rate N k0 v1 v2 σ) := by
  refine zM_of hO (by decide) (Nat.le_of_ble_eq_true rfl) (fun G hG C => ?_)
  subst hG
  unfold f_X6_rate
  refine zx_sub (L1 := [(0, .ref (ad (30 + k0))), (1, .int v1), (2, .int v2)]) [0, 1, 2] rfl ?_
  refine zx_iconst (v := 1) C dX6_rate_0 (by decide) ?_
  refine zx_aload_n C 0 dX6_rate_1 rfl rfl ?_
  refine zx_iload_n C 1 dX6_rate_2 rfl rfl ?_
  refine zx_iload_n C 2 dX6_rate_3 rfl rfl ?_
  refine zx_callSU (As := [.int v1, .int v2]) (st := [.int (1 : Int32)]) C yk_X2_rate q_388 q_982 q_93 q_378 (by decide) (l_Wax (k := k0) hk0) (c_wax (k := k0) hk0) (wxc_cl hk0) (k_X2_rate C.hO N k0 hk0 v1 v2 σ) (by decide) rfl rfl (Nat.le_of_ble_eq_true rfl) dX6_rate_4 (fun _ r_1 t_2 => ?_) (fun h9 => nomatch h9)
  refine zx_iload_n C 1 dX6_rate_7 rfl rfl ?_
  refine zx_isub C dX6_rate_8 ?_
  refine zx_max C q_389 q_390 q_49 q_391 (by decide) (Nat.le_of_ble_eq_true rfl) dX6_rate_9 ?_
  exact zx_iret C dX6_rate_12
def f_X3_rate (N : Nat) (k0 : Nat) (v1 : Int32) (v2 : Int32) (σ : zS) : zA := z_b (f_X8_rate N k0 v1 v2 σ) (fun r_1 t_2 => some ((r_1 + v2), t_2))
set_option maxHeartbeats 4000000 in
set_option maxRecDepth 100000 in
theorem k_X3_rate {l : Launch} {dC : Nat → ClassId} {dI : Nat → Nat → Nat} {A : Nat → Prop} {ad : Nat → Nat} {cI cC cW : ClassId} (hO : zO A 48 ad (cfC ad cI cC cW)) (N : Nat) (k0 : Nat) (hk0 : k0 < 6) (v1 : Int32) (v2 : Int32) (σ : zS) : zM l dC dI A 48 ad (cfC ad cI cC cW) (z_ty cI cC cW) true yX3_rate cX3_rate 3 (some .int) 1 [.ref (ad (30 + k0)), .int v1, .int v2] σ (f_X3_rate N k0 v1 v2 σ) := by
  refine zM_of hO (by decide) (Nat.le_of_ble_eq_true rfl) (fun G hG C => ?_)
  subst hG
  unfold f_X3_rate
  refine zx_sub (L1 := [(0, .ref (ad (30 + k0))), (1, .int v1), (2, .int v2)]) [0, 1, 2] rfl ?_
  refine zx_aload_n C 0 dX3_rate_0 rfl rfl ?_
  refine zx_iload_n C 1 dX3_rate_1 rfl rfl ?_
  refine zx_iload_n C 2 dX3_rate_2 rfl rfl ?_
  refine zx_callSU (As := [.int v1, .int v2]) (st := []) C yk_X8_rate q_384 q_372 q_100 q_370 (by decide) (l_Wax (k := k0) hk0) (c_wax (k := k0) hk0) (wxc_cl hk0) (k_X8_rate C.hO N k0 hk0 v1 v2 σ) (by decide) rfl rfl (Nat.le_of_ble_eq_true rfl) dX3_rate_3 (fun _ r_1 t_2 => ?_) (fun h9 => nomatch h9)
  refine zx_iload_n C 2 dX3_rate_6 rfl rfl ?_
  refine zx_iadd C dX3_rate_7 ?_
  exact zx_iret C dX3_rate_8
def v_rate (N k : Nat) (a0 a1 : Int32) (σ : zS) : zA := if k = 0 then f_X8_rate N k a0 a1 σ else (if k = 1 then f_X0_rate N k a0 a1 σ else (if k = 2 then f_X2_rate N k a0 a1 σ else (if k = 3 then f_X7_rate N k a0 a1 σ else (if k = 4 then f_X6_rate N k a0 a1 σ else (f_X3_rate N k a0 a1 σ)))))
set_option maxHeartbeats 4000000 in
set_option maxRecDepth 100000 in
theorem zx_v_rate {G : zG} {dC : Nat → ClassId} {dI : Nat → Nat → Nat} {A : Nat → Prop} {ad : Nat → Nat} {cI cC cW : ClassId} {cc : ByteArray} {own : String} {nL d : Nat} {ret : Option FieldType} {rt : Bool} {σ : zS} {pc : Nat} {L : List (Nat × Value)} {st : List Value} {K : Int32 → zS → zA} {index k : Nat} {a0 a1 : Int32} (C : zC G dC dI A 48 ad (cfC ad cI cC cW) (z_ty cI cC cW) cc own nL d ret) (N : Nat) (hw : Cond.methodLink own index yX8_rate ∈ lw_gd) (hk : k < 6) (hd1 : 3 ≤ d) (hrm : (st.map fun v => v.category).sum ≤ 8) (hd : decode cc pc = .ok (.invokevirtual index, 3)) (kk : ∀ (r : Int32) (τ : zS), zW G dC dI A 48 ad (cfC ad cI cC cW) nL rt (K r τ) τ (pc + 3) L (.int r :: st)) : zW G dC dI A 48 ad (cfC ad cI cC cW) nL rt (z_b (v_rate N k a0 a1 σ) K) σ pc L (.int a1 :: .int a0 :: .ref (ad (30 + k)) :: st) := by
  rcases (show k = 0 ∨ k = 1 ∨ k = 2 ∨ k = 3 ∨ k = 4 ∨ k = 5 by omega) with rfl | rfl | rfl | rfl | rfl | rfl
  · exact zx_callO (o1 := f_X8_rate N 0 a0 a1 σ) (As := [.int a0, .int a1]) (st := st) C yk_X8_rate yk_X8_rate hw q_372 q_370 q_370 q_371 (l_Wax (k := 0) (by decide)) (c_wax (k := 0) (by decide)) rfl (k_X8_rate C.hO N 0 (by decide) a0 a1 σ) (Nat.le_trans (by decide) hd1) rfl rfl hrm hd (fun _ r τ => kk r τ) (fun h => nomatch h)
  · exact zx_callO (o1 := f_X0_rate N 1 a0 a1 σ) (As := [.int a0, .int a1]) (st := st) C yk_X0_rate yk_X8_rate hw q_372 q_370 q_374 q_373 (l_Wax (k := 1) (by decide)) (c_wax (k := 1) (by decide)) rfl (k_X0_rate C.hO N 1 (by decide) a0 a1 σ) (Nat.le_trans (by decide) hd1) rfl rfl hrm hd (fun _ r τ => kk r τ) (fun h => nomatch h)
  · exact zx_callO (o1 := f_X2_rate N 2 a0 a1 σ) (As := [.int a0, .int a1]) (st := st) C yk_X2_rate yk_X8_rate hw q_372 q_370 q_378 q_377 (l_Wax (k := 2) (by decide)) (c_wax (k := 2) (by decide)) rfl (k_X2_rate C.hO N 2 (by decide) a0 a1 σ) (Nat.le_trans (by decide) hd1) rfl rfl hrm hd (fun _ r τ => kk r τ) (fun h => nomatch h)
  · exact zx_callO (o1 := f_X7_rate N 3 a0 a1 σ) (As := [.int a0, .int a1]) (st := st) C yk_X7_rate yk_X8_rate hw q_372 q_370 q_393 q_392 (l_Wax (k := 3) (by decide)) (c_wax (k := 3) (by decide)) rfl (k_X7_rate C.hO N 3 (by decide) a0 a1 σ) (Nat.le_trans (by decide) hd1) rfl rfl hrm hd (fun _ r τ => kk r τ) (fun h => nomatch h)
  · exact zx_callO (o1 := f_X6_rate N 4 a0 a1 σ) (As := [.int a0, .int a1]) (st := st) C yk_X6_rate yk_X8_rate hw q_372 q_370 q_386 q_385 (l_Wax (k := 4) (by decide)) (c_wax (k := 4) (by decide)) rfl (k_X6_rate C.hO N 4 (by decide) a0 a1 σ) (Nat.le_trans (by decide) hd1) rfl rfl hrm hd (fun _ r τ => kk r τ) (fun h => nomatch h)
  · exact zx_callO (o1 := f_X3_rate N 5 a0 a1 σ) (As := [.int a0, .int a1]) (st := st) C yk_X3_rate yk_X8_rate hw q_372 q_370 q_382 q_381 (l_Wax (k := 5) (by decide)) (c_wax (k := 5) (by decide)) rfl (k_X3_rate C.hO N 5 (by decide) a0 a1 σ) (Nat.le_trans (by decide) hd1) rfl rfl hrm hd (fun _ r τ => kk r τ) (fun h => nomatch h)
def f_X8_drips (N : Nat) (k0 : Nat) (v1 : Int32) (v2 : Int32) (v3 : Int32) (σ : zS) : zA := some (((v3 * v1) / (20 : Int32)), σ)
set_option maxHeartbeats 4000000 in
set_option maxRecDepth 100000 in
theorem k_X8_drips {l : Launch} {dC : Nat → ClassId} {dI : Nat → Nat → Nat} {A : Nat → Prop} {ad : Nat → Nat} {cI cC cW : ClassId} (hO : zO A 48 ad (cfC ad cI cC cW)) (N : Nat) (k0 : Nat) (hk0 : k0 < 6) (v1 : Int32) (v2 : Int32) (v3 : Int32) (σ : zS) : zM l dC dI A 48 ad (cfC ad cI cC cW) (z_ty cI cC cW) true yX8_drips cX8_drips 4 (some .int) 0 [.ref (ad (30 + k0)), .int v1, .int v2, .int v3] σ (f_X8_drips N k0 v1 v2 v3 σ) := by
  refine zM_of hO (by decide) (Nat.le_of_ble_eq_true rfl) (fun G hG C => ?_)
  subst hG
  unfold f_X8_drips
  refine zx_sub (L1 := [(0, .ref (ad (30 + k0))), (1, .int v1), (2, .int v2), (3, .int v3)]) [0, 1, 2, 3] rfl ?_
  refine zx_iload_n C 3 dX8_drips_0 rfl rfl ?_
  refine zx_iload_n C 1 dX8_drips_1 rfl rfl ?_
  refine zx_imul C dX8_drips_2 ?_
  refine zx_bipush (v := 20) C dX8_drips_3 (by decide) ?_
  refine zx_idiv C dX8_drips_5 (by decide) ?_
  exact zx_iret C dX8_drips_6
def f_X0_drips (N : Nat) (k0 : Nat) (v1 : Int32) (v2 : Int32) (v3 : Int32) (σ : zS) : zA := some ((0 : Int32), σ)
set_option maxHeartbeats 4000000 in
set_option maxRecDepth 100000 in
theorem k_X0_drips {l : Launch} {dC : Nat → ClassId} {dI : Nat → Nat → Nat} {A : Nat → Prop} {ad : Nat → Nat} {cI cC cW : ClassId} (hO : zO A 48 ad (cfC ad cI cC cW)) (N : Nat) (k0 : Nat) (hk0 : k0 < 6) (v1 : Int32) (v2 : Int32) (v3 : Int32) (σ : zS) : zM l dC dI A 48 ad (cfC ad cI cC cW) (z_ty cI cC cW) true yX0_drips cX0_drips 4 (some .int) 0 [.ref (ad (30 + k0)), .int v1, .int v2, .int v3] σ (f_X0_drips N k0 v1 v2 v3 σ) := by
  refine zM_of hO (by decide) (Nat.le_of_ble_eq_true rfl) (fun G hG C => ?_)
  subst hG
  unfold f_X0_drips
  refine zx_sub (L1 := [(0, .ref (ad (30 + k0))), (1, .int v1), (2, .int v2), (3, .int v3)]) [0, 1, 2, 3] rfl ?_
  refine zx_iconst (v := 0) C dX0_drips_0 (by decide) ?_
  exact zx_iret C dX0_drips_1
def f_X2_drips (N : Nat) (k0 : Nat) (v1 : Int32) (v2 : Int32) (v3 : Int32) (σ : zS) : zA := some ((v1 / (2 : Int32)), σ)
set_option maxHeartbeats 4000000 in
set_option maxRecDepth 100000 in
theorem k_X2_drips {l : Launch} {dC : Nat → ClassId} {dI : Nat → Nat → Nat} {A : Nat → Prop} {ad : Nat → Nat} {cI cC cW : ClassId} (hO : zO A 48 ad (cfC ad cI cC cW)) (N : Nat) (k0 : Nat) (hk0 : k0 < 6) (v1 : Int32) (v2 : Int32) (v3 : Int32) (σ : zS) : zM l dC dI A 48 ad (cfC ad cI cC cW) (z_ty cI cC cW) true yX2_drips cX2_drips 4 (some .int) 0 [.ref (ad (30 + k0)), .int v1, .int v2, .int v3] σ (f_X2_drips N k0 v1 v2 v3 σ) := by
  refine zM_of hO (by decide) (Nat.le_of_ble_eq_true rfl) (fun G hG C => ?_)
  subst hG
  unfold f_X2_drips
  refine zx_sub (L1 := [(0, .ref (ad (30 + k0))), (1, .int v1), (2, .int v2), (3, .int v3)]) [0, 1, 2, 3] rfl ?_
  refine zx_iload_n C 1 dX2_drips_0 rfl rfl ?_
  refine zx_iconst (v := 2) C dX2_drips_1 (by decide) ?_
  refine zx_idiv C dX2_drips_2 (by decide) ?_
  exact zx_iret C dX2_drips_3
def f_X6_drips (N : Nat) (k0 : Nat) (v1 : Int32) (v2 : Int32) (v3 : Int32) (σ : zS) : zA := z_b (f_X2_drips N k0 v1 v2 v3 σ) (fun r_1 t_2 => some ((if (0 : Int32) < (r_1 - v2) then (r_1 - v2) else (0 : Int32)), t_2))
set_option maxHeartbeats 4000000 in
set_option maxRecDepth 100000 in
theorem k_X6_drips {l : Launch} {dC : Nat → ClassId} {dI : Nat → Nat → Nat} {A : Nat → Prop} {ad : Nat → Nat} {cI cC cW : ClassId} (hO : zO A 48 ad (cfC ad cI cC cW)) (N : Nat) (k0 : Nat) (hk0 : k0 < 6) (v1 : Int32) (v2 : Int32) (v3 : Int32) (σ : zS) : zM l dC dI A 48 ad (cfC ad cI cC cW) (z_ty cI cC cW) true yX6_drips cX6_drips 4 (some .int) 1 [.ref (ad (30 + k0)), .int v1, .int v2, .int v3] σ (f_X6_drips N k0 v1 v2 v3 σ) := by
  refine zM_of hO (by decide) (Nat.le_of_ble_eq_true rfl) (fun G hG C => ?_)
  subst hG
  unfold f_X6_drips
  refine zx_sub (L1 := [(0, .ref (ad (30 + k0))), (1, .int v1), (2, .int v2), (3, .int v3)]) [0, 1, 2, 3] rfl ?_
  refine zx_iconst (v := 0) C dX6_drips_0 (by decide) ?_
  refine zx_aload_n C 0 dX6_drips_1 rfl rfl ?_
  refine zx_iload_n C 1 dX6_drips_2 rfl rfl ?_
  refine zx_iload_n C 2 dX6_drips_3 rfl rfl ?_
  refine zx_iload_n C 3 dX6_drips_4 rfl rfl ?_
  refine zx_callSU (As := [.int v1, .int v2, .int v3]) (st := [.int (0 : Int32)]) C yk_X2_drips q_423 q_984 q_93 q_413 (by decide) (l_Wax (k := k0) hk0) (c_wax (k := k0) hk0) (wxc_cl hk0) (k_X2_drips C.hO N k0 hk0 v1 v2 v3 σ) (by decide) rfl rfl (Nat.le_of_ble_eq_true rfl) dX6_drips_5 (fun _ r_1 t_2 => ?_) (fun h9 => nomatch h9)
  refine zx_iload_n C 2 dX6_drips_8 rfl rfl ?_
  refine zx_isub C dX6_drips_9 ?_
  refine zx_max C q_389 q_390 q_49 q_391 (by decide) (Nat.le_of_ble_eq_true rfl) dX6_drips_10 ?_
  exact zx_iret C dX6_drips_13
def f_X3_drips (N : Nat) (k0 : Nat) (v1 : Int32) (v2 : Int32) (v3 : Int32) (σ : zS) : zA := z_b (f_X8_drips N k0 v1 v2 v3 σ) (fun r_1 t_2 => some ((if ((2 : Int32) * r_1) < v1 then ((2 : Int32) * r_1) else v1), t_2))
set_option maxHeartbeats 4000000 in
set_option maxRecDepth 100000 in
theorem k_X3_drips {l : Launch} {dC : Nat → ClassId} {dI : Nat → Nat → Nat} {A : Nat → Prop} {ad : Nat → Nat} {cI cC cW : ClassId} (hO : zO A 48 ad (cfC ad cI cC cW)) (N : Nat) (k0 : Nat) (hk0 : k0 < 6) (v1 : Int32) (v2 : Int32) (v3 : Int32) (σ : zS) : zM l dC dI A 48 ad (cfC ad cI cC cW) (z_ty cI cC cW) true yX3_drips cX3_drips 4 (some .int) 1 [.ref (ad (30 + k0)), .int v1, .int v2, .int v3] σ (f_X3_drips N k0 v1 v2 v3 σ) := by
  refine zM_of hO (by decide) (Nat.le_of_ble_eq_true rfl) (fun G hG C => ?_)
  subst hG
  unfold f_X3_drips
  refine zx_sub (L1 := [(0, .ref (ad (30 + k0))), (1, .int v1), (2, .int v2), (3, .int v3)]) [0, 1, 2, 3] rfl ?_
  refine zx_iload_n C 1 dX3_drips_0 rfl rfl ?_
  refine zx_iconst (v := 2) C dX3_drips_1 (by decide) ?_
  refine zx_aload_n C 0 dX3_drips_2 rfl rfl ?_
  refine zx_iload_n C 1 dX3_drips_3 rfl rfl ?_
  refine zx_iload_n C 2 dX3_drips_4 rfl rfl ?_
  refine zx_iload_n C 3 dX3_drips_5 rfl rfl ?_
  refine zx_callSU (As := [.int v1, .int v2, .int v3]) (st := [.int (2 : Int32), .int v1]) C yk_X8_drips q_418 q_408 q_100 q_406 (by decide) (l_Wax (k := k0) hk0) (c_wax (k := k0) hk0) (wxc_cl hk0) (k_X8_drips C.hO N k0 hk0 v1 v2 v3 σ) (by decide) rfl rfl (Nat.le_of_ble_eq_true rfl) dX3_drips_6 (fun _ r_1 t_2 => ?_) (fun h9 => nomatch h9)
  refine zx_imul C dX3_drips_9 ?_
  refine zx_min C q_419 q_398 q_49 q_399 (by decide) (Nat.le_of_ble_eq_true rfl) dX3_drips_10 ?_
  exact zx_iret C dX3_drips_13
def v_drips (N k : Nat) (a0 a1 a2 : Int32) (σ : zS) : zA := if k = 0 then f_X8_drips N k a0 a1 a2 σ else (if k = 1 then f_X0_drips N k a0 a1 a2 σ else (if k = 2 then f_X2_drips N k a0 a1 a2 σ else (if k = 3 then f_X0_drips N k a0 a1 a2 σ else (if k = 4 then f_X6_drips N k a0 a1 a2 σ else (f_X3_drips N k a0 a1 a2 σ)))))
set_option maxHeartbeats 4000000 in
set_option maxRecDepth 100000 in
theorem zx_v_drips {G : zG} {dC : Nat → ClassId} {dI : Nat → Nat → Nat} {A : Nat → Prop} {ad : Nat → Nat} {cI cC cW : ClassId} {cc : ByteArray} {own : String} {nL d : Nat} {ret : Option FieldType} {rt : Bool} {σ : zS} {pc : Nat} {L : List (Nat × Value)} {st : List Value} {K : Int32 → zS → zA} {index k : Nat} {a0 a1 a2 : Int32} (C : zC G dC dI A 48 ad (cfC ad cI cC cW) (z_ty cI cC cW) cc own nL d ret) (N : Nat) (hw : Cond.methodLink own index yX8_drips ∈ lw_gd) (hk : k < 6) (hd1 : 2 ≤ d) (hrm : (st.map fun v => v.category).sum ≤ 8) (hd : decode cc pc = .ok (.invokevirtual index, 3)) (kk : ∀ (r : Int32) (τ : zS), zW G dC dI A 48 ad (cfC ad cI cC cW) nL rt (K r τ) τ (pc + 3) L (.int r :: st)) : zW G dC dI A 48 ad (cfC ad cI cC cW) nL rt (z_b (v_drips N k a0 a1 a2 σ) K) σ pc L (.int a2 :: .int a1 :: .int a0 :: .ref (ad (30 + k)) :: st) := by
  rcases (show k = 0 ∨ k = 1 ∨ k = 2 ∨ k = 3 ∨ k = 4 ∨ k = 5 by omega) with rfl | rfl | rfl | rfl | rfl | rfl
  · exact zx_callO (o1 := f_X8_drips N 0 a0 a1 a2 σ) (As := [.int a0, .int a1, .int a2]) (st := st) C yk_X8_drips yk_X8_drips hw q_408 q_406 q_406 q_407 (l_Wax (k := 0) (by decide)) (c_wax (k := 0) (by decide)) rfl (k_X8_drips C.hO N 0 (by decide) a0 a1 a2 σ) (Nat.le_trans (by decide) hd1) rfl rfl hrm hd (fun _ r τ => kk r τ) (fun h => nomatch h)
  · exact zx_callO (o1 := f_X0_drips N 1 a0 a1 a2 σ) (As := [.int a0, .int a1, .int a2]) (st := st) C yk_X0_drips yk_X8_drips hw q_408 q_406 q_410 q_409 (l_Wax (k := 1) (by decide)) (c_wax (k := 1) (by decide)) rfl (k_X0_drips C.hO N 1 (by decide) a0 a1 a2 σ) (Nat.le_trans (by decide) hd1) rfl rfl hrm hd (fun _ r τ => kk r τ) (fun h => nomatch h)
  · exact zx_callO (o1 := f_X2_drips N 2 a0 a1 a2 σ) (As := [.int a0, .int a1, .int a2]) (st := st) C yk_X2_drips yk_X8_drips hw q_408 q_406 q_413 q_412 (l_Wax (k := 2) (by decide)) (c_wax (k := 2) (by decide)) rfl (k_X2_drips C.hO N 2 (by decide) a0 a1 a2 σ) (Nat.le_trans (by decide) hd1) rfl rfl hrm hd (fun _ r τ => kk r τ) (fun h => nomatch h)
  · exact zx_callO (o1 := f_X0_drips N 3 a0 a1 a2 σ) (As := [.int a0, .int a1, .int a2]) (st := st) C yk_X0_drips yk_X8_drips hw q_408 q_406 q_410 q_424 (l_Wax (k := 3) (by decide)) (c_wax (k := 3) (by decide)) rfl (k_X0_drips C.hO N 3 (by decide) a0 a1 a2 σ) (Nat.le_trans (by decide) hd1) rfl rfl hrm hd (fun _ r τ => kk r τ) (fun h => nomatch h)
  · exact zx_callO (o1 := f_X6_drips N 4 a0 a1 a2 σ) (As := [.int a0, .int a1, .int a2]) (st := st) C yk_X6_drips yk_X8_drips hw q_408 q_406 q_421 q_420 (l_Wax (k := 4) (by decide)) (c_wax (k := 4) (by decide)) rfl (k_X6_drips C.hO N 4 (by decide) a0 a1 a2 σ) (Nat.le_trans (by decide) hd1) rfl rfl hrm hd (fun _ r τ => kk r τ) (fun h => nomatch h)
  · exact zx_callO (o1 := f_X3_drips N 5 a0 a1 a2 σ) (As := [.int a0, .int a1, .int a2]) (st := st) C yk_X3_drips yk_X8_drips hw q_408 q_406 q_416 q_415 (l_Wax (k := 5) (by decide)) (c_wax (k := 5) (by decide)) rfl (k_X3_drips C.hO N 5 (by decide) a0 a1 a2 σ) (Nat.le_trans (by decide) hd1) rfl rfl hrm hd (fun _ r τ => kk r τ) (fun h => nomatch h)
def f_X8_worthOfClean (N : Nat) (k0 : Nat) (v1 : Int32) (σ : zS) : zA := some (v1, σ)
set_option maxHeartbeats 4000000 in
set_option maxRecDepth 100000 in
theorem k_X8_worthOfClean {l : Launch} {dC : Nat → ClassId} {dI : Nat → Nat → Nat} {A : Nat → Prop} {ad : Nat → Nat} {cI cC cW : ClassId} (hO : zO A 48 ad (cfC ad cI cC cW)) (N : Nat) (k0 : Nat) (hk0 : k0 < 6) (v1 : Int32) (σ : zS) : zM l dC dI A 48 ad (cfC ad cI cC cW) (z_ty cI cC cW) true yX8_worthOfClean cX8_worthOfClean 2 (some .int) 0 [.ref (ad (30 + k0)), .int v1] σ (f_X8_worthOfClean N k0 v1 σ) := by
  refine zM_of hO (by decide) (Nat.le_of_ble_eq_true rfl) (fun G hG C => ?_)
  subst hG
  unfold f_X8_worthOfClean
  refine zx_sub (L1 := [(0, .ref (ad (30 + k0))), (1, .int v1)]) [0, 1] rfl ?_
  refine zx_iload_n C 1 dX8_worthOfClean_0 rfl rfl ?_
  exact zx_iret C dX8_worthOfClean_1
def f_X0_worthOfClean (N : Nat) (k0 : Nat) (v1 : Int32) (σ : zS) : zA := some (((2 : Int32) * v1), σ)
set_option maxHeartbeats 4000000 in
set_option maxRecDepth 100000 in
theorem k_X0_worthOfClean {l : Launch} {dC : Nat → ClassId} {dI : Nat → Nat → Nat} {A : Nat → Prop} {ad : Nat → Nat} {cI cC cW : ClassId} (hO : zO A 48 ad (cfC ad cI cC cW)) (N : Nat) (k0 : Nat) (hk0 : k0 < 6) (v1 : Int32) (σ : zS) : zM l dC dI A 48 ad (cfC ad cI cC cW) (z_ty cI cC cW) true yX0_worthOfClean cX0_worthOfClean 2 (some .int) 0 [.ref (ad (30 + k0)), .int v1] σ (f_X0_worthOfClean N k0 v1 σ) := by
  refine zM_of hO (by decide) (Nat.le_of_ble_eq_true rfl) (fun G hG C => ?_)
  subst hG
  unfold f_X0_worthOfClean
  refine zx_sub (L1 := [(0, .ref (ad (30 + k0))), (1, .int v1)]) [0, 1] rfl ?_
  refine zx_iconst (v := 2) C dX0_worthOfClean_0 (by decide) ?_
  refine zx_iload_n C 1 dX0_worthOfClean_1 rfl rfl ?_
  refine zx_imul C dX0_worthOfClean_2 ?_
  exact zx_iret C dX0_worthOfClean_3
def f_X2_worthOfClean (N : Nat) (k0 : Nat) (v1 : Int32) (σ : zS) : zA := some ((v1 / (2 : Int32)), σ)
set_option maxHeartbeats 4000000 in
set_option maxRecDepth 100000 in
theorem k_X2_worthOfClean {l : Launch} {dC : Nat → ClassId} {dI : Nat → Nat → Nat} {A : Nat → Prop} {ad : Nat → Nat} {cI cC cW : ClassId} (hO : zO A 48 ad (cfC ad cI cC cW)) (N : Nat) (k0 : Nat) (hk0 : k0 < 6) (v1 : Int32) (σ : zS) : zM l dC dI A 48 ad (cfC ad cI cC cW) (z_ty cI cC cW) true yX2_worthOfClean cX2_worthOfClean 2 (some .int) 0 [.ref (ad (30 + k0)), .int v1] σ (f_X2_worthOfClean N k0 v1 σ) := by
  refine zM_of hO (by decide) (Nat.le_of_ble_eq_true rfl) (fun G hG C => ?_)
  subst hG
  unfold f_X2_worthOfClean
  refine zx_sub (L1 := [(0, .ref (ad (30 + k0))), (1, .int v1)]) [0, 1] rfl ?_
  refine zx_iload_n C 1 dX2_worthOfClean_0 rfl rfl ?_
  refine zx_iconst (v := 2) C dX2_worthOfClean_1 (by decide) ?_
  refine zx_idiv C dX2_worthOfClean_2 (by decide) ?_
  exact zx_iret C dX2_worthOfClean_3
def v_worthOfClean (N k : Nat) (a0 : Int32) (σ : zS) : zA := if k = 0 then f_X8_worthOfClean N k a0 σ else (if k = 1 then f_X0_worthOfClean N k a0 σ else (if k = 2 then f_X2_worthOfClean N k a0 σ else (if k = 3 then f_X0_worthOfClean N k a0 σ else (if k = 4 then f_X2_worthOfClean N k a0 σ else (f_X8_worthOfClean N k a0 σ)))))
set_option maxHeartbeats 4000000 in
set_option maxRecDepth 100000 in
theorem zx_v_worthOfClean {G : zG} {dC : Nat → ClassId} {dI : Nat → Nat → Nat} {A : Nat → Prop} {ad : Nat → Nat} {cI cC cW : ClassId} {cc : ByteArray} {own : String} {nL d : Nat} {ret : Option FieldType} {rt : Bool} {σ : zS} {pc : Nat} {L : List (Nat × Value)} {st : List Value} {K : Int32 → zS → zA} {index k : Nat} {a0 : Int32} (C : zC G dC dI A 48 ad (cfC ad cI cC cW) (z_ty cI cC cW) cc own nL d ret) (N : Nat) (hw : Cond.methodLink own index yX8_worthOfClean ∈ lw_gd) (hk : k < 6) (hd1 : 1 ≤ d) (hrm : (st.map fun v => v.category).sum ≤ 8) (hd : decode cc pc = .ok (.invokevirtual index, 3)) (kk : ∀ (r : Int32) (τ : zS), zW G dC dI A 48 ad (cfC ad cI cC cW) nL rt (K r τ) τ (pc + 3) L (.int r :: st)) : zW G dC dI A 48 ad (cfC ad cI cC cW) nL rt (z_b (v_worthOfClean N k a0 σ) K) σ pc L (.int a0 :: .ref (ad (30 + k)) :: st) := by
  rcases (show k = 0 ∨ k = 1 ∨ k = 2 ∨ k = 3 ∨ k = 4 ∨ k = 5 by omega) with rfl | rfl | rfl | rfl | rfl | rfl
  · exact zx_callO (o1 := f_X8_worthOfClean N 0 a0 σ) (As := [.int a0]) (st := st) C yk_X8_worthOfClean yk_X8_worthOfClean hw q_444 q_442 q_442 q_443 (l_Wax (k := 0) (by decide)) (c_wax (k := 0) (by decide)) rfl (k_X8_worthOfClean C.hO N 0 (by decide) a0 σ) (Nat.le_trans (by decide) hd1) rfl rfl hrm hd (fun _ r τ => kk r τ) (fun h => nomatch h)
  · exact zx_callO (o1 := f_X0_worthOfClean N 1 a0 σ) (As := [.int a0]) (st := st) C yk_X0_worthOfClean yk_X8_worthOfClean hw q_444 q_442 q_446 q_445 (l_Wax (k := 1) (by decide)) (c_wax (k := 1) (by decide)) rfl (k_X0_worthOfClean C.hO N 1 (by decide) a0 σ) (Nat.le_trans (by decide) hd1) rfl rfl hrm hd (fun _ r τ => kk r τ) (fun h => nomatch h)
  · exact zx_callO (o1 := f_X2_worthOfClean N 2 a0 σ) (As := [.int a0]) (st := st) C yk_X2_worthOfClean yk_X8_worthOfClean hw q_444 q_442 q_449 q_448 (l_Wax (k := 2) (by decide)) (c_wax (k := 2) (by decide)) rfl (k_X2_worthOfClean C.hO N 2 (by decide) a0 σ) (Nat.le_trans (by decide) hd1) rfl rfl hrm hd (fun _ r τ => kk r τ) (fun h => nomatch h)
  · exact zx_callO (o1 := f_X0_worthOfClean N 3 a0 σ) (As := [.int a0]) (st := st) C yk_X0_worthOfClean yk_X8_worthOfClean hw q_444 q_442 q_446 q_453 (l_Wax (k := 3) (by decide)) (c_wax (k := 3) (by decide)) rfl (k_X0_worthOfClean C.hO N 3 (by decide) a0 σ) (Nat.le_trans (by decide) hd1) rfl rfl hrm hd (fun _ r τ => kk r τ) (fun h => nomatch h)
  · exact zx_callO (o1 := f_X2_worthOfClean N 4 a0 σ) (As := [.int a0]) (st := st) C yk_X2_worthOfClean yk_X8_worthOfClean hw q_444 q_442 q_449 q_452 (l_Wax (k := 4) (by decide)) (c_wax (k := 4) (by decide)) rfl (k_X2_worthOfClean C.hO N 4 (by decide) a0 σ) (Nat.le_trans (by decide) hd1) rfl rfl hrm hd (fun _ r τ => kk r τ) (fun h => nomatch h)
  · exact zx_callO (o1 := f_X8_worthOfClean N 5 a0 σ) (As := [.int a0]) (st := st) C yk_X8_worthOfClean yk_X8_worthOfClean hw q_444 q_442 q_442 q_451 (l_Wax (k := 5) (by decide)) (c_wax (k := 5) (by decide)) rfl (k_X8_worthOfClean C.hO N 5 (by decide) a0 σ) (Nat.le_trans (by decide) hd1) rfl rfl hrm hd (fun _ r τ => kk r τ) (fun h => nomatch h)
def f_X8_worth (N : Nat) (k0 : Nat) (v1 : Int32) (v2 : Int32) (v3 : Int32) (σ : zS) : zA := z_b (v_drips N k0 v1 v2 v3 σ) (fun r_1 t_2 => z_b (v_worthOfClean N k0 (v1 - r_1) t_2) (fun r_3 t_4 => some (r_3, t_4)))
set_option maxHeartbeats 4000000 in
set_option maxRecDepth 100000 in
theorem k_X8_worth {l : Launch} {dC : Nat → ClassId} {dI : Nat → Nat → Nat} {A : Nat → Prop} {ad : Nat → Nat} {cI cC cW : ClassId} (hO : zO A 48 ad (cfC ad cI cC cW)) (N : Nat) (k0 : Nat) (hk0 : k0 < 6) (v1 : Int32) (v2 : Int32) (v3 : Int32) (σ : zS) : zM l dC dI A 48 ad (cfC ad cI cC cW) (z_ty cI cC cW) true yX8_worth cX8_worth 4 (some .int) 2 [.ref (ad (30 + k0)), .int v1, .int v2, .int v3] σ (f_X8_worth N k0 v1 v2 v3 σ) := by
  refine zM_of hO (by decide) (Nat.le_of_ble_eq_true rfl) (fun G hG C => ?_)
  subst hG
  unfold f_X8_worth
  refine zx_sub (L1 := [(0, .ref (ad (30 + k0))), (1, .int v1), (2, .int v2), (3, .int v3)]) [0, 1, 2, 3] rfl ?_
  refine zx_aload_n C 0 dX8_worth_0 rfl rfl ?_
  refine zx_iload_n C 1 dX8_worth_1 rfl rfl ?_
  refine zx_aload_n C 0 dX8_worth_2 rfl rfl ?_
  refine zx_iload_n C 1 dX8_worth_3 rfl rfl ?_
  refine zx_iload_n C 2 dX8_worth_4 rfl rfl ?_
  refine zx_iload_n C 3 dX8_worth_5 rfl rfl ?_
  refine zx_v_drips C N q_440 hk0 (by decide) (Nat.le_of_ble_eq_true rfl) dX8_worth_6 (fun r_1 t_2 => ?_)
  refine zx_isub C dX8_worth_9 ?_
  refine zx_v_worthOfClean C N q_441 hk0 (by decide) (Nat.le_of_ble_eq_true rfl) dX8_worth_10 (fun r_3 t_4 => ?_)
  exact zx_iret C dX8_worth_13
def v_worth (N k : Nat) (a0 a1 a2 : Int32) (σ : zS) : zA := if k = 0 then f_X8_worth N k a0 a1 a2 σ else (if k = 1 then f_X8_worth N k a0 a1 a2 σ else (if k = 2 then f_X8_worth N k a0 a1 a2 σ else (if k = 3 then f_X8_worth N k a0 a1 a2 σ else (if k = 4 then f_X8_worth N k a0 a1 a2 σ else (f_X8_worth N k a0 a1 a2 σ)))))
set_option maxHeartbeats 4000000 in
set_option maxRecDepth 100000 in
theorem zx_v_worth {G : zG} {dC : Nat → ClassId} {dI : Nat → Nat → Nat} {A : Nat → Prop} {ad : Nat → Nat} {cI cC cW : ClassId} {cc : ByteArray} {own : String} {nL d : Nat} {ret : Option FieldType} {rt : Bool} {σ : zS} {pc : Nat} {L : List (Nat × Value)} {st : List Value} {K : Int32 → zS → zA} {index k : Nat} {a0 a1 a2 : Int32} (C : zC G dC dI A 48 ad (cfC ad cI cC cW) (z_ty cI cC cW) cc own nL d ret) (N : Nat) (hw : Cond.methodLink own index yX8_worth ∈ lw_gd) (hk : k < 6) (hd1 : 3 ≤ d) (hrm : (st.map fun v => v.category).sum ≤ 8) (hd : decode cc pc = .ok (.invokevirtual index, 3)) (kk : ∀ (r : Int32) (τ : zS), zW G dC dI A 48 ad (cfC ad cI cC cW) nL rt (K r τ) τ (pc + 3) L (.int r :: st)) : zW G dC dI A 48 ad (cfC ad cI cC cW) nL rt (z_b (v_worth N k a0 a1 a2 σ) K) σ pc L (.int a2 :: .int a1 :: .int a0 :: .ref (ad (30 + k)) :: st) := by
  rcases (show k = 0 ∨ k = 1 ∨ k = 2 ∨ k = 3 ∨ k = 4 ∨ k = 5 by omega) with rfl | rfl | rfl | rfl | rfl | rfl
  · exact zx_callO (o1 := f_X8_worth N 0 a0 a1 a2 σ) (As := [.int a0, .int a1, .int a2]) (st := st) C yk_X8_worth yk_X8_worth hw q_433 q_431 q_431 q_432 (l_Wax (k := 0) (by decide)) (c_wax (k := 0) (by decide)) rfl (k_X8_worth C.hO N 0 (by decide) a0 a1 a2 σ) (Nat.le_trans (by decide) hd1) rfl rfl hrm hd (fun _ r τ => kk r τ) (fun h => nomatch h)
  · exact zx_callO (o1 := f_X8_worth N 1 a0 a1 a2 σ) (As := [.int a0, .int a1, .int a2]) (st := st) C yk_X8_worth yk_X8_worth hw q_433 q_431 q_431 q_434 (l_Wax (k := 1) (by decide)) (c_wax (k := 1) (by decide)) rfl (k_X8_worth C.hO N 1 (by decide) a0 a1 a2 σ) (Nat.le_trans (by decide) hd1) rfl rfl hrm hd (fun _ r τ => kk r τ) (fun h => nomatch h)
  · exact zx_callO (o1 := f_X8_worth N 2 a0 a1 a2 σ) (As := [.int a0, .int a1, .int a2]) (st := st) C yk_X8_worth yk_X8_worth hw q_433 q_431 q_431 q_435 (l_Wax (k := 2) (by decide)) (c_wax (k := 2) (by decide)) rfl (k_X8_worth C.hO N 2 (by decide) a0 a1 a2 σ) (Nat.le_trans (by decide) hd1) rfl rfl hrm hd (fun _ r τ => kk r τ) (fun h => nomatch h)
  · exact zx_callO (o1 := f_X8_worth N 3 a0 a1 a2 σ) (As := [.int a0, .int a1, .int a2]) (st := st) C yk_X8_worth yk_X8_worth hw q_433 q_431 q_431 q_438 (l_Wax (k := 3) (by decide)) (c_wax (k := 3) (by decide)) rfl (k_X8_worth C.hO N 3 (by decide) a0 a1 a2 σ) (Nat.le_trans (by decide) hd1) rfl rfl hrm hd (fun _ r τ => kk r τ) (fun h => nomatch h)
  · exact zx_callO (o1 := f_X8_worth N 4 a0 a1 a2 σ) (As := [.int a0, .int a1, .int a2]) (st := st) C yk_X8_worth yk_X8_worth hw q_433 q_431 q_431 q_437 (l_Wax (k := 4) (by decide)) (c_wax (k := 4) (by decide)) rfl (k_X8_worth C.hO N 4 (by decide) a0 a1 a2 σ) (Nat.le_trans (by decide) hd1) rfl rfl hrm hd (fun _ r τ => kk r τ) (fun h => nomatch h)
  · exact zx_callO (o1 := f_X8_worth N 5 a0 a1 a2 σ) (As := [.int a0, .int a1, .int a2]) (st := st) C yk_X8_worth yk_X8_worth hw q_433 q_431 q_431 q_436 (l_Wax (k := 5) (by decide)) (c_wax (k := 5) (by decide)) rfl (k_X8_worth C.hO N 5 (by decide) a0 a1 a2 σ) (Nat.le_trans (by decide) hd1) rfl rfl hrm hd (fun _ r τ => kk r τ) (fun h => nomatch h)
