def f_X1_become (N : Nat) (c0 : Nat) (c1 : Nat) (σ : zS) : zA := z_m (z_put σ c0 0 (σ c1 0)) (fun t_1 => z_m (z_put t_1 c0 1 (t_1 c1 1)) (fun t_2 => z_m (z_put t_2 c0 2 (t_2 c1 2)) (fun t_3 => z_m (z_put t_3 c0 3 (t_3 c1 3)) (fun t_4 => z_m (z_put t_4 c0 4 (t_4 c1 4)) (fun t_5 => z_g (z_bo (t_5 c1 5)) (z_m (z_put t_5 c0 5 (t_5 c1 5)) (fun t_6 => some (0, t_6))))))))
set_option maxHeartbeats 4000000 in
set_option maxRecDepth 100000 in
theorem k_X1_become {l : Launch} {dC : Nat → ClassId} {dI : Nat → Nat → Nat} {A : Nat → Prop} {ad : Nat → Nat} {cI cC cW : ClassId} (hO : zO A 48 ad (cfC ad cI cC cW)) (N : Nat) (c0 : Nat) (hc0 : c0 < 18) (c1 : Nat) (hc1 : c1 < 18) (σ : zS) : zM l dC dI A 48 ad (cfC ad cI cC cW) (z_ty cI cC cW) false yX1_become cX1_become 2 none 0 [.ref (ad c0), .ref (ad c1)] σ (f_X1_become N c0 c1 σ) := by
  refine zM_of hO (by decide) (Nat.le_of_ble_eq_true rfl) (fun G hG C => ?_)
  subst hG
  unfold f_X1_become
  refine zx_sub (L1 := [(0, .ref (ad c0)), (1, .ref (ad c1))]) [0, 1] rfl ?_
  refine zx_aload_n C 0 dX1_become_0 rfl rfl ?_
  refine zx_aload_n C 1 dX1_become_1 rfl rfl ?_
  refine zx_get C 0 (l_cand (c := c1) hc1) (c_cand (c := c1) hc1) rfl (by decide) inX1 q_114 rfl rfl dX1_become_2 ?_
  refine zx_put (ty := .int) C 0 (l_cand (c := c0) hc0) (c_cand (c := c0) hc0) rfl (by decide) inX1 tyX1 tyX1_ok nmX1 q_114 rfl rfl (by decide +kernel) rfl rfl (Nat.le_of_ble_eq_true rfl) (by rw [c_cand (c := c0) hc0, z_put_same]; rfl) dX1_become_5 (fun t_1 => ?_)
  refine zx_aload_n C 0 dX1_become_8 rfl rfl ?_
  refine zx_aload_n C 1 dX1_become_9 rfl rfl ?_
  refine zx_get C 1 (l_cand (c := c1) hc1) (c_cand (c := c1) hc1) rfl (by decide) inX1 q_118 rfl rfl dX1_become_10 ?_
  refine zx_put (ty := .int) C 1 (l_cand (c := c0) hc0) (c_cand (c := c0) hc0) rfl (by decide) inX1 tyX1 tyX1_ok nmX1 q_118 rfl rfl (by decide +kernel) rfl rfl (Nat.le_of_ble_eq_true rfl) (by rw [c_cand (c := c0) hc0, z_put_same]; rfl) dX1_become_13 (fun t_2 => ?_)
  refine zx_aload_n C 0 dX1_become_16 rfl rfl ?_
  refine zx_aload_n C 1 dX1_become_17 rfl rfl ?_
  refine zx_get C 2 (l_cand (c := c1) hc1) (c_cand (c := c1) hc1) rfl (by decide) inX1 q_122 rfl rfl dX1_become_18 ?_
  refine zx_put (ty := .int) C 2 (l_cand (c := c0) hc0) (c_cand (c := c0) hc0) rfl (by decide) inX1 tyX1 tyX1_ok nmX1 q_122 rfl rfl (by decide +kernel) rfl rfl (Nat.le_of_ble_eq_true rfl) (by rw [c_cand (c := c0) hc0, z_put_same]; rfl) dX1_become_21 (fun t_3 => ?_)
  refine zx_aload_n C 0 dX1_become_24 rfl rfl ?_
  refine zx_aload_n C 1 dX1_become_25 rfl rfl ?_
  refine zx_get C 3 (l_cand (c := c1) hc1) (c_cand (c := c1) hc1) rfl (by decide) inX1 q_126 rfl rfl dX1_become_26 ?_
  refine zx_put (ty := .int) C 3 (l_cand (c := c0) hc0) (c_cand (c := c0) hc0) rfl (by decide) inX1 tyX1 tyX1_ok nmX1 q_126 rfl rfl (by decide +kernel) rfl rfl (Nat.le_of_ble_eq_true rfl) (by rw [c_cand (c := c0) hc0, z_put_same]; rfl) dX1_become_29 (fun t_4 => ?_)
  refine zx_aload_n C 0 dX1_become_32 rfl rfl ?_
  refine zx_aload_n C 1 dX1_become_33 rfl rfl ?_
  refine zx_get C 4 (l_cand (c := c1) hc1) (c_cand (c := c1) hc1) rfl (by decide) inX1 q_130 rfl rfl dX1_become_34 ?_
  refine zx_put (ty := .int) C 4 (l_cand (c := c0) hc0) (c_cand (c := c0) hc0) rfl (by decide) inX1 tyX1 tyX1_ok nmX1 q_130 rfl rfl (by decide +kernel) rfl rfl (Nat.le_of_ble_eq_true rfl) (by rw [c_cand (c := c0) hc0, z_put_same]; rfl) dX1_become_37 (fun t_5 => ?_)
  refine zx_aload_n C 0 dX1_become_40 rfl rfl ?_
  refine zx_aload_n C 1 dX1_become_41 rfl rfl ?_
  refine zx_get C 5 (l_cand (c := c1) hc1) (c_cand (c := c1) hc1) rfl (by decide) inX1 q_133 rfl rfl dX1_become_42 ?_
  refine zx_g (fun h_7 => ?_)
  refine zx_put (ty := .boolean) C 5 (l_cand (c := c0) hc0) (c_cand (c := c0) hc0) rfl (by decide) inX1 tyX1 tyX1_ok nmX1 q_133 rfl rfl (by decide +kernel) (z_bo_n h_7) (z_bo_f h_7) (Nat.le_of_ble_eq_true rfl) (by rw [c_cand (c := c0) hc0, z_put_same]; rfl) dX1_become_45 (fun t_6 => ?_)
  exact zx_vret C dX1_become_48
def bf_X4_become_10 (N : Nat) (rec10 : Nat → Nat → Int32 → zS → zA) (j0 : Nat) (j1 : Nat) (v2 : Int32) (σ : zS) : zA := (if (σ (18 + j0) 4) ≤ v2 then z_m (z_row σ (24 + j0) (va_cpy (σ (24 + j1)) (σ (24 + j0)) (0 : Int32).toNatClampNeg (0 : Int32).toNatClampNeg (4 : Int32).toNatClampNeg)) (fun t_2 => z_m (z_row t_2 (27 + j0) (va_cpy (t_2 (27 + j1)) (t_2 (27 + j0)) (0 : Int32).toNatClampNeg (0 : Int32).toNatClampNeg (16 : Int32).toNatClampNeg)) (fun t_3 => z_m (z_put t_3 (18 + j0) 5 (t_3 (18 + j1) 5)) (fun t_4 => z_m (z_put t_4 (18 + j0) 6 (t_4 (18 + j1) 6)) (fun t_5 => z_m (z_put t_5 (18 + j0) 7 (t_5 (18 + j1) 7)) (fun t_6 => z_m (z_put t_6 (18 + j0) 8 (t_6 (18 + j1) 8)) (fun t_7 => some (0, t_7))))))) else z_g (z_in v2 6) (z_g (z_in v2 6) (z_b (f_X1_become N (6 * j0 + v2.toNatClampNeg) (6 * j1 + v2.toNatClampNeg) σ) (fun r_10 t_11 => (rec10 j0 j1 (v2 + (1 : Int32)) t_11)))))
set_option maxHeartbeats 4000000 in
set_option maxRecDepth 100000 in
theorem b_X4_become_10 {G : zG} {dC : Nat → ClassId} {dI : Nat → Nat → Nat} {A : Nat → Prop} {ad : Nat → Nat} {cI cC cW : ClassId} (C : zC G dC dI A 48 ad (cfC ad cI cC cW) (z_ty cI cC cW) cX4_become RX4 3 1 none) (N : Nat) (rec10 : Nat → Nat → Int32 → zS → zA) (hrec10 : ∀ (j0 : Nat) (hj0 : j0 < 3) (j1 : Nat) (hj1 : j1 < 3) (v2 : Int32) (σ : zS), zW G dC dI A 48 ad (cfC ad cI cC cW) 3 false (rec10 j0 j1 v2 σ) σ 10 [(0, .ref (ad (18 + j0))), (1, .ref (ad (18 + j1))), (2, .int v2)] []) (j0 : Nat) (hj0 : j0 < 3) (j1 : Nat) (hj1 : j1 < 3) (v2 : Int32) (σ : zS) : zW G dC dI A 48 ad (cfC ad cI cC cW) 3 false (bf_X4_become_10 N rec10 j0 j1 v2 σ) σ 10 [(0, .ref (ad (18 + j0))), (1, .ref (ad (18 + j1))), (2, .int v2)] [] := by
  unfold bf_X4_become_10
  refine zx_iload_n C 2 dX4_become_10 rfl rfl ?_
  refine zx_aload_n C 0 dX4_become_11 rfl rfl ?_
  refine zx_get C 4 (l_House (j := j0) hj0) (c_house (j := j0) hj0) rfl (by decide) inX4 q_160 rfl rfl dX4_become_12 ?_
  refine zx_icmp_ge (tgt := 39) C dX4_become_15 (by decide) (fun h_1 => ?_) (fun h_1 => ?_)
  · refine zx_aload_n C 1 dX4_become_39 rfl rfl ?_
    refine zx_get C 2 (l_House (j := j1) hj1) (c_house (j := j1) hj1) rfl (by decide) inX4 q_154 rfl rfl dX4_become_40 ?_
    refine zx_iconst (v := 0) C dX4_become_43 (by decide) ?_
    refine zx_aload_n C 0 dX4_become_44 rfl rfl ?_
    refine zx_get C 2 (l_House (j := j0) hj0) (c_house (j := j0) hj0) rfl (by decide) inX4 q_154 rfl rfl dX4_become_45 ?_
    refine zx_iconst (v := 0) C dX4_become_48 (by decide) ?_
    refine zx_iconst (v := 4) C dX4_become_49 (by decide) ?_
    refine zx_copy C 0 (l_dra (j := j1) hj1) (l_dra (j := j0) hj0) (c_dra (j := j1) hj1 _) (c_dra (j := j0) hj0) rfl q_310 q_312 q_311 q_48 (by decide) (by decide) (by decide) (by decide) (by decide) (by decide) (Nat.le_of_ble_eq_true rfl) dX4_become_50 (fun t_2 => ?_)
    refine zx_aload_n C 1 dX4_become_53 rfl rfl ?_
    refine zx_get C 3 (l_House (j := j1) hj1) (c_house (j := j1) hj1) rfl (by decide) inX4 q_157 rfl rfl dX4_become_54 ?_
    refine zx_iconst (v := 0) C dX4_become_57 (by decide) ?_
    refine zx_aload_n C 0 dX4_become_58 rfl rfl ?_
    refine zx_get C 3 (l_House (j := j0) hj0) (c_house (j := j0) hj0) rfl (by decide) inX4 q_157 rfl rfl dX4_become_59 ?_
    refine zx_iconst (v := 0) C dX4_become_62 (by decide) ?_
    refine zx_bipush (v := 16) C dX4_become_63 (by decide) ?_
    refine zx_copy C 0 (l_deb (j := j1) hj1) (l_deb (j := j0) hj0) (c_deb (j := j1) hj1 _) (c_deb (j := j0) hj0) rfl q_310 q_312 q_311 q_48 (by decide) (by decide) (by decide) (by decide) (by decide) (by decide) (Nat.le_of_ble_eq_true rfl) dX4_become_65 (fun t_3 => ?_)
    refine zx_aload_n C 0 dX4_become_68 rfl rfl ?_
    refine zx_aload_n C 1 dX4_become_69 rfl rfl ?_
    refine zx_get C 5 (l_House (j := j1) hj1) (c_house (j := j1) hj1) rfl (by decide) inX4 q_163 rfl rfl dX4_become_70 ?_
    refine zx_put (ty := .int) C 5 (l_House (j := j0) hj0) (c_house (j := j0) hj0) rfl (by decide) inX4 tyX4 tyX4_ok nmX4 q_163 rfl rfl (by decide +kernel) rfl rfl (Nat.le_of_ble_eq_true rfl) (by rw [c_house (j := j0) hj0, z_put_same]; rfl) dX4_become_73 (fun t_4 => ?_)
    refine zx_aload_n C 0 dX4_become_76 rfl rfl ?_
    refine zx_aload_n C 1 dX4_become_77 rfl rfl ?_
    refine zx_get C 6 (l_House (j := j1) hj1) (c_house (j := j1) hj1) rfl (by decide) inX4 q_165 rfl rfl dX4_become_78 ?_
    refine zx_put (ty := .int) C 6 (l_House (j := j0) hj0) (c_house (j := j0) hj0) rfl (by decide) inX4 tyX4 tyX4_ok nmX4 q_165 rfl rfl (by decide +kernel) rfl rfl (Nat.le_of_ble_eq_true rfl) (by rw [c_house (j := j0) hj0, z_put_same]; rfl) dX4_become_81 (fun t_5 => ?_)
    refine zx_aload_n C 0 dX4_become_84 rfl rfl ?_
    refine zx_aload_n C 1 dX4_become_85 rfl rfl ?_
    refine zx_get C 7 (l_House (j := j1) hj1) (c_house (j := j1) hj1) rfl (by decide) inX4 q_167 rfl rfl dX4_become_86 ?_
    refine zx_put (ty := .int) C 7 (l_House (j := j0) hj0) (c_house (j := j0) hj0) rfl (by decide) inX4 tyX4 tyX4_ok nmX4 q_167 rfl rfl (by decide +kernel) rfl rfl (Nat.le_of_ble_eq_true rfl) (by rw [c_house (j := j0) hj0, z_put_same]; rfl) dX4_become_89 (fun t_6 => ?_)
    refine zx_aload_n C 0 dX4_become_92 rfl rfl ?_
    refine zx_aload_n C 1 dX4_become_93 rfl rfl ?_
    refine zx_get C 8 (l_House (j := j1) hj1) (c_house (j := j1) hj1) rfl (by decide) inX4 q_169 rfl rfl dX4_become_94 ?_
    refine zx_put (ty := .int) C 8 (l_House (j := j0) hj0) (c_house (j := j0) hj0) rfl (by decide) inX4 tyX4 tyX4_ok nmX4 q_169 rfl rfl (by decide +kernel) rfl rfl (Nat.le_of_ble_eq_true rfl) (by rw [c_house (j := j0) hj0, z_put_same]; rfl) dX4_become_97 (fun t_7 => ?_)
    exact zx_vret C dX4_become_100
  · refine zx_aload_n C 0 dX4_become_18 rfl rfl ?_
    refine zx_get C 1 (l_House (j := j0) hj0) (c_house (j := j0) hj0) rfl (by decide) inX4 q_151 rfl rfl dX4_become_19 ?_
    refine zx_iload_n C 2 dX4_become_22 rfl rfl ?_
    refine zx_aald C 1 (l_cands (j := j0) hj0) (c_cands (j := j0) hj0) rfl dX4_become_23 (fun h_8 => ?_)
    refine zx_aload_n C 1 dX4_become_24 rfl rfl ?_
    refine zx_get C 1 (l_House (j := j1) hj1) (c_house (j := j1) hj1) rfl (by decide) inX4 q_151 rfl rfl dX4_become_25 ?_
    refine zx_iload_n C 2 dX4_become_28 rfl rfl ?_
    refine zx_aald C 1 (l_cands (j := j1) hj1) (c_cands (j := j1) hj1) rfl dX4_become_29 (fun h_9 => ?_)
    refine zx_callV (As := [.ref (ad (6 * j1 + v2.toNatClampNeg))]) (st := []) C yk_X1_become q_306 q_307 q_308 (l_cand (c := (6 * j0 + v2.toNatClampNeg)) (cand_lt h_8 hj0)) (c_cand (c := (6 * j0 + v2.toNatClampNeg)) (cand_lt h_8 hj0)) rfl (k_X1_become C.hO N (6 * j0 + v2.toNatClampNeg) (cand_lt h_8 hj0) (6 * j1 + v2.toNatClampNeg) (cand_lt h_9 hj1) σ) (by decide) rfl rfl (Nat.le_of_ble_eq_true rfl) dX4_become_30 (fun h9 => nomatch h9) (fun _ r_10 t_11 => ?_)
    refine zx_iinc (v := (v2 + (1 : Int32))) (L1 := [(2, .int (v2 + (1 : Int32))), (0, .ref (ad (18 + j0))), (1, .ref (ad (18 + j1)))]) C 2 dX4_become_33 rfl rfl (by decide) rfl ?_
    refine zx_goto (tgt := 10) C dX4_become_36 (by decide) ?_
    exact zx_sub (L1 := [(0, .ref (ad (18 + j0))), (1, .ref (ad (18 + j1))), (2, .int (v2 + (1 : Int32)))]) [1, 2, 0] rfl (hrec10 j0 hj0 j1 hj1 (v2 + (1 : Int32)) t_11)
def lf_X4_become_10 (N : Nat) : Nat → Nat → Nat → Int32 → zS → zA
  | 0, _, _, _, _ => none
  | n + 1, j0, j1, v2, σ => bf_X4_become_10 N (lf_X4_become_10 N  n) j0 j1 v2 σ
theorem l_X4_become_10 {G : zG} {dC : Nat → ClassId} {dI : Nat → Nat → Nat} {A : Nat → Prop} {ad : Nat → Nat} {cI cC cW : ClassId} (C : zC G dC dI A 48 ad (cfC ad cI cC cW) (z_ty cI cC cW) cX4_become RX4 3 1 none) (N : Nat) : ∀ (n : Nat) (j0 : Nat) (hj0 : j0 < 3) (j1 : Nat) (hj1 : j1 < 3) (v2 : Int32) (σ : zS), zW G dC dI A 48 ad (cfC ad cI cC cW) 3 false (lf_X4_become_10 N  n j0 j1 v2 σ) σ 10 [(0, .ref (ad (18 + j0))), (1, .ref (ad (18 + j1))), (2, .int v2)] [] := by
  intro n
  induction n with
  | zero => intro j0 hj0 j1 hj1 v2 σ; exact zx_none
  | succ n ih => intro j0 hj0 j1 hj1 v2 σ; exact b_X4_become_10 C N (lf_X4_become_10 N  n) ih j0 hj0 j1 hj1 v2 σ
def f_X4_become (N : Nat) (j0 : Nat) (j1 : Nat) (σ : zS) : zA := z_m (z_put σ (18 + j0) 4 (σ (18 + j1) 4)) (fun t_12 => (lf_X4_become_10 N N j0 j1 (0 : Int32) t_12))
set_option maxHeartbeats 4000000 in
set_option maxRecDepth 100000 in
theorem k_X4_become {l : Launch} {dC : Nat → ClassId} {dI : Nat → Nat → Nat} {A : Nat → Prop} {ad : Nat → Nat} {cI cC cW : ClassId} (hO : zO A 48 ad (cfC ad cI cC cW)) (N : Nat) (j0 : Nat) (hj0 : j0 < 3) (j1 : Nat) (hj1 : j1 < 3) (σ : zS) : zM l dC dI A 48 ad (cfC ad cI cC cW) (z_ty cI cC cW) false yX4_become cX4_become 3 none 1 [.ref (ad (18 + j0)), .ref (ad (18 + j1))] σ (f_X4_become N j0 j1 σ) := by
  refine zM_of hO (by decide) (Nat.le_of_ble_eq_true rfl) (fun G hG C => ?_)
  subst hG
  unfold f_X4_become
  refine zx_sub (L1 := [(0, .ref (ad (18 + j0))), (1, .ref (ad (18 + j1)))]) [0, 1] rfl ?_
  refine zx_aload_n C 0 dX4_become_0 rfl rfl ?_
  refine zx_aload_n C 1 dX4_become_1 rfl rfl ?_
  refine zx_get C 4 (l_House (j := j1) hj1) (c_house (j := j1) hj1) rfl (by decide) inX4 q_160 rfl rfl dX4_become_2 ?_
  refine zx_put (ty := .int) C 4 (l_House (j := j0) hj0) (c_house (j := j0) hj0) rfl (by decide) inX4 tyX4 tyX4_ok nmX4 q_160 rfl rfl (by decide +kernel) rfl rfl (Nat.le_of_ble_eq_true rfl) (by rw [c_house (j := j0) hj0, z_put_same]; rfl) dX4_become_5 (fun t_12 => ?_)
  refine zx_iconst (v := 0) C dX4_become_8 (by decide) ?_
  refine zx_istore_n (L1 := [(2, .int (0 : Int32)), (0, .ref (ad (18 + j0))), (1, .ref (ad (18 + j1)))]) C dX4_become_9 rfl (by decide) rfl ?_
  exact zx_sub (L1 := [(0, .ref (ad (18 + j0))), (1, .ref (ad (18 + j1))), (2, .int (0 : Int32))]) [1, 2, 0] rfl (l_X4_become_10 C N N j0 hj0 j1 hj1 (0 : Int32) t_12)
def f_X4_burnsOf (N : Nat) (j0 : Nat) (c1 : Nat) (σ : zS) : zA := z_g (z_in (σ c1 0) 6) (z_g (z_in (σ c1 4) 4) (z_b (v_rate N (σ c1 0).toNatClampNeg (σ c1 1) (σ (24 + j0) (σ c1 4).toNatClampNeg) σ) (fun r_2 t_3 => some ((if (t_3 c1 2) < r_2 then (t_3 c1 2) else r_2), t_3))))
set_option maxHeartbeats 4000000 in
set_option maxRecDepth 100000 in
theorem k_X4_burnsOf {l : Launch} {dC : Nat → ClassId} {dI : Nat → Nat → Nat} {A : Nat → Prop} {ad : Nat → Nat} {cI cC cW : ClassId} (hO : zO A 48 ad (cfC ad cI cC cW)) (N : Nat) (j0 : Nat) (hj0 : j0 < 3) (c1 : Nat) (hc1 : c1 < 18) (σ : zS) : zM l dC dI A 48 ad (cfC ad cI cC cW) (z_ty cI cC cW) true yX4_burnsOf cX4_burnsOf 2 (some .int) 3 [.ref (ad (18 + j0)), .ref (ad c1)] σ (f_X4_burnsOf N j0 c1 σ) := by
  refine zM_of hO (by decide) (Nat.le_of_ble_eq_true rfl) (fun G hG C => ?_)
  subst hG
  unfold f_X4_burnsOf
  refine zx_sub (L1 := [(0, .ref (ad (18 + j0))), (1, .ref (ad c1))]) [0, 1] rfl ?_
  refine zx_aload_n C 0 dX4_burnsOf_0 rfl rfl ?_
  refine zx_get C 0 (l_House (j := j0) hj0) (c_house (j := j0) hj0) rfl (by decide) inX4 q_149 rfl rfl dX4_burnsOf_1 ?_
  refine zx_aload_n C 1 dX4_burnsOf_4 rfl rfl ?_
  refine zx_get C 0 (l_cand (c := c1) hc1) (c_cand (c := c1) hc1) rfl (by decide) inX1 q_115 rfl rfl dX4_burnsOf_5 ?_
  refine zx_aald C 2 (by decide) rfl rfl dX4_burnsOf_8 (fun h_1 => ?_)
  refine zx_aload_n C 1 dX4_burnsOf_9 rfl rfl ?_
  refine zx_get C 1 (l_cand (c := c1) hc1) (c_cand (c := c1) hc1) rfl (by decide) inX1 q_119 rfl rfl dX4_burnsOf_10 ?_
  refine zx_aload_n C 0 dX4_burnsOf_13 rfl rfl ?_
  refine zx_get C 2 (l_House (j := j0) hj0) (c_house (j := j0) hj0) rfl (by decide) inX4 q_154 rfl rfl dX4_burnsOf_14 ?_
  refine zx_aload_n C 1 dX4_burnsOf_17 rfl rfl ?_
  refine zx_get C 4 (l_cand (c := c1) hc1) (c_cand (c := c1) hc1) rfl (by decide) inX1 q_131 rfl rfl dX4_burnsOf_18 ?_
  refine zx_iald C 0 (l_dra (j := j0) hj0) (c_dra (j := j0) hj0 _) rfl dX4_burnsOf_21 ?_
  refine zx_v_rate C N q_369 (wax_lt h_1) (by decide) (Nat.le_of_ble_eq_true rfl) dX4_burnsOf_22 (fun r_2 t_3 => ?_)
  refine zx_aload_n C 1 dX4_burnsOf_25 rfl rfl ?_
  refine zx_get C 2 (l_cand (c := c1) hc1) (c_cand (c := c1) hc1) rfl (by decide) inX1 q_123 rfl rfl dX4_burnsOf_26 ?_
  refine zx_min C q_397 q_398 q_49 q_399 (by decide) (Nat.le_of_ble_eq_true rfl) dX4_burnsOf_29 ?_
  exact zx_iret C dX4_burnsOf_32
def f_X4_dripsOf (N : Nat) (j0 : Nat) (c1 : Nat) (σ : zS) : zA := z_g (z_in (σ c1 0) 6) (z_b (f_X4_burnsOf N j0 c1 σ) (fun r_2 t_3 => z_g (z_in (t_3 c1 4) 4) (z_b (v_drips N (σ c1 0).toNatClampNeg r_2 (t_3 c1 1) (t_3 (24 + j0) (t_3 c1 4).toNatClampNeg) t_3) (fun r_4 t_5 => some (r_4, t_5)))))
set_option maxHeartbeats 4000000 in
set_option maxRecDepth 100000 in
theorem k_X4_dripsOf {l : Launch} {dC : Nat → ClassId} {dI : Nat → Nat → Nat} {A : Nat → Prop} {ad : Nat → Nat} {cI cC cW : ClassId} (hO : zO A 48 ad (cfC ad cI cC cW)) (N : Nat) (j0 : Nat) (hj0 : j0 < 3) (c1 : Nat) (hc1 : c1 < 18) (σ : zS) : zM l dC dI A 48 ad (cfC ad cI cC cW) (z_ty cI cC cW) true yX4_dripsOf cX4_dripsOf 2 (some .int) 4 [.ref (ad (18 + j0)), .ref (ad c1)] σ (f_X4_dripsOf N j0 c1 σ) := by
  refine zM_of hO (by decide) (Nat.le_of_ble_eq_true rfl) (fun G hG C => ?_)
  subst hG
  unfold f_X4_dripsOf
  refine zx_sub (L1 := [(0, .ref (ad (18 + j0))), (1, .ref (ad c1))]) [0, 1] rfl ?_
  refine zx_aload_n C 0 dX4_dripsOf_0 rfl rfl ?_
  refine zx_get C 0 (l_House (j := j0) hj0) (c_house (j := j0) hj0) rfl (by decide) inX4 q_149 rfl rfl dX4_dripsOf_1 ?_
  refine zx_aload_n C 1 dX4_dripsOf_4 rfl rfl ?_
  refine zx_get C 0 (l_cand (c := c1) hc1) (c_cand (c := c1) hc1) rfl (by decide) inX1 q_115 rfl rfl dX4_dripsOf_5 ?_
  refine zx_aald C 2 (by decide) rfl rfl dX4_dripsOf_8 (fun h_1 => ?_)
  refine zx_aload_n C 0 dX4_dripsOf_9 rfl rfl ?_
  refine zx_aload_n C 1 dX4_dripsOf_10 rfl rfl ?_
  refine zx_callV (As := [.ref (ad c1)]) (st := [.ref (ad (30 + (σ c1 0).toNatClampNeg))]) C yk_X4_burnsOf q_404 q_366 q_367 (l_House (j := j0) hj0) (c_house (j := j0) hj0) rfl (k_X4_burnsOf C.hO N j0 hj0 c1 hc1 σ) (by decide) rfl rfl (Nat.le_of_ble_eq_true rfl) dX4_dripsOf_11 (fun _ r_2 t_3 => ?_) (fun h9 => nomatch h9)
  refine zx_aload_n C 1 dX4_dripsOf_14 rfl rfl ?_
  refine zx_get C 1 (l_cand (c := c1) hc1) (c_cand (c := c1) hc1) rfl (by decide) inX1 q_119 rfl rfl dX4_dripsOf_15 ?_
  refine zx_aload_n C 0 dX4_dripsOf_18 rfl rfl ?_
  refine zx_get C 2 (l_House (j := j0) hj0) (c_house (j := j0) hj0) rfl (by decide) inX4 q_154 rfl rfl dX4_dripsOf_19 ?_
  refine zx_aload_n C 1 dX4_dripsOf_22 rfl rfl ?_
  refine zx_get C 4 (l_cand (c := c1) hc1) (c_cand (c := c1) hc1) rfl (by decide) inX1 q_131 rfl rfl dX4_dripsOf_23 ?_
  refine zx_iald C 0 (l_dra (j := j0) hj0) (c_dra (j := j0) hj0 _) rfl dX4_dripsOf_26 ?_
  refine zx_v_drips C N q_405 (wax_lt h_1) (by decide) (Nat.le_of_ble_eq_true rfl) dX4_dripsOf_27 (fun r_4 t_5 => ?_)
  exact zx_iret C dX4_dripsOf_30
def f_X4_worthOf (N : Nat) (j0 : Nat) (c1 : Nat) (σ : zS) : zA := z_g (z_in (σ c1 0) 6) (z_b (f_X4_burnsOf N j0 c1 σ) (fun r_2 t_3 => z_g (z_in (t_3 c1 4) 4) (z_b (v_worth N (σ c1 0).toNatClampNeg r_2 (t_3 c1 1) (t_3 (24 + j0) (t_3 c1 4).toNatClampNeg) t_3) (fun r_4 t_5 => some (r_4, t_5)))))
set_option maxHeartbeats 4000000 in
set_option maxRecDepth 100000 in
theorem k_X4_worthOf {l : Launch} {dC : Nat → ClassId} {dI : Nat → Nat → Nat} {A : Nat → Prop} {ad : Nat → Nat} {cI cC cW : ClassId} (hO : zO A 48 ad (cfC ad cI cC cW)) (N : Nat) (j0 : Nat) (hj0 : j0 < 3) (c1 : Nat) (hc1 : c1 < 18) (σ : zS) : zM l dC dI A 48 ad (cfC ad cI cC cW) (z_ty cI cC cW) true yX4_worthOf cX4_worthOf 2 (some .int) 4 [.ref (ad (18 + j0)), .ref (ad c1)] σ (f_X4_worthOf N j0 c1 σ) := by
  refine zM_of hO (by decide) (Nat.le_of_ble_eq_true rfl) (fun G hG C => ?_)
  subst hG
  unfold f_X4_worthOf
  refine zx_sub (L1 := [(0, .ref (ad (18 + j0))), (1, .ref (ad c1))]) [0, 1] rfl ?_
  refine zx_aload_n C 0 dX4_worthOf_0 rfl rfl ?_
  refine zx_get C 0 (l_House (j := j0) hj0) (c_house (j := j0) hj0) rfl (by decide) inX4 q_149 rfl rfl dX4_worthOf_1 ?_
  refine zx_aload_n C 1 dX4_worthOf_4 rfl rfl ?_
  refine zx_get C 0 (l_cand (c := c1) hc1) (c_cand (c := c1) hc1) rfl (by decide) inX1 q_115 rfl rfl dX4_worthOf_5 ?_
  refine zx_aald C 2 (by decide) rfl rfl dX4_worthOf_8 (fun h_1 => ?_)
  refine zx_aload_n C 0 dX4_worthOf_9 rfl rfl ?_
  refine zx_aload_n C 1 dX4_worthOf_10 rfl rfl ?_
  refine zx_callV (As := [.ref (ad c1)]) (st := [.ref (ad (30 + (σ c1 0).toNatClampNeg))]) C yk_X4_burnsOf q_404 q_366 q_367 (l_House (j := j0) hj0) (c_house (j := j0) hj0) rfl (k_X4_burnsOf C.hO N j0 hj0 c1 hc1 σ) (by decide) rfl rfl (Nat.le_of_ble_eq_true rfl) dX4_worthOf_11 (fun _ r_2 t_3 => ?_) (fun h9 => nomatch h9)
  refine zx_aload_n C 1 dX4_worthOf_14 rfl rfl ?_
  refine zx_get C 1 (l_cand (c := c1) hc1) (c_cand (c := c1) hc1) rfl (by decide) inX1 q_119 rfl rfl dX4_worthOf_15 ?_
  refine zx_aload_n C 0 dX4_worthOf_18 rfl rfl ?_
  refine zx_get C 2 (l_House (j := j0) hj0) (c_house (j := j0) hj0) rfl (by decide) inX4 q_154 rfl rfl dX4_worthOf_19 ?_
  refine zx_aload_n C 1 dX4_worthOf_22 rfl rfl ?_
  refine zx_get C 4 (l_cand (c := c1) hc1) (c_cand (c := c1) hc1) rfl (by decide) inX1 q_131 rfl rfl dX4_worthOf_23 ?_
  refine zx_iald C 0 (l_dra (j := j0) hj0) (c_dra (j := j0) hj0 _) rfl dX4_worthOf_26 ?_
  refine zx_v_worth C N q_430 (wax_lt h_1) (by decide) (Nat.le_of_ble_eq_true rfl) dX4_worthOf_27 (fun r_4 t_5 => ?_)
  exact zx_iret C dX4_worthOf_30
def f_X4_isBurning (N : Nat) (c0 : Nat) (σ : zS) : zA := (if (σ c0 5) = (0 : Int32) then some ((0 : Int32), σ) else (if (σ c0 2) ≤ (0 : Int32) then some ((0 : Int32), σ) else some ((1 : Int32), σ)))
set_option maxHeartbeats 4000000 in
set_option maxRecDepth 100000 in
theorem k_X4_isBurning {l : Launch} {dC : Nat → ClassId} {dI : Nat → Nat → Nat} {A : Nat → Prop} {ad : Nat → Nat} {cI cC cW : ClassId} (hO : zO A 48 ad (cfC ad cI cC cW)) (N : Nat) (c0 : Nat) (hc0 : c0 < 18) (σ : zS) : zM l dC dI A 48 ad (cfC ad cI cC cW) (z_ty cI cC cW) true yX4_isBurning cX4_isBurning 1 (some .boolean) 0 [.ref (ad c0)] σ (f_X4_isBurning N c0 σ) := by
  refine zM_of hO (by decide) (Nat.le_of_ble_eq_true rfl) (fun G hG C => ?_)
  subst hG
  unfold f_X4_isBurning
  refine zx_sub (L1 := [(0, .ref (ad c0))]) [0] rfl ?_
  refine zx_aload_n C 0 dX4_isBurning_0 rfl rfl ?_
  refine zx_get C 5 (l_cand (c := c0) hc0) (c_cand (c := c0) hc0) rfl (by decide) inX1 q_135 rfl rfl dX4_isBurning_1 ?_
  refine zx_if_eq (tgt := 18) C dX4_isBurning_4 (by decide) (fun h_1 => ?_) (fun h_1 => ?_)
  · refine zx_iconst (v := 0) C dX4_isBurning_18 (by decide) ?_
    exact zx_zret C (by decide) dX4_isBurning_19
  · refine zx_aload_n C 0 dX4_isBurning_7 rfl rfl ?_
    refine zx_get C 2 (l_cand (c := c0) hc0) (c_cand (c := c0) hc0) rfl (by decide) inX1 q_123 rfl rfl dX4_isBurning_8 ?_
    refine zx_if_le (tgt := 18) C dX4_isBurning_11 (by decide) (fun h_2 => ?_) (fun h_2 => ?_)
    · refine zx_iconst (v := 0) C dX4_isBurning_18 (by decide) ?_
      exact zx_zret C (by decide) dX4_isBurning_19
    · refine zx_iconst (v := 1) C dX4_isBurning_14 (by decide) ?_
      refine zx_goto (tgt := 19) C dX4_isBurning_15 (by decide) ?_
      exact zx_zret C (by decide) dX4_isBurning_19
def f_X10_pair (N : Nat) (v0 : Int32) (v1 : Int32) (σ : zS) : zA := some (((v0 * (4 : Int32)) + v1), σ)
set_option maxHeartbeats 4000000 in
set_option maxRecDepth 100000 in
theorem k_X10_pair {l : Launch} {dC : Nat → ClassId} {dI : Nat → Nat → Nat} {A : Nat → Prop} {ad : Nat → Nat} {cI cC cW : ClassId} (hO : zO A 48 ad (cfC ad cI cC cW)) (N : Nat) (v0 : Int32) (v1 : Int32) (σ : zS) : zM l dC dI A 48 ad (cfC ad cI cC cW) (z_ty cI cC cW) true yX10_pair cX10_pair 2 (some .int) 0 [.int v0, .int v1] σ (f_X10_pair N v0 v1 σ) := by
  refine zM_of hO (by decide) (Nat.le_of_ble_eq_true rfl) (fun G hG C => ?_)
  subst hG
  unfold f_X10_pair
  refine zx_sub (L1 := [(0, .int v0), (1, .int v1)]) [0, 1] rfl ?_
  refine zx_iload_n C 0 dX10_pair_0 rfl rfl ?_
  refine zx_iconst (v := 4) C dX10_pair_1 (by decide) ?_
  refine zx_imul C dX10_pair_2 ?_
  refine zx_iload_n C 1 dX10_pair_3 rfl rfl ?_
  refine zx_iadd C dX10_pair_4 ?_
  exact zx_iret C dX10_pair_5
def bf_X4_burnMinute_108 (N : Nat) (j0 : Nat) (v2 : Int32) (v3 : Int32) (v5 : Int32) (sc0 : Nat) (u1 : Int32) (σ : zS) : zA := z_g (z_bo u1) (z_m (z_put σ sc0 5 u1) (fun t_1 => z_m (z_put t_1 (18 + j0) 6 ((t_1 (18 + j0) 6) + v2)) (fun t_3 => z_m (z_put t_3 (18 + j0) 7 ((t_3 (18 + j0) 7) + v3)) (fun t_4 => z_m (z_put t_4 (18 + j0) 8 ((t_4 (18 + j0) 8) + v5)) (fun t_5 => some (0, t_5))))))
set_option maxHeartbeats 4000000 in
set_option maxRecDepth 100000 in
theorem b_X4_burnMinute_108 {G : zG} {dC : Nat → ClassId} {dI : Nat → Nat → Nat} {A : Nat → Prop} {ad : Nat → Nat} {cI cC cW : ClassId} (C : zC G dC dI A 48 ad (cfC ad cI cC cW) (z_ty cI cC cW) cX4_burnMinute RX4 6 4 none) (N : Nat) (j0 : Nat) (hj0 : j0 < 3) (v2 : Int32) (v3 : Int32) (v5 : Int32) (sc0 : Nat) (hsc0 : sc0 < 18) (u1 : Int32) (σ : zS) : zW G dC dI A 48 ad (cfC ad cI cC cW) 6 false (bf_X4_burnMinute_108 N  j0 v2 v3 v5 sc0 u1 σ) σ 108 [(0, .ref (ad (18 + j0))), (2, .int v2), (3, .int v3), (5, .int v5)] [.int u1, .ref (ad sc0)] := by
  unfold bf_X4_burnMinute_108
  refine zx_g (fun h_2 => ?_)
  refine zx_put (ty := .boolean) C 5 (l_cand (c := sc0) hsc0) (c_cand (c := sc0) hsc0) rfl (by decide) inX1 tyX1 tyX1_ok nmX1 q_135 rfl rfl (by decide +kernel) (z_bo_n h_2) (z_bo_f h_2) (Nat.le_of_ble_eq_true rfl) (by rw [c_cand (c := sc0) hsc0, z_put_same]; rfl) dX4_burnMinute_108 (fun t_1 => ?_)
  refine zx_aload_n C 0 dX4_burnMinute_111 rfl rfl ?_
  refine zx_dup C dX4_burnMinute_112 rfl ?_
  refine zx_get C 6 (l_House (j := j0) hj0) (c_house (j := j0) hj0) rfl (by decide) inX4 q_165 rfl rfl dX4_burnMinute_113 ?_
  refine zx_iload_n C 1 dX4_burnMinute_116 rfl rfl ?_
  refine zx_iadd C dX4_burnMinute_117 ?_
  refine zx_put (ty := .int) C 6 (l_House (j := j0) hj0) (c_house (j := j0) hj0) rfl (by decide) inX4 tyX4 tyX4_ok nmX4 q_165 rfl rfl (by decide +kernel) rfl rfl (Nat.le_of_ble_eq_true rfl) (by rw [c_house (j := j0) hj0, z_put_same]; rfl) dX4_burnMinute_118 (fun t_3 => ?_)
  refine zx_aload_n C 0 dX4_burnMinute_121 rfl rfl ?_
  refine zx_dup C dX4_burnMinute_122 rfl ?_
  refine zx_get C 7 (l_House (j := j0) hj0) (c_house (j := j0) hj0) rfl (by decide) inX4 q_167 rfl rfl dX4_burnMinute_123 ?_
  refine zx_iload_n C 2 dX4_burnMinute_126 rfl rfl ?_
  refine zx_iadd C dX4_burnMinute_127 ?_
  refine zx_put (ty := .int) C 7 (l_House (j := j0) hj0) (c_house (j := j0) hj0) rfl (by decide) inX4 tyX4 tyX4_ok nmX4 q_167 rfl rfl (by decide +kernel) rfl rfl (Nat.le_of_ble_eq_true rfl) (by rw [c_house (j := j0) hj0, z_put_same]; rfl) dX4_burnMinute_128 (fun t_4 => ?_)
  refine zx_aload_n C 0 dX4_burnMinute_131 rfl rfl ?_
  refine zx_dup C dX4_burnMinute_132 rfl ?_
  refine zx_get C 8 (l_House (j := j0) hj0) (c_house (j := j0) hj0) rfl (by decide) inX4 q_169 rfl rfl dX4_burnMinute_133 ?_
  refine zx_iload C 3 dX4_burnMinute_136 rfl ?_
  refine zx_iadd C dX4_burnMinute_138 ?_
  refine zx_put (ty := .int) C 8 (l_House (j := j0) hj0) (c_house (j := j0) hj0) rfl (by decide) inX4 tyX4 tyX4_ok nmX4 q_169 rfl rfl (by decide +kernel) rfl rfl (Nat.le_of_ble_eq_true rfl) (by rw [c_house (j := j0) hj0, z_put_same]; rfl) dX4_burnMinute_139 (fun t_5 => ?_)
  exact zx_vret C dX4_burnMinute_142
def f_X4_burnMinute (N : Nat) (j0 : Nat) (c1 : Nat) (σ : zS) : zA := z_b (f_X4_burnsOf N j0 c1 σ) (fun r_6 t_7 => z_g (z_in (t_7 c1 0) 6) (z_g (z_in (t_7 c1 4) 4) (z_b (v_drips N (t_7 c1 0).toNatClampNeg r_6 (t_7 c1 1) (t_7 (24 + j0) (t_7 c1 4).toNatClampNeg) t_7) (fun r_9 t_10 => z_b (f_X10_pair N (t_10 c1 3) (t_10 c1 4) t_10) (fun r_11 t_12 => z_g (z_in r_11 16) (z_g (z_in (t_12 c1 0) 6) (z_b (v_worthOfClean N (t_12 c1 0).toNatClampNeg (r_6 - r_9) t_12) (fun r_14 t_15 => z_n (if r_14 < (t_12 (27 + j0) r_11.toNatClampNeg) then r_14 else (t_12 (27 + j0) r_11.toNatClampNeg)) (fun z_16 => z_g (z_in r_11 16) (z_g (z_in r_11 16) (z_m (z_put t_15 (27 + j0) r_11.toNatClampNeg ((t_15 (27 + j0) r_11.toNatClampNeg) - z_16)) (fun t_17 => z_m (z_put t_17 c1 2 ((t_17 c1 2) - r_6)) (fun t_18 => (if (t_18 c1 2) ≤ (0 : Int32) then (bf_X4_burnMinute_108 N j0 r_6 r_9 z_16 c1 (0 : Int32) t_18) else (bf_X4_burnMinute_108 N j0 r_6 r_9 z_16 c1 (1 : Int32) t_18)))))))))))))))
set_option maxHeartbeats 4000000 in
set_option maxRecDepth 100000 in
theorem k_X4_burnMinute {l : Launch} {dC : Nat → ClassId} {dI : Nat → Nat → Nat} {A : Nat → Prop} {ad : Nat → Nat} {cI cC cW : ClassId} (hO : zO A 48 ad (cfC ad cI cC cW)) (N : Nat) (j0 : Nat) (hj0 : j0 < 3) (c1 : Nat) (hc1 : c1 < 18) (σ : zS) : zM l dC dI A 48 ad (cfC ad cI cC cW) (z_ty cI cC cW) false yX4_burnMinute cX4_burnMinute 6 none 4 [.ref (ad (18 + j0)), .ref (ad c1)] σ (f_X4_burnMinute N j0 c1 σ) := by
  refine zM_of hO (by decide) (Nat.le_of_ble_eq_true rfl) (fun G hG C => ?_)
  subst hG
  unfold f_X4_burnMinute
  refine zx_sub (L1 := [(0, .ref (ad (18 + j0))), (1, .ref (ad c1))]) [0, 1] rfl ?_
  refine zx_aload_n C 0 dX4_burnMinute_0 rfl rfl ?_
  refine zx_aload_n C 1 dX4_burnMinute_1 rfl rfl ?_
  refine zx_callV (As := [.ref (ad c1)]) (st := []) C yk_X4_burnsOf q_404 q_366 q_367 (l_House (j := j0) hj0) (c_house (j := j0) hj0) rfl (k_X4_burnsOf C.hO N j0 hj0 c1 hc1 σ) (by decide) rfl rfl (Nat.le_of_ble_eq_true rfl) dX4_burnMinute_2 (fun _ r_6 t_7 => ?_) (fun h9 => nomatch h9)
  refine zx_istore_n (L1 := [(2, .int r_6), (0, .ref (ad (18 + j0))), (1, .ref (ad c1))]) C dX4_burnMinute_5 rfl (by decide) rfl ?_
  refine zx_aload_n C 1 dX4_burnMinute_6 rfl rfl ?_
  refine zx_get C 0 (l_House (j := j0) hj0) (c_house (j := j0) hj0) rfl (by decide) inX4 q_149 rfl rfl dX4_burnMinute_7 ?_
  refine zx_aload_n C 2 dX4_burnMinute_10 rfl rfl ?_
  refine zx_get C 0 (l_cand (c := c1) hc1) (c_cand (c := c1) hc1) rfl (by decide) inX1 q_115 rfl rfl dX4_burnMinute_11 ?_
  refine zx_aald C 2 (by decide) rfl rfl dX4_burnMinute_14 (fun h_8 => ?_)
  refine zx_iload_n C 0 dX4_burnMinute_15 rfl rfl ?_
  refine zx_aload_n C 2 dX4_burnMinute_16 rfl rfl ?_
  refine zx_get C 1 (l_cand (c := c1) hc1) (c_cand (c := c1) hc1) rfl (by decide) inX1 q_119 rfl rfl dX4_burnMinute_17 ?_
  refine zx_aload_n C 1 dX4_burnMinute_20 rfl rfl ?_
  refine zx_get C 2 (l_House (j := j0) hj0) (c_house (j := j0) hj0) rfl (by decide) inX4 q_154 rfl rfl dX4_burnMinute_21 ?_
  refine zx_aload_n C 2 dX4_burnMinute_24 rfl rfl ?_
  refine zx_get C 4 (l_cand (c := c1) hc1) (c_cand (c := c1) hc1) rfl (by decide) inX1 q_131 rfl rfl dX4_burnMinute_25 ?_
  refine zx_iald C 0 (l_dra (j := j0) hj0) (c_dra (j := j0) hj0 _) rfl dX4_burnMinute_28 ?_
  refine zx_v_drips C N q_405 (wax_lt h_8) (by decide) (Nat.le_of_ble_eq_true rfl) dX4_burnMinute_29 (fun r_9 t_10 => ?_)
  refine zx_istore_n (L1 := [(3, .int r_9), (2, .int r_6), (0, .ref (ad (18 + j0))), (1, .ref (ad c1))]) C dX4_burnMinute_32 rfl (by decide) rfl ?_
  refine zx_aload_n C 3 dX4_burnMinute_33 rfl rfl ?_
  refine zx_get C 3 (l_cand (c := c1) hc1) (c_cand (c := c1) hc1) rfl (by decide) inX1 q_129 rfl rfl dX4_burnMinute_34 ?_
  refine zx_aload_n C 3 dX4_burnMinute_37 rfl rfl ?_
  refine zx_get C 4 (l_cand (c := c1) hc1) (c_cand (c := c1) hc1) rfl (by decide) inX1 q_131 rfl rfl dX4_burnMinute_38 ?_
  refine zx_callSN (host := "PaidInLight") (av := [.int (t_10 c1 3), .int (t_10 c1 4)]) (st := []) C yk_X10_pair (nest_17) q_346 (k_X10_pair C.hO N (t_10 c1 3) (t_10 c1 4) t_10) (by decide) rfl rfl (Nat.le_of_ble_eq_true rfl) dX4_burnMinute_41 (fun _ r_11 t_12 => ?_) (fun h9 => nomatch h9)
  refine zx_istore (L1 := [(4, .int r_11), (3, .int r_9), (2, .int r_6), (0, .ref (ad (18 + j0))), (1, .ref (ad c1))]) C dX4_burnMinute_44 (by decide) rfl ?_
  refine zx_aload_n C 3 dX4_burnMinute_46 rfl rfl ?_
  refine zx_get C 3 (l_House (j := j0) hj0) (c_house (j := j0) hj0) rfl (by decide) inX4 q_157 rfl rfl dX4_burnMinute_47 ?_
  refine zx_iload C 0 dX4_burnMinute_50 rfl ?_
  refine zx_iald C 0 (l_deb (j := j0) hj0) (c_deb (j := j0) hj0 _) rfl dX4_burnMinute_52 ?_
  refine zx_aload_n C 3 dX4_burnMinute_53 rfl rfl ?_
  refine zx_get C 0 (l_House (j := j0) hj0) (c_house (j := j0) hj0) rfl (by decide) inX4 q_149 rfl rfl dX4_burnMinute_54 ?_
  refine zx_aload_n C 4 dX4_burnMinute_57 rfl rfl ?_
  refine zx_get C 0 (l_cand (c := c1) hc1) (c_cand (c := c1) hc1) rfl (by decide) inX1 q_115 rfl rfl dX4_burnMinute_58 ?_
  refine zx_aald C 2 (by decide) rfl rfl dX4_burnMinute_61 (fun h_13 => ?_)
  refine zx_iload_n C 2 dX4_burnMinute_62 rfl rfl ?_
  refine zx_iload_n C 1 dX4_burnMinute_63 rfl rfl ?_
  refine zx_isub C dX4_burnMinute_64 ?_
  refine zx_v_worthOfClean C N q_496 (wax_lt h_13) (by decide) (Nat.le_of_ble_eq_true rfl) dX4_burnMinute_65 (fun r_14 t_15 => ?_)
  refine zx_min C q_397 q_398 q_49 q_399 (by decide) (Nat.le_of_ble_eq_true rfl) dX4_burnMinute_68 ?_
  refine zx_n (fun z_16 => ?_)
  refine zx_istore (L1 := [(5, .int z_16), (4, .int r_11), (3, .int r_9), (2, .int r_6), (0, .ref (ad (18 + j0))), (1, .ref (ad c1))]) C dX4_burnMinute_71 (by decide) rfl ?_
  refine zx_aload_n C 4 dX4_burnMinute_73 rfl rfl ?_
  refine zx_get C 3 (l_House (j := j0) hj0) (c_house (j := j0) hj0) rfl (by decide) inX4 q_157 rfl rfl dX4_burnMinute_74 ?_
  refine zx_iload C 1 dX4_burnMinute_77 rfl ?_
  refine zx_dup2 C dX4_burnMinute_79 rfl rfl ?_
  refine zx_iald C 0 (l_deb (j := j0) hj0) (c_deb (j := j0) hj0 _) rfl dX4_burnMinute_80 ?_
  refine zx_iload C 0 dX4_burnMinute_81 rfl ?_
  refine zx_isub C dX4_burnMinute_83 ?_
  refine zx_iast C 0 (l_deb (j := j0) hj0) (c_deb (j := j0) hj0) rfl dX4_burnMinute_84 (fun t_17 => ?_)
  refine zx_aload_n C 5 dX4_burnMinute_85 rfl rfl ?_
  refine zx_dup C dX4_burnMinute_86 rfl ?_
  refine zx_get C 2 (l_cand (c := c1) hc1) (c_cand (c := c1) hc1) rfl (by decide) inX1 q_123 rfl rfl dX4_burnMinute_87 ?_
  refine zx_iload_n C 3 dX4_burnMinute_90 rfl rfl ?_
  refine zx_isub C dX4_burnMinute_91 ?_
  refine zx_put (ty := .int) C 2 (l_cand (c := c1) hc1) (c_cand (c := c1) hc1) rfl (by decide) inX1 tyX1 tyX1_ok nmX1 q_123 rfl rfl (by decide +kernel) rfl rfl (Nat.le_of_ble_eq_true rfl) (by rw [c_cand (c := c1) hc1, z_put_same]; rfl) dX4_burnMinute_92 (fun t_18 => ?_)
  refine zx_aload_n C 5 dX4_burnMinute_95 rfl rfl ?_
  refine zx_aload_n C 5 dX4_burnMinute_96 rfl rfl ?_
  refine zx_get C 2 (l_cand (c := c1) hc1) (c_cand (c := c1) hc1) rfl (by decide) inX1 q_123 rfl rfl dX4_burnMinute_97 ?_
  refine zx_if_le (tgt := 107) C dX4_burnMinute_100 (by decide) (fun h_19 => ?_) (fun h_19 => ?_)
  · refine zx_iconst (v := 0) C dX4_burnMinute_107 (by decide) ?_
    exact zx_sub (L1 := [(0, .ref (ad (18 + j0))), (2, .int r_6), (3, .int r_9), (5, .int z_16)]) [4, 3, 2, 0] rfl (b_X4_burnMinute_108 C N j0 hj0 r_6 r_9 z_16 c1 hc1 (0 : Int32) t_18)
  · refine zx_iconst (v := 1) C dX4_burnMinute_103 (by decide) ?_
    refine zx_goto (tgt := 108) C dX4_burnMinute_104 (by decide) ?_
    exact zx_sub (L1 := [(0, .ref (ad (18 + j0))), (2, .int r_6), (3, .int r_9), (5, .int z_16)]) [4, 3, 2, 0] rfl (b_X4_burnMinute_108 C N j0 hj0 r_6 r_9 z_16 c1 hc1 (1 : Int32) t_18)
def bf_X4_passMinute_2 (N : Nat) (rec2 : Nat → Int32 → zS → zA) (j0 : Nat) (v1 : Int32) (σ : zS) : zA := (if (σ (18 + j0) 4) ≤ v1 then z_m (z_put σ (18 + j0) 5 ((σ (18 + j0) 5) + (1 : Int32))) (fun t_2 => some (0, t_2)) else z_g (z_in v1 6) (z_b (f_X4_isBurning N (6 * j0 + v1.toNatClampNeg) σ) (fun r_4 t_5 => (if r_4 = (0 : Int32) then (rec2 j0 (v1 + (1 : Int32)) t_5) else z_g (z_in v1 6) (z_b (f_X4_burnMinute N j0 (6 * j0 + v1.toNatClampNeg) t_5) (fun r_8 t_9 => (rec2 j0 (v1 + (1 : Int32)) t_9)))))))
set_option maxHeartbeats 4000000 in
set_option maxRecDepth 100000 in
theorem b_X4_passMinute_2 {G : zG} {dC : Nat → ClassId} {dI : Nat → Nat → Nat} {A : Nat → Prop} {ad : Nat → Nat} {cI cC cW : ClassId} (C : zC G dC dI A 48 ad (cfC ad cI cC cW) (z_ty cI cC cW) cX4_passMinute RX4 2 5 none) (N : Nat) (rec2 : Nat → Int32 → zS → zA) (hrec2 : ∀ (j0 : Nat) (hj0 : j0 < 3) (v1 : Int32) (σ : zS), zW G dC dI A 48 ad (cfC ad cI cC cW) 2 false (rec2 j0 v1 σ) σ 2 [(0, .ref (ad (18 + j0))), (1, .int v1)] []) (j0 : Nat) (hj0 : j0 < 3) (v1 : Int32) (σ : zS) : zW G dC dI A 48 ad (cfC ad cI cC cW) 2 false (bf_X4_passMinute_2 N rec2 j0 v1 σ) σ 2 [(0, .ref (ad (18 + j0))), (1, .int v1)] [] := by
  unfold bf_X4_passMinute_2
  refine zx_iload_n C 1 dX4_passMinute_2 rfl rfl ?_
  refine zx_aload_n C 0 dX4_passMinute_3 rfl rfl ?_
  refine zx_get C 4 (l_House (j := j0) hj0) (c_house (j := j0) hj0) rfl (by decide) inX4 q_160 rfl rfl dX4_passMinute_4 ?_
  refine zx_icmp_ge (tgt := 38) C dX4_passMinute_7 (by decide) (fun h_1 => ?_) (fun h_1 => ?_)
  · refine zx_aload_n C 0 dX4_passMinute_38 rfl rfl ?_
    refine zx_dup C dX4_passMinute_39 rfl ?_
    refine zx_get C 5 (l_House (j := j0) hj0) (c_house (j := j0) hj0) rfl (by decide) inX4 q_163 rfl rfl dX4_passMinute_40 ?_
    refine zx_iconst (v := 1) C dX4_passMinute_43 (by decide) ?_
    refine zx_iadd C dX4_passMinute_44 ?_
    refine zx_put (ty := .int) C 5 (l_House (j := j0) hj0) (c_house (j := j0) hj0) rfl (by decide) inX4 tyX4 tyX4_ok nmX4 q_163 rfl rfl (by decide +kernel) rfl rfl (Nat.le_of_ble_eq_true rfl) (by rw [c_house (j := j0) hj0, z_put_same]; rfl) dX4_passMinute_45 (fun t_2 => ?_)
    exact zx_vret C dX4_passMinute_48
  · refine zx_aload_n C 0 dX4_passMinute_10 rfl rfl ?_
    refine zx_get C 1 (l_House (j := j0) hj0) (c_house (j := j0) hj0) rfl (by decide) inX4 q_151 rfl rfl dX4_passMinute_11 ?_
    refine zx_iload_n C 1 dX4_passMinute_14 rfl rfl ?_
    refine zx_aald C 1 (l_cands (j := j0) hj0) (c_cands (j := j0) hj0) rfl dX4_passMinute_15 (fun h_3 => ?_)
    refine zx_callS (av := [.ref (ad (6 * j0 + v1.toNatClampNeg))]) (st := []) C yk_X4_isBurning q_489 q_490 (k_X4_isBurning C.hO N (6 * j0 + v1.toNatClampNeg) (cand_lt h_3 hj0) σ) (by decide) rfl rfl (Nat.le_of_ble_eq_true rfl) dX4_passMinute_16 (fun _ r_4 t_5 => ?_) (fun h9 => nomatch h9)
    refine zx_if_eq (tgt := 32) C dX4_passMinute_19 (by decide) (fun h_6 => ?_) (fun h_6 => ?_)
    · refine zx_iinc (v := (v1 + (1 : Int32))) (L1 := [(1, .int (v1 + (1 : Int32))), (0, .ref (ad (18 + j0)))]) C 1 dX4_passMinute_32 rfl rfl (by decide) rfl ?_
      refine zx_goto (tgt := 2) C dX4_passMinute_35 (by decide) ?_
      exact zx_sub (L1 := [(0, .ref (ad (18 + j0))), (1, .int (v1 + (1 : Int32)))]) [1, 0] rfl (hrec2 j0 hj0 (v1 + (1 : Int32)) t_5)
    · refine zx_aload_n C 0 dX4_passMinute_22 rfl rfl ?_
      refine zx_aload_n C 0 dX4_passMinute_23 rfl rfl ?_
      refine zx_get C 1 (l_House (j := j0) hj0) (c_house (j := j0) hj0) rfl (by decide) inX4 q_151 rfl rfl dX4_passMinute_24 ?_
      refine zx_iload_n C 1 dX4_passMinute_27 rfl rfl ?_
      refine zx_aald C 1 (l_cands (j := j0) hj0) (c_cands (j := j0) hj0) rfl dX4_passMinute_28 (fun h_7 => ?_)
      refine zx_callV (As := [.ref (ad (6 * j0 + v1.toNatClampNeg))]) (st := []) C yk_X4_burnMinute q_492 q_494 q_5 (l_House (j := j0) hj0) (c_house (j := j0) hj0) rfl (k_X4_burnMinute C.hO N j0 hj0 (6 * j0 + v1.toNatClampNeg) (cand_lt h_7 hj0) t_5) (by decide) rfl rfl (Nat.le_of_ble_eq_true rfl) dX4_passMinute_29 (fun h9 => nomatch h9) (fun _ r_8 t_9 => ?_)
      refine zx_iinc (v := (v1 + (1 : Int32))) (L1 := [(1, .int (v1 + (1 : Int32))), (0, .ref (ad (18 + j0)))]) C 1 dX4_passMinute_32 rfl rfl (by decide) rfl ?_
      refine zx_goto (tgt := 2) C dX4_passMinute_35 (by decide) ?_
      exact zx_sub (L1 := [(0, .ref (ad (18 + j0))), (1, .int (v1 + (1 : Int32)))]) [1, 0] rfl (hrec2 j0 hj0 (v1 + (1 : Int32)) t_9)
def lf_X4_passMinute_2 (N : Nat) : Nat → Nat → Int32 → zS → zA
  | 0, _, _, _ => none
  | n + 1, j0, v1, σ => bf_X4_passMinute_2 N (lf_X4_passMinute_2 N  n) j0 v1 σ
theorem l_X4_passMinute_2 {G : zG} {dC : Nat → ClassId} {dI : Nat → Nat → Nat} {A : Nat → Prop} {ad : Nat → Nat} {cI cC cW : ClassId} (C : zC G dC dI A 48 ad (cfC ad cI cC cW) (z_ty cI cC cW) cX4_passMinute RX4 2 5 none) (N : Nat) : ∀ (n : Nat) (j0 : Nat) (hj0 : j0 < 3) (v1 : Int32) (σ : zS), zW G dC dI A 48 ad (cfC ad cI cC cW) 2 false (lf_X4_passMinute_2 N  n j0 v1 σ) σ 2 [(0, .ref (ad (18 + j0))), (1, .int v1)] [] := by
  intro n
  induction n with
  | zero => intro j0 hj0 v1 σ; exact zx_none
  | succ n ih => intro j0 hj0 v1 σ; exact b_X4_passMinute_2 C N (lf_X4_passMinute_2 N  n) ih j0 hj0 v1 σ
def f_X4_passMinute (N : Nat) (j0 : Nat) (σ : zS) : zA := (lf_X4_passMinute_2 N N j0 (0 : Int32) σ)
set_option maxHeartbeats 4000000 in
set_option maxRecDepth 100000 in
theorem k_X4_passMinute {l : Launch} {dC : Nat → ClassId} {dI : Nat → Nat → Nat} {A : Nat → Prop} {ad : Nat → Nat} {cI cC cW : ClassId} (hO : zO A 48 ad (cfC ad cI cC cW)) (N : Nat) (j0 : Nat) (hj0 : j0 < 3) (σ : zS) : zM l dC dI A 48 ad (cfC ad cI cC cW) (z_ty cI cC cW) false yX4_passMinute cX4_passMinute 2 none 5 [.ref (ad (18 + j0))] σ (f_X4_passMinute N j0 σ) := by
  refine zM_of hO (by decide) (Nat.le_of_ble_eq_true rfl) (fun G hG C => ?_)
  subst hG
  unfold f_X4_passMinute
  refine zx_sub (L1 := [(0, .ref (ad (18 + j0)))]) [0] rfl ?_
  refine zx_iconst (v := 0) C dX4_passMinute_0 (by decide) ?_
  refine zx_istore_n (L1 := [(1, .int (0 : Int32)), (0, .ref (ad (18 + j0)))]) C dX4_passMinute_1 rfl (by decide) rfl ?_
  exact zx_sub (L1 := [(0, .ref (ad (18 + j0))), (1, .int (0 : Int32))]) [1, 0] rfl (l_X4_passMinute_2 C N N j0 hj0 (0 : Int32) σ)
def bf_X4_isBright_2 (N : Nat) (rec2 : Nat → Int32 → Int32 → zS → zA) (j0 : Nat) (v1 : Int32) (v2 : Int32) (σ : zS) : zA := (if (σ (18 + j0) 4) ≤ v2 then some ((0 : Int32), σ) else z_g (z_in v2 6) ((if (σ (6 * j0 + v2.toNatClampNeg) 4) = v1 then z_g (z_in v2 6) (z_b (f_X4_isBurning N (6 * j0 + v2.toNatClampNeg) σ) (fun r_5 t_6 => (if r_5 = (0 : Int32) then (rec2 j0 v1 (v2 + (1 : Int32)) t_6) else some ((1 : Int32), t_6)))) else (rec2 j0 v1 (v2 + (1 : Int32)) σ))))
set_option maxHeartbeats 4000000 in
set_option maxRecDepth 100000 in
theorem b_X4_isBright_2 {G : zG} {dC : Nat → ClassId} {dI : Nat → Nat → Nat} {A : Nat → Prop} {ad : Nat → Nat} {cI cC cW : ClassId} (C : zC G dC dI A 48 ad (cfC ad cI cC cW) (z_ty cI cC cW) cX4_isBright RX4 3 1 (some .boolean)) (N : Nat) (rec2 : Nat → Int32 → Int32 → zS → zA) (hrec2 : ∀ (j0 : Nat) (hj0 : j0 < 3) (v1 : Int32) (v2 : Int32) (σ : zS), zW G dC dI A 48 ad (cfC ad cI cC cW) 3 true (rec2 j0 v1 v2 σ) σ 2 [(0, .ref (ad (18 + j0))), (1, .int v1), (2, .int v2)] []) (j0 : Nat) (hj0 : j0 < 3) (v1 : Int32) (v2 : Int32) (σ : zS) : zW G dC dI A 48 ad (cfC ad cI cC cW) 3 true (bf_X4_isBright_2 N rec2 j0 v1 v2 σ) σ 2 [(0, .ref (ad (18 + j0))), (1, .int v1), (2, .int v2)] [] := by
  unfold bf_X4_isBright_2
  refine zx_iload_n C 2 dX4_isBright_2 rfl rfl ?_
  refine zx_aload_n C 0 dX4_isBright_3 rfl rfl ?_
  refine zx_get C 4 (l_House (j := j0) hj0) (c_house (j := j0) hj0) rfl (by decide) inX4 q_160 rfl rfl dX4_isBright_4 ?_
  refine zx_icmp_ge (tgt := 43) C dX4_isBright_7 (by decide) (fun h_1 => ?_) (fun h_1 => ?_)
  · refine zx_iconst (v := 0) C dX4_isBright_43 (by decide) ?_
    exact zx_zret C (by decide) dX4_isBright_44
  · refine zx_aload_n C 0 dX4_isBright_10 rfl rfl ?_
    refine zx_get C 1 (l_House (j := j0) hj0) (c_house (j := j0) hj0) rfl (by decide) inX4 q_151 rfl rfl dX4_isBright_11 ?_
    refine zx_iload_n C 2 dX4_isBright_14 rfl rfl ?_
    refine zx_aald C 1 (l_cands (j := j0) hj0) (c_cands (j := j0) hj0) rfl dX4_isBright_15 (fun h_2 => ?_)
    refine zx_get C 4 (l_cand (c := (6 * j0 + v2.toNatClampNeg)) (cand_lt h_2 hj0)) (c_cand (c := (6 * j0 + v2.toNatClampNeg)) (cand_lt h_2 hj0)) rfl (by decide) inX1 q_131 rfl rfl dX4_isBright_16 ?_
    refine zx_iload_n C 1 dX4_isBright_19 rfl rfl ?_
    refine zx_icmp_ne (tgt := 37) C dX4_isBright_20 (by decide) (fun h_3 => ?_) (fun h_3 => ?_)
    · refine zx_iinc (v := (v2 + (1 : Int32))) (L1 := [(2, .int (v2 + (1 : Int32))), (0, .ref (ad (18 + j0))), (1, .int v1)]) C 2 dX4_isBright_37 rfl rfl (by decide) rfl ?_
      refine zx_goto (tgt := 2) C dX4_isBright_40 (by decide) ?_
      exact zx_sub (L1 := [(0, .ref (ad (18 + j0))), (1, .int v1), (2, .int (v2 + (1 : Int32)))]) [1, 2, 0] rfl (hrec2 j0 hj0 v1 (v2 + (1 : Int32)) σ)
    · refine zx_aload_n C 0 dX4_isBright_23 rfl rfl ?_
      refine zx_get C 1 (l_House (j := j0) hj0) (c_house (j := j0) hj0) rfl (by decide) inX4 q_151 rfl rfl dX4_isBright_24 ?_
      refine zx_iload_n C 2 dX4_isBright_27 rfl rfl ?_
      refine zx_aald C 1 (l_cands (j := j0) hj0) (c_cands (j := j0) hj0) rfl dX4_isBright_28 (fun h_4 => ?_)
      refine zx_callS (av := [.ref (ad (6 * j0 + v2.toNatClampNeg))]) (st := []) C yk_X4_isBurning q_489 q_490 (k_X4_isBurning C.hO N (6 * j0 + v2.toNatClampNeg) (cand_lt h_4 hj0) σ) (by decide) rfl rfl (Nat.le_of_ble_eq_true rfl) dX4_isBright_29 (fun _ r_5 t_6 => ?_) (fun h9 => nomatch h9)
      refine zx_if_eq (tgt := 37) C dX4_isBright_32 (by decide) (fun h_7 => ?_) (fun h_7 => ?_)
      · refine zx_iinc (v := (v2 + (1 : Int32))) (L1 := [(2, .int (v2 + (1 : Int32))), (0, .ref (ad (18 + j0))), (1, .int v1)]) C 2 dX4_isBright_37 rfl rfl (by decide) rfl ?_
        refine zx_goto (tgt := 2) C dX4_isBright_40 (by decide) ?_
        exact zx_sub (L1 := [(0, .ref (ad (18 + j0))), (1, .int v1), (2, .int (v2 + (1 : Int32)))]) [1, 2, 0] rfl (hrec2 j0 hj0 v1 (v2 + (1 : Int32)) t_6)
      · refine zx_iconst (v := 1) C dX4_isBright_35 (by decide) ?_
        exact zx_zret C (by decide) dX4_isBright_36
def lf_X4_isBright_2 (N : Nat) : Nat → Nat → Int32 → Int32 → zS → zA
  | 0, _, _, _, _ => none
  | n + 1, j0, v1, v2, σ => bf_X4_isBright_2 N (lf_X4_isBright_2 N  n) j0 v1 v2 σ
theorem l_X4_isBright_2 {G : zG} {dC : Nat → ClassId} {dI : Nat → Nat → Nat} {A : Nat → Prop} {ad : Nat → Nat} {cI cC cW : ClassId} (C : zC G dC dI A 48 ad (cfC ad cI cC cW) (z_ty cI cC cW) cX4_isBright RX4 3 1 (some .boolean)) (N : Nat) : ∀ (n : Nat) (j0 : Nat) (hj0 : j0 < 3) (v1 : Int32) (v2 : Int32) (σ : zS), zW G dC dI A 48 ad (cfC ad cI cC cW) 3 true (lf_X4_isBright_2 N  n j0 v1 v2 σ) σ 2 [(0, .ref (ad (18 + j0))), (1, .int v1), (2, .int v2)] [] := by
  intro n
  induction n with
  | zero => intro j0 hj0 v1 v2 σ; exact zx_none
  | succ n ih => intro j0 hj0 v1 v2 σ; exact b_X4_isBright_2 C N (lf_X4_isBright_2 N  n) ih j0 hj0 v1 v2 σ
def f_X4_isBright (N : Nat) (j0 : Nat) (v1 : Int32) (σ : zS) : zA := (lf_X4_isBright_2 N N j0 v1 (0 : Int32) σ)
set_option maxHeartbeats 4000000 in
set_option maxRecDepth 100000 in
theorem k_X4_isBright {l : Launch} {dC : Nat → ClassId} {dI : Nat → Nat → Nat} {A : Nat → Prop} {ad : Nat → Nat} {cI cC cW : ClassId} (hO : zO A 48 ad (cfC ad cI cC cW)) (N : Nat) (j0 : Nat) (hj0 : j0 < 3) (v1 : Int32) (σ : zS) : zM l dC dI A 48 ad (cfC ad cI cC cW) (z_ty cI cC cW) true yX4_isBright cX4_isBright 3 (some .boolean) 1 [.ref (ad (18 + j0)), .int v1] σ (f_X4_isBright N j0 v1 σ) := by
  refine zM_of hO (by decide) (Nat.le_of_ble_eq_true rfl) (fun G hG C => ?_)
  subst hG
  unfold f_X4_isBright
  refine zx_sub (L1 := [(0, .ref (ad (18 + j0))), (1, .int v1)]) [0, 1] rfl ?_
  refine zx_iconst (v := 0) C dX4_isBright_0 (by decide) ?_
  refine zx_istore_n (L1 := [(2, .int (0 : Int32)), (0, .ref (ad (18 + j0))), (1, .int v1)]) C dX4_isBright_1 rfl (by decide) rfl ?_
  exact zx_sub (L1 := [(0, .ref (ad (18 + j0))), (1, .int v1), (2, .int (0 : Int32))]) [1, 2, 0] rfl (l_X4_isBright_2 C N N j0 hj0 v1 (0 : Int32) σ)
def bf_X4_litCandles_4 (N : Nat) (rec4 : Nat → Int32 → Int32 → zS → zA) (j0 : Nat) (v1 : Int32) (v2 : Int32) (σ : zS) : zA := (if (σ (18 + j0) 4) ≤ v2 then some (v1, σ) else z_g (z_in v2 6) ((if (σ (6 * j0 + v2.toNatClampNeg) 5) = (0 : Int32) then z_n (v1 + (0 : Int32)) (fun z_4 => (rec4 j0 z_4 (v2 + (1 : Int32)) σ)) else z_n (v1 + (1 : Int32)) (fun z_5 => (rec4 j0 z_5 (v2 + (1 : Int32)) σ)))))
set_option maxHeartbeats 4000000 in
set_option maxRecDepth 100000 in
theorem b_X4_litCandles_4 {G : zG} {dC : Nat → ClassId} {dI : Nat → Nat → Nat} {A : Nat → Prop} {ad : Nat → Nat} {cI cC cW : ClassId} (C : zC G dC dI A 48 ad (cfC ad cI cC cW) (z_ty cI cC cW) cX4_litCandles RX4 3 0 (some .int)) (N : Nat) (rec4 : Nat → Int32 → Int32 → zS → zA) (hrec4 : ∀ (j0 : Nat) (hj0 : j0 < 3) (v1 : Int32) (v2 : Int32) (σ : zS), zW G dC dI A 48 ad (cfC ad cI cC cW) 3 true (rec4 j0 v1 v2 σ) σ 4 [(0, .ref (ad (18 + j0))), (1, .int v1), (2, .int v2)] []) (j0 : Nat) (hj0 : j0 < 3) (v1 : Int32) (v2 : Int32) (σ : zS) : zW G dC dI A 48 ad (cfC ad cI cC cW) 3 true (bf_X4_litCandles_4 N rec4 j0 v1 v2 σ) σ 4 [(0, .ref (ad (18 + j0))), (1, .int v1), (2, .int v2)] [] := by
  unfold bf_X4_litCandles_4
  refine zx_iload_n C 2 dX4_litCandles_4 rfl rfl ?_
  refine zx_aload_n C 0 dX4_litCandles_5 rfl rfl ?_
  refine zx_get C 4 (l_House (j := j0) hj0) (c_house (j := j0) hj0) rfl (by decide) inX4 q_160 rfl rfl dX4_litCandles_6 ?_
  refine zx_icmp_ge (tgt := 38) C dX4_litCandles_9 (by decide) (fun h_1 => ?_) (fun h_1 => ?_)
  · refine zx_iload_n C 1 dX4_litCandles_38 rfl rfl ?_
    exact zx_iret C dX4_litCandles_39
  · refine zx_iload_n C 1 dX4_litCandles_12 rfl rfl ?_
    refine zx_aload_n C 0 dX4_litCandles_13 rfl rfl ?_
    refine zx_get C 1 (l_House (j := j0) hj0) (c_house (j := j0) hj0) rfl (by decide) inX4 q_151 rfl rfl dX4_litCandles_14 ?_
    refine zx_iload_n C 2 dX4_litCandles_17 rfl rfl ?_
    refine zx_aald C 1 (l_cands (j := j0) hj0) (c_cands (j := j0) hj0) rfl dX4_litCandles_18 (fun h_2 => ?_)
    refine zx_get C 5 (l_cand (c := (6 * j0 + v2.toNatClampNeg)) (cand_lt h_2 hj0)) (c_cand (c := (6 * j0 + v2.toNatClampNeg)) (cand_lt h_2 hj0)) rfl (by decide) inX1 q_135 rfl rfl dX4_litCandles_19 ?_
    refine zx_if_eq (tgt := 29) C dX4_litCandles_22 (by decide) (fun h_3 => ?_) (fun h_3 => ?_)
    · refine zx_iconst (v := 0) C dX4_litCandles_29 (by decide) ?_
      refine zx_iadd C dX4_litCandles_30 ?_
      refine zx_n (fun z_4 => ?_)
      refine zx_istore_n (L1 := [(1, .int z_4), (0, .ref (ad (18 + j0))), (2, .int v2)]) C dX4_litCandles_31 rfl (by decide) rfl ?_
      refine zx_iinc (v := (v2 + (1 : Int32))) (L1 := [(2, .int (v2 + (1 : Int32))), (1, .int z_4), (0, .ref (ad (18 + j0)))]) C 2 dX4_litCandles_32 rfl rfl (by decide) rfl ?_
      refine zx_goto (tgt := 4) C dX4_litCandles_35 (by decide) ?_
      exact zx_sub (L1 := [(0, .ref (ad (18 + j0))), (1, .int z_4), (2, .int (v2 + (1 : Int32)))]) [2, 1, 0] rfl (hrec4 j0 hj0 z_4 (v2 + (1 : Int32)) σ)
    · refine zx_iconst (v := 1) C dX4_litCandles_25 (by decide) ?_
      refine zx_goto (tgt := 30) C dX4_litCandles_26 (by decide) ?_
      refine zx_iadd C dX4_litCandles_30 ?_
      refine zx_n (fun z_5 => ?_)
      refine zx_istore_n (L1 := [(1, .int z_5), (0, .ref (ad (18 + j0))), (2, .int v2)]) C dX4_litCandles_31 rfl (by decide) rfl ?_
      refine zx_iinc (v := (v2 + (1 : Int32))) (L1 := [(2, .int (v2 + (1 : Int32))), (1, .int z_5), (0, .ref (ad (18 + j0)))]) C 2 dX4_litCandles_32 rfl rfl (by decide) rfl ?_
      refine zx_goto (tgt := 4) C dX4_litCandles_35 (by decide) ?_
      exact zx_sub (L1 := [(0, .ref (ad (18 + j0))), (1, .int z_5), (2, .int (v2 + (1 : Int32)))]) [2, 1, 0] rfl (hrec4 j0 hj0 z_5 (v2 + (1 : Int32)) σ)
def lf_X4_litCandles_4 (N : Nat) : Nat → Nat → Int32 → Int32 → zS → zA
  | 0, _, _, _, _ => none
  | n + 1, j0, v1, v2, σ => bf_X4_litCandles_4 N (lf_X4_litCandles_4 N  n) j0 v1 v2 σ
theorem l_X4_litCandles_4 {G : zG} {dC : Nat → ClassId} {dI : Nat → Nat → Nat} {A : Nat → Prop} {ad : Nat → Nat} {cI cC cW : ClassId} (C : zC G dC dI A 48 ad (cfC ad cI cC cW) (z_ty cI cC cW) cX4_litCandles RX4 3 0 (some .int)) (N : Nat) : ∀ (n : Nat) (j0 : Nat) (hj0 : j0 < 3) (v1 : Int32) (v2 : Int32) (σ : zS), zW G dC dI A 48 ad (cfC ad cI cC cW) 3 true (lf_X4_litCandles_4 N  n j0 v1 v2 σ) σ 4 [(0, .ref (ad (18 + j0))), (1, .int v1), (2, .int v2)] [] := by
  intro n
  induction n with
  | zero => intro j0 hj0 v1 v2 σ; exact zx_none
  | succ n ih => intro j0 hj0 v1 v2 σ; exact b_X4_litCandles_4 C N (lf_X4_litCandles_4 N  n) ih j0 hj0 v1 v2 σ
def f_X4_litCandles (N : Nat) (j0 : Nat) (σ : zS) : zA := (lf_X4_litCandles_4 N N j0 (0 : Int32) (0 : Int32) σ)
set_option maxHeartbeats 4000000 in
set_option maxRecDepth 100000 in
theorem k_X4_litCandles {l : Launch} {dC : Nat → ClassId} {dI : Nat → Nat → Nat} {A : Nat → Prop} {ad : Nat → Nat} {cI cC cW : ClassId} (hO : zO A 48 ad (cfC ad cI cC cW)) (N : Nat) (j0 : Nat) (hj0 : j0 < 3) (σ : zS) : zM l dC dI A 48 ad (cfC ad cI cC cW) (z_ty cI cC cW) true yX4_litCandles cX4_litCandles 3 (some .int) 0 [.ref (ad (18 + j0))] σ (f_X4_litCandles N j0 σ) := by
  refine zM_of hO (by decide) (Nat.le_of_ble_eq_true rfl) (fun G hG C => ?_)
  subst hG
  unfold f_X4_litCandles
  refine zx_sub (L1 := [(0, .ref (ad (18 + j0)))]) [0] rfl ?_
  refine zx_iconst (v := 0) C dX4_litCandles_0 (by decide) ?_
  refine zx_istore_n (L1 := [(1, .int (0 : Int32)), (0, .ref (ad (18 + j0)))]) C dX4_litCandles_1 rfl (by decide) rfl ?_
  refine zx_iconst (v := 0) C dX4_litCandles_2 (by decide) ?_
  refine zx_istore_n (L1 := [(2, .int (0 : Int32)), (1, .int (0 : Int32)), (0, .ref (ad (18 + j0)))]) C dX4_litCandles_3 rfl (by decide) rfl ?_
  exact zx_sub (L1 := [(0, .ref (ad (18 + j0))), (1, .int (0 : Int32)), (2, .int (0 : Int32))]) [2, 1, 0] rfl (l_X4_litCandles_4 C N N j0 hj0 (0 : Int32) (0 : Int32) σ)
def bf_X4_allGrains_4 (N : Nat) (rec4 : Nat → Int32 → Int32 → zS → zA) (j0 : Nat) (v1 : Int32) (v2 : Int32) (σ : zS) : zA := (if (σ (18 + j0) 4) ≤ v2 then some (v1, σ) else z_g (z_in v2 6) (z_n (v1 + (σ (6 * j0 + v2.toNatClampNeg) 2)) (fun z_3 => (rec4 j0 z_3 (v2 + (1 : Int32)) σ))))
set_option maxHeartbeats 4000000 in
set_option maxRecDepth 100000 in
theorem b_X4_allGrains_4 {G : zG} {dC : Nat → ClassId} {dI : Nat → Nat → Nat} {A : Nat → Prop} {ad : Nat → Nat} {cI cC cW : ClassId} (C : zC G dC dI A 48 ad (cfC ad cI cC cW) (z_ty cI cC cW) cX4_allGrains RX4 3 0 (some .int)) (N : Nat) (rec4 : Nat → Int32 → Int32 → zS → zA) (hrec4 : ∀ (j0 : Nat) (hj0 : j0 < 3) (v1 : Int32) (v2 : Int32) (σ : zS), zW G dC dI A 48 ad (cfC ad cI cC cW) 3 true (rec4 j0 v1 v2 σ) σ 4 [(0, .ref (ad (18 + j0))), (1, .int v1), (2, .int v2)] []) (j0 : Nat) (hj0 : j0 < 3) (v1 : Int32) (v2 : Int32) (σ : zS) : zW G dC dI A 48 ad (cfC ad cI cC cW) 3 true (bf_X4_allGrains_4 N rec4 j0 v1 v2 σ) σ 4 [(0, .ref (ad (18 + j0))), (1, .int v1), (2, .int v2)] [] := by
  unfold bf_X4_allGrains_4
  refine zx_iload_n C 2 dX4_allGrains_4 rfl rfl ?_
  refine zx_aload_n C 0 dX4_allGrains_5 rfl rfl ?_
  refine zx_get C 4 (l_House (j := j0) hj0) (c_house (j := j0) hj0) rfl (by decide) inX4 q_160 rfl rfl dX4_allGrains_6 ?_
  refine zx_icmp_ge (tgt := 30) C dX4_allGrains_9 (by decide) (fun h_1 => ?_) (fun h_1 => ?_)
  · refine zx_iload_n C 1 dX4_allGrains_30 rfl rfl ?_
    exact zx_iret C dX4_allGrains_31
  · refine zx_iload_n C 1 dX4_allGrains_12 rfl rfl ?_
    refine zx_aload_n C 0 dX4_allGrains_13 rfl rfl ?_
    refine zx_get C 1 (l_House (j := j0) hj0) (c_house (j := j0) hj0) rfl (by decide) inX4 q_151 rfl rfl dX4_allGrains_14 ?_
    refine zx_iload_n C 2 dX4_allGrains_17 rfl rfl ?_
    refine zx_aald C 1 (l_cands (j := j0) hj0) (c_cands (j := j0) hj0) rfl dX4_allGrains_18 (fun h_2 => ?_)
    refine zx_get C 2 (l_cand (c := (6 * j0 + v2.toNatClampNeg)) (cand_lt h_2 hj0)) (c_cand (c := (6 * j0 + v2.toNatClampNeg)) (cand_lt h_2 hj0)) rfl (by decide) inX1 q_123 rfl rfl dX4_allGrains_19 ?_
    refine zx_iadd C dX4_allGrains_22 ?_
    refine zx_n (fun z_3 => ?_)
    refine zx_istore_n (L1 := [(1, .int z_3), (0, .ref (ad (18 + j0))), (2, .int v2)]) C dX4_allGrains_23 rfl (by decide) rfl ?_
    refine zx_iinc (v := (v2 + (1 : Int32))) (L1 := [(2, .int (v2 + (1 : Int32))), (1, .int z_3), (0, .ref (ad (18 + j0)))]) C 2 dX4_allGrains_24 rfl rfl (by decide) rfl ?_
    refine zx_goto (tgt := 4) C dX4_allGrains_27 (by decide) ?_
    exact zx_sub (L1 := [(0, .ref (ad (18 + j0))), (1, .int z_3), (2, .int (v2 + (1 : Int32)))]) [2, 1, 0] rfl (hrec4 j0 hj0 z_3 (v2 + (1 : Int32)) σ)
def lf_X4_allGrains_4 (N : Nat) : Nat → Nat → Int32 → Int32 → zS → zA
  | 0, _, _, _, _ => none
  | n + 1, j0, v1, v2, σ => bf_X4_allGrains_4 N (lf_X4_allGrains_4 N  n) j0 v1 v2 σ
theorem l_X4_allGrains_4 {G : zG} {dC : Nat → ClassId} {dI : Nat → Nat → Nat} {A : Nat → Prop} {ad : Nat → Nat} {cI cC cW : ClassId} (C : zC G dC dI A 48 ad (cfC ad cI cC cW) (z_ty cI cC cW) cX4_allGrains RX4 3 0 (some .int)) (N : Nat) : ∀ (n : Nat) (j0 : Nat) (hj0 : j0 < 3) (v1 : Int32) (v2 : Int32) (σ : zS), zW G dC dI A 48 ad (cfC ad cI cC cW) 3 true (lf_X4_allGrains_4 N  n j0 v1 v2 σ) σ 4 [(0, .ref (ad (18 + j0))), (1, .int v1), (2, .int v2)] [] := by
  intro n
  induction n with
  | zero => intro j0 hj0 v1 v2 σ; exact zx_none
  | succ n ih => intro j0 hj0 v1 v2 σ; exact b_X4_allGrains_4 C N (lf_X4_allGrains_4 N  n) ih j0 hj0 v1 v2 σ
def f_X4_allGrains (N : Nat) (j0 : Nat) (σ : zS) : zA := (lf_X4_allGrains_4 N N j0 (0 : Int32) (0 : Int32) σ)
set_option maxHeartbeats 4000000 in
set_option maxRecDepth 100000 in
theorem k_X4_allGrains {l : Launch} {dC : Nat → ClassId} {dI : Nat → Nat → Nat} {A : Nat → Prop} {ad : Nat → Nat} {cI cC cW : ClassId} (hO : zO A 48 ad (cfC ad cI cC cW)) (N : Nat) (j0 : Nat) (hj0 : j0 < 3) (σ : zS) : zM l dC dI A 48 ad (cfC ad cI cC cW) (z_ty cI cC cW) true yX4_allGrains cX4_allGrains 3 (some .int) 0 [.ref (ad (18 + j0))] σ (f_X4_allGrains N j0 σ) := by
  refine zM_of hO (by decide) (Nat.le_of_ble_eq_true rfl) (fun G hG C => ?_)
  subst hG
  unfold f_X4_allGrains
  refine zx_sub (L1 := [(0, .ref (ad (18 + j0)))]) [0] rfl ?_
  refine zx_iconst (v := 0) C dX4_allGrains_0 (by decide) ?_
  refine zx_istore_n (L1 := [(1, .int (0 : Int32)), (0, .ref (ad (18 + j0)))]) C dX4_allGrains_1 rfl (by decide) rfl ?_
  refine zx_iconst (v := 0) C dX4_allGrains_2 (by decide) ?_
  refine zx_istore_n (L1 := [(2, .int (0 : Int32)), (1, .int (0 : Int32)), (0, .ref (ad (18 + j0)))]) C dX4_allGrains_3 rfl (by decide) rfl ?_
  exact zx_sub (L1 := [(0, .ref (ad (18 + j0))), (1, .int (0 : Int32)), (2, .int (0 : Int32))]) [2, 1, 0] rfl (l_X4_allGrains_4 C N N j0 hj0 (0 : Int32) (0 : Int32) σ)
def bf_X4_allDebts_4 (N : Nat) (rec4 : Nat → Int32 → Int32 → zS → zA) (j0 : Nat) (v1 : Int32) (v2 : Int32) (σ : zS) : zA := (if (16 : Int32) ≤ v2 then some (v1, σ) else z_g (z_in v2 16) (z_n (v1 + (σ (27 + j0) v2.toNatClampNeg)) (fun z_2 => (rec4 j0 z_2 (v2 + (1 : Int32)) σ))))
set_option maxHeartbeats 4000000 in
set_option maxRecDepth 100000 in
theorem b_X4_allDebts_4 {G : zG} {dC : Nat → ClassId} {dI : Nat → Nat → Nat} {A : Nat → Prop} {ad : Nat → Nat} {cI cC cW : ClassId} (C : zC G dC dI A 48 ad (cfC ad cI cC cW) (z_ty cI cC cW) cX4_allDebts RX4 3 0 (some .int)) (N : Nat) (rec4 : Nat → Int32 → Int32 → zS → zA) (hrec4 : ∀ (j0 : Nat) (hj0 : j0 < 3) (v1 : Int32) (v2 : Int32) (σ : zS), zW G dC dI A 48 ad (cfC ad cI cC cW) 3 true (rec4 j0 v1 v2 σ) σ 4 [(0, .ref (ad (18 + j0))), (1, .int v1), (2, .int v2)] []) (j0 : Nat) (hj0 : j0 < 3) (v1 : Int32) (v2 : Int32) (σ : zS) : zW G dC dI A 48 ad (cfC ad cI cC cW) 3 true (bf_X4_allDebts_4 N rec4 j0 v1 v2 σ) σ 4 [(0, .ref (ad (18 + j0))), (1, .int v1), (2, .int v2)] [] := by
  unfold bf_X4_allDebts_4
  refine zx_iload_n C 2 dX4_allDebts_4 rfl rfl ?_
  refine zx_aload_n C 0 dX4_allDebts_5 rfl rfl ?_
  refine zx_get C 3 (l_House (j := j0) hj0) (c_house (j := j0) hj0) rfl (by decide) inX4 q_157 rfl rfl dX4_allDebts_6 ?_
  refine zx_alen (v := (16 : Int32)) C 0 (l_deb (j := j0) hj0) (c_deb (j := j0) hj0 _) rfl rfl dX4_allDebts_9 ?_
  refine zx_icmp_ge (tgt := 28) C dX4_allDebts_10 (by decide) (fun h_1 => ?_) (fun h_1 => ?_)
  · refine zx_iload_n C 1 dX4_allDebts_28 rfl rfl ?_
    exact zx_iret C dX4_allDebts_29
  · refine zx_iload_n C 1 dX4_allDebts_13 rfl rfl ?_
    refine zx_aload_n C 0 dX4_allDebts_14 rfl rfl ?_
    refine zx_get C 3 (l_House (j := j0) hj0) (c_house (j := j0) hj0) rfl (by decide) inX4 q_157 rfl rfl dX4_allDebts_15 ?_
    refine zx_iload_n C 2 dX4_allDebts_18 rfl rfl ?_
    refine zx_iald C 0 (l_deb (j := j0) hj0) (c_deb (j := j0) hj0 _) rfl dX4_allDebts_19 ?_
    refine zx_iadd C dX4_allDebts_20 ?_
    refine zx_n (fun z_2 => ?_)
    refine zx_istore_n (L1 := [(1, .int z_2), (0, .ref (ad (18 + j0))), (2, .int v2)]) C dX4_allDebts_21 rfl (by decide) rfl ?_
    refine zx_iinc (v := (v2 + (1 : Int32))) (L1 := [(2, .int (v2 + (1 : Int32))), (1, .int z_2), (0, .ref (ad (18 + j0)))]) C 2 dX4_allDebts_22 rfl rfl (by decide) rfl ?_
    refine zx_goto (tgt := 4) C dX4_allDebts_25 (by decide) ?_
    exact zx_sub (L1 := [(0, .ref (ad (18 + j0))), (1, .int z_2), (2, .int (v2 + (1 : Int32)))]) [2, 1, 0] rfl (hrec4 j0 hj0 z_2 (v2 + (1 : Int32)) σ)
def lf_X4_allDebts_4 (N : Nat) : Nat → Nat → Int32 → Int32 → zS → zA
  | 0, _, _, _, _ => none
  | n + 1, j0, v1, v2, σ => bf_X4_allDebts_4 N (lf_X4_allDebts_4 N  n) j0 v1 v2 σ
theorem l_X4_allDebts_4 {G : zG} {dC : Nat → ClassId} {dI : Nat → Nat → Nat} {A : Nat → Prop} {ad : Nat → Nat} {cI cC cW : ClassId} (C : zC G dC dI A 48 ad (cfC ad cI cC cW) (z_ty cI cC cW) cX4_allDebts RX4 3 0 (some .int)) (N : Nat) : ∀ (n : Nat) (j0 : Nat) (hj0 : j0 < 3) (v1 : Int32) (v2 : Int32) (σ : zS), zW G dC dI A 48 ad (cfC ad cI cC cW) 3 true (lf_X4_allDebts_4 N  n j0 v1 v2 σ) σ 4 [(0, .ref (ad (18 + j0))), (1, .int v1), (2, .int v2)] [] := by
  intro n
  induction n with
  | zero => intro j0 hj0 v1 v2 σ; exact zx_none
  | succ n ih => intro j0 hj0 v1 v2 σ; exact b_X4_allDebts_4 C N (lf_X4_allDebts_4 N  n) ih j0 hj0 v1 v2 σ
def f_X4_allDebts (N : Nat) (j0 : Nat) (σ : zS) : zA := (lf_X4_allDebts_4 N N j0 (0 : Int32) (0 : Int32) σ)
set_option maxHeartbeats 4000000 in
set_option maxRecDepth 100000 in
theorem k_X4_allDebts {l : Launch} {dC : Nat → ClassId} {dI : Nat → Nat → Nat} {A : Nat → Prop} {ad : Nat → Nat} {cI cC cW : ClassId} (hO : zO A 48 ad (cfC ad cI cC cW)) (N : Nat) (j0 : Nat) (hj0 : j0 < 3) (σ : zS) : zM l dC dI A 48 ad (cfC ad cI cC cW) (z_ty cI cC cW) true yX4_allDebts cX4_allDebts 3 (some .int) 0 [.ref (ad (18 + j0))] σ (f_X4_allDebts N j0 σ) := by
  refine zM_of hO (by decide) (Nat.le_of_ble_eq_true rfl) (fun G hG C => ?_)
  subst hG
  unfold f_X4_allDebts
  refine zx_sub (L1 := [(0, .ref (ad (18 + j0)))]) [0] rfl ?_
  refine zx_iconst (v := 0) C dX4_allDebts_0 (by decide) ?_
  refine zx_istore_n (L1 := [(1, .int (0 : Int32)), (0, .ref (ad (18 + j0)))]) C dX4_allDebts_1 rfl (by decide) rfl ?_
  refine zx_iconst (v := 0) C dX4_allDebts_2 (by decide) ?_
  refine zx_istore_n (L1 := [(2, .int (0 : Int32)), (1, .int (0 : Int32)), (0, .ref (ad (18 + j0)))]) C dX4_allDebts_3 rfl (by decide) rfl ?_
  exact zx_sub (L1 := [(0, .ref (ad (18 + j0))), (1, .int (0 : Int32)), (2, .int (0 : Int32))]) [2, 1, 0] rfl (l_X4_allDebts_4 C N N j0 hj0 (0 : Int32) (0 : Int32) σ)
def bf_X4_owedTo_4 (N : Nat) (rec4 : Nat → Int32 → Int32 → Int32 → zS → zA) (j0 : Nat) (v1 : Int32) (v2 : Int32) (v3 : Int32) (σ : zS) : zA := (if (4 : Int32) ≤ v3 then some (v2, σ) else z_b (f_X10_pair N v3 v1 σ) (fun r_2 t_3 => z_g (z_in r_2 16) (z_n (v2 + (t_3 (27 + j0) r_2.toNatClampNeg)) (fun z_4 => (rec4 j0 v1 z_4 (v3 + (1 : Int32)) t_3)))))
set_option maxHeartbeats 4000000 in
set_option maxRecDepth 100000 in
theorem b_X4_owedTo_4 {G : zG} {dC : Nat → ClassId} {dI : Nat → Nat → Nat} {A : Nat → Prop} {ad : Nat → Nat} {cI cC cW : ClassId} (C : zC G dC dI A 48 ad (cfC ad cI cC cW) (z_ty cI cC cW) cX4_owedTo RX4 4 1 (some .int)) (N : Nat) (rec4 : Nat → Int32 → Int32 → Int32 → zS → zA) (hrec4 : ∀ (j0 : Nat) (hj0 : j0 < 3) (v1 : Int32) (v2 : Int32) (v3 : Int32) (σ : zS), zW G dC dI A 48 ad (cfC ad cI cC cW) 4 true (rec4 j0 v1 v2 v3 σ) σ 4 [(0, .ref (ad (18 + j0))), (1, .int v1), (2, .int v2), (3, .int v3)] []) (j0 : Nat) (hj0 : j0 < 3) (v1 : Int32) (v2 : Int32) (v3 : Int32) (σ : zS) : zW G dC dI A 48 ad (cfC ad cI cC cW) 4 true (bf_X4_owedTo_4 N rec4 j0 v1 v2 v3 σ) σ 4 [(0, .ref (ad (18 + j0))), (1, .int v1), (2, .int v2), (3, .int v3)] [] := by
  unfold bf_X4_owedTo_4
  refine zx_iload_n C 3 dX4_owedTo_4 rfl rfl ?_
  refine zx_iconst (v := 4) C dX4_owedTo_5 (by decide) ?_
  refine zx_icmp_ge (tgt := 28) C dX4_owedTo_6 (by decide) (fun h_1 => ?_) (fun h_1 => ?_)
  · refine zx_iload_n C 2 dX4_owedTo_28 rfl rfl ?_
    exact zx_iret C dX4_owedTo_29
  · refine zx_iload_n C 2 dX4_owedTo_9 rfl rfl ?_
    refine zx_aload_n C 0 dX4_owedTo_10 rfl rfl ?_
    refine zx_get C 3 (l_House (j := j0) hj0) (c_house (j := j0) hj0) rfl (by decide) inX4 q_157 rfl rfl dX4_owedTo_11 ?_
    refine zx_iload_n C 3 dX4_owedTo_14 rfl rfl ?_
    refine zx_iload_n C 1 dX4_owedTo_15 rfl rfl ?_
    refine zx_callSN (host := "PaidInLight") (av := [.int v3, .int v1]) (st := [.ref (ad (27 + j0)), .int v2]) C yk_X10_pair (nest_17) q_346 (k_X10_pair C.hO N v3 v1 σ) (by decide) rfl rfl (Nat.le_of_ble_eq_true rfl) dX4_owedTo_16 (fun _ r_2 t_3 => ?_) (fun h9 => nomatch h9)
    refine zx_iald C 0 (l_deb (j := j0) hj0) (c_deb (j := j0) hj0 _) rfl dX4_owedTo_19 ?_
    refine zx_iadd C dX4_owedTo_20 ?_
    refine zx_n (fun z_4 => ?_)
    refine zx_istore_n (L1 := [(2, .int z_4), (0, .ref (ad (18 + j0))), (1, .int v1), (3, .int v3)]) C dX4_owedTo_21 rfl (by decide) rfl ?_
    refine zx_iinc (v := (v3 + (1 : Int32))) (L1 := [(3, .int (v3 + (1 : Int32))), (2, .int z_4), (0, .ref (ad (18 + j0))), (1, .int v1)]) C 3 dX4_owedTo_22 rfl rfl (by decide) rfl ?_
    refine zx_goto (tgt := 4) C dX4_owedTo_25 (by decide) ?_
    exact zx_sub (L1 := [(0, .ref (ad (18 + j0))), (1, .int v1), (2, .int z_4), (3, .int (v3 + (1 : Int32)))]) [2, 3, 1, 0] rfl (hrec4 j0 hj0 v1 z_4 (v3 + (1 : Int32)) t_3)
def lf_X4_owedTo_4 (N : Nat) : Nat → Nat → Int32 → Int32 → Int32 → zS → zA
  | 0, _, _, _, _, _ => none
  | n + 1, j0, v1, v2, v3, σ => bf_X4_owedTo_4 N (lf_X4_owedTo_4 N  n) j0 v1 v2 v3 σ
theorem l_X4_owedTo_4 {G : zG} {dC : Nat → ClassId} {dI : Nat → Nat → Nat} {A : Nat → Prop} {ad : Nat → Nat} {cI cC cW : ClassId} (C : zC G dC dI A 48 ad (cfC ad cI cC cW) (z_ty cI cC cW) cX4_owedTo RX4 4 1 (some .int)) (N : Nat) : ∀ (n : Nat) (j0 : Nat) (hj0 : j0 < 3) (v1 : Int32) (v2 : Int32) (v3 : Int32) (σ : zS), zW G dC dI A 48 ad (cfC ad cI cC cW) 4 true (lf_X4_owedTo_4 N  n j0 v1 v2 v3 σ) σ 4 [(0, .ref (ad (18 + j0))), (1, .int v1), (2, .int v2), (3, .int v3)] [] := by
  intro n
  induction n with
  | zero => intro j0 hj0 v1 v2 v3 σ; exact zx_none
  | succ n ih => intro j0 hj0 v1 v2 v3 σ; exact b_X4_owedTo_4 C N (lf_X4_owedTo_4 N  n) ih j0 hj0 v1 v2 v3 σ
def f_X4_owedTo (N : Nat) (j0 : Nat) (v1 : Int32) (σ : zS) : zA := (lf_X4_owedTo_4 N N j0 v1 (0 : Int32) (0 : Int32) σ)
set_option maxHeartbeats 4000000 in
set_option maxRecDepth 100000 in
theorem k_X4_owedTo {l : Launch} {dC : Nat → ClassId} {dI : Nat → Nat → Nat} {A : Nat → Prop} {ad : Nat → Nat} {cI cC cW : ClassId} (hO : zO A 48 ad (cfC ad cI cC cW)) (N : Nat) (j0 : Nat) (hj0 : j0 < 3) (v1 : Int32) (σ : zS) : zM l dC dI A 48 ad (cfC ad cI cC cW) (z_ty cI cC cW) true yX4_owedTo cX4_owedTo 4 (some .int) 1 [.ref (ad (18 + j0)), .int v1] σ (f_X4_owedTo N j0 v1 σ) := by
  refine zM_of hO (by decide) (Nat.le_of_ble_eq_true rfl) (fun G hG C => ?_)
  subst hG
  unfold f_X4_owedTo
  refine zx_sub (L1 := [(0, .ref (ad (18 + j0))), (1, .int v1)]) [0, 1] rfl ?_
  refine zx_iconst (v := 0) C dX4_owedTo_0 (by decide) ?_
  refine zx_istore_n (L1 := [(2, .int (0 : Int32)), (0, .ref (ad (18 + j0))), (1, .int v1)]) C dX4_owedTo_1 rfl (by decide) rfl ?_
  refine zx_iconst (v := 0) C dX4_owedTo_2 (by decide) ?_
  refine zx_istore_n (L1 := [(3, .int (0 : Int32)), (2, .int (0 : Int32)), (0, .ref (ad (18 + j0))), (1, .int v1)]) C dX4_owedTo_3 rfl (by decide) rfl ?_
  exact zx_sub (L1 := [(0, .ref (ad (18 + j0))), (1, .int v1), (2, .int (0 : Int32)), (3, .int (0 : Int32))]) [2, 3, 1, 0] rfl (l_X4_owedTo_4 C N N j0 hj0 v1 (0 : Int32) (0 : Int32) σ)
def bf_X4_owedBy_4 (N : Nat) (rec4 : Nat → Int32 → Int32 → Int32 → zS → zA) (j0 : Nat) (v1 : Int32) (v2 : Int32) (v3 : Int32) (σ : zS) : zA := (if (4 : Int32) ≤ v3 then some (v2, σ) else z_b (f_X10_pair N v1 v3 σ) (fun r_2 t_3 => z_g (z_in r_2 16) (z_n (v2 + (t_3 (27 + j0) r_2.toNatClampNeg)) (fun z_4 => (rec4 j0 v1 z_4 (v3 + (1 : Int32)) t_3)))))
set_option maxHeartbeats 4000000 in
set_option maxRecDepth 100000 in
theorem b_X4_owedBy_4 {G : zG} {dC : Nat → ClassId} {dI : Nat → Nat → Nat} {A : Nat → Prop} {ad : Nat → Nat} {cI cC cW : ClassId} (C : zC G dC dI A 48 ad (cfC ad cI cC cW) (z_ty cI cC cW) cX4_owedBy RX4 4 1 (some .int)) (N : Nat) (rec4 : Nat → Int32 → Int32 → Int32 → zS → zA) (hrec4 : ∀ (j0 : Nat) (hj0 : j0 < 3) (v1 : Int32) (v2 : Int32) (v3 : Int32) (σ : zS), zW G dC dI A 48 ad (cfC ad cI cC cW) 4 true (rec4 j0 v1 v2 v3 σ) σ 4 [(0, .ref (ad (18 + j0))), (1, .int v1), (2, .int v2), (3, .int v3)] []) (j0 : Nat) (hj0 : j0 < 3) (v1 : Int32) (v2 : Int32) (v3 : Int32) (σ : zS) : zW G dC dI A 48 ad (cfC ad cI cC cW) 4 true (bf_X4_owedBy_4 N rec4 j0 v1 v2 v3 σ) σ 4 [(0, .ref (ad (18 + j0))), (1, .int v1), (2, .int v2), (3, .int v3)] [] := by
  unfold bf_X4_owedBy_4
  refine zx_iload_n C 3 dX4_owedBy_4 rfl rfl ?_
  refine zx_iconst (v := 4) C dX4_owedBy_5 (by decide) ?_
  refine zx_icmp_ge (tgt := 28) C dX4_owedBy_6 (by decide) (fun h_1 => ?_) (fun h_1 => ?_)
  · refine zx_iload_n C 2 dX4_owedBy_28 rfl rfl ?_
    exact zx_iret C dX4_owedBy_29
  · refine zx_iload_n C 2 dX4_owedBy_9 rfl rfl ?_
    refine zx_aload_n C 0 dX4_owedBy_10 rfl rfl ?_
    refine zx_get C 3 (l_House (j := j0) hj0) (c_house (j := j0) hj0) rfl (by decide) inX4 q_157 rfl rfl dX4_owedBy_11 ?_
    refine zx_iload_n C 1 dX4_owedBy_14 rfl rfl ?_
    refine zx_iload_n C 3 dX4_owedBy_15 rfl rfl ?_
    refine zx_callSN (host := "PaidInLight") (av := [.int v1, .int v3]) (st := [.ref (ad (27 + j0)), .int v2]) C yk_X10_pair (nest_17) q_346 (k_X10_pair C.hO N v1 v3 σ) (by decide) rfl rfl (Nat.le_of_ble_eq_true rfl) dX4_owedBy_16 (fun _ r_2 t_3 => ?_) (fun h9 => nomatch h9)
    refine zx_iald C 0 (l_deb (j := j0) hj0) (c_deb (j := j0) hj0 _) rfl dX4_owedBy_19 ?_
    refine zx_iadd C dX4_owedBy_20 ?_
    refine zx_n (fun z_4 => ?_)
    refine zx_istore_n (L1 := [(2, .int z_4), (0, .ref (ad (18 + j0))), (1, .int v1), (3, .int v3)]) C dX4_owedBy_21 rfl (by decide) rfl ?_
    refine zx_iinc (v := (v3 + (1 : Int32))) (L1 := [(3, .int (v3 + (1 : Int32))), (2, .int z_4), (0, .ref (ad (18 + j0))), (1, .int v1)]) C 3 dX4_owedBy_22 rfl rfl (by decide) rfl ?_
    refine zx_goto (tgt := 4) C dX4_owedBy_25 (by decide) ?_
    exact zx_sub (L1 := [(0, .ref (ad (18 + j0))), (1, .int v1), (2, .int z_4), (3, .int (v3 + (1 : Int32)))]) [2, 3, 1, 0] rfl (hrec4 j0 hj0 v1 z_4 (v3 + (1 : Int32)) t_3)
def lf_X4_owedBy_4 (N : Nat) : Nat → Nat → Int32 → Int32 → Int32 → zS → zA
  | 0, _, _, _, _, _ => none
  | n + 1, j0, v1, v2, v3, σ => bf_X4_owedBy_4 N (lf_X4_owedBy_4 N  n) j0 v1 v2 v3 σ
theorem l_X4_owedBy_4 {G : zG} {dC : Nat → ClassId} {dI : Nat → Nat → Nat} {A : Nat → Prop} {ad : Nat → Nat} {cI cC cW : ClassId} (C : zC G dC dI A 48 ad (cfC ad cI cC cW) (z_ty cI cC cW) cX4_owedBy RX4 4 1 (some .int)) (N : Nat) : ∀ (n : Nat) (j0 : Nat) (hj0 : j0 < 3) (v1 : Int32) (v2 : Int32) (v3 : Int32) (σ : zS), zW G dC dI A 48 ad (cfC ad cI cC cW) 4 true (lf_X4_owedBy_4 N  n j0 v1 v2 v3 σ) σ 4 [(0, .ref (ad (18 + j0))), (1, .int v1), (2, .int v2), (3, .int v3)] [] := by
  intro n
  induction n with
  | zero => intro j0 hj0 v1 v2 v3 σ; exact zx_none
  | succ n ih => intro j0 hj0 v1 v2 v3 σ; exact b_X4_owedBy_4 C N (lf_X4_owedBy_4 N  n) ih j0 hj0 v1 v2 v3 σ
def f_X4_owedBy (N : Nat) (j0 : Nat) (v1 : Int32) (σ : zS) : zA := (lf_X4_owedBy_4 N N j0 v1 (0 : Int32) (0 : Int32) σ)
set_option maxHeartbeats 4000000 in
set_option maxRecDepth 100000 in
theorem k_X4_owedBy {l : Launch} {dC : Nat → ClassId} {dI : Nat → Nat → Nat} {A : Nat → Prop} {ad : Nat → Nat} {cI cC cW : ClassId} (hO : zO A 48 ad (cfC ad cI cC cW)) (N : Nat) (j0 : Nat) (hj0 : j0 < 3) (v1 : Int32) (σ : zS) : zM l dC dI A 48 ad (cfC ad cI cC cW) (z_ty cI cC cW) true yX4_owedBy cX4_owedBy 4 (some .int) 1 [.ref (ad (18 + j0)), .int v1] σ (f_X4_owedBy N j0 v1 σ) := by
  refine zM_of hO (by decide) (Nat.le_of_ble_eq_true rfl) (fun G hG C => ?_)
  subst hG
  unfold f_X4_owedBy
  refine zx_sub (L1 := [(0, .ref (ad (18 + j0))), (1, .int v1)]) [0, 1] rfl ?_
  refine zx_iconst (v := 0) C dX4_owedBy_0 (by decide) ?_
  refine zx_istore_n (L1 := [(2, .int (0 : Int32)), (0, .ref (ad (18 + j0))), (1, .int v1)]) C dX4_owedBy_1 rfl (by decide) rfl ?_
  refine zx_iconst (v := 0) C dX4_owedBy_2 (by decide) ?_
  refine zx_istore_n (L1 := [(3, .int (0 : Int32)), (2, .int (0 : Int32)), (0, .ref (ad (18 + j0))), (1, .int v1)]) C dX4_owedBy_3 rfl (by decide) rfl ?_
  exact zx_sub (L1 := [(0, .ref (ad (18 + j0))), (1, .int v1), (2, .int (0 : Int32)), (3, .int (0 : Int32))]) [2, 3, 1, 0] rfl (l_X4_owedBy_4 C N N j0 hj0 v1 (0 : Int32) (0 : Int32) σ)
def bf_X4_strikePairs_13 (N : Nat) (rec4 : Nat → Int32 → Int32 → zS → zA) (rec13 : Nat → Int32 → Int32 → Int32 → zS → zA) (j0 : Nat) (v1 : Int32) (v2 : Int32) (v3 : Int32) (σ : zS) : zA := (if (4 : Int32) ≤ v3 then (rec4 j0 v1 (v2 + (1 : Int32)) σ) else z_b (f_X10_pair N v2 v3 σ) (fun r_2 t_3 => z_g (z_in r_2 16) (z_b (f_X10_pair N v3 v2 t_3) (fun r_4 t_5 => z_g (z_in r_4 16) (z_n (if (t_5 (27 + j0) r_4.toNatClampNeg) < (t_3 (27 + j0) r_2.toNatClampNeg) then (t_5 (27 + j0) r_4.toNatClampNeg) else (t_3 (27 + j0) r_2.toNatClampNeg)) (fun z_6 => z_b (f_X10_pair N v2 v3 t_5) (fun r_7 t_8 => z_g (z_in r_7 16) (z_g (z_in r_7 16) (z_m (z_put t_8 (27 + j0) r_7.toNatClampNeg ((t_8 (27 + j0) r_7.toNatClampNeg) - z_6)) (fun t_9 => z_b (f_X10_pair N v3 v2 t_9) (fun r_10 t_11 => z_g (z_in r_10 16) (z_g (z_in r_10 16) (z_m (z_put t_11 (27 + j0) r_10.toNatClampNeg ((t_11 (27 + j0) r_10.toNatClampNeg) - z_6)) (fun t_12 => (if z_6 ≤ (0 : Int32) then z_n (v1 + (0 : Int32)) (fun z_14 => (rec13 j0 z_14 v2 (v3 + (1 : Int32)) t_12)) else z_n (v1 + (1 : Int32)) (fun z_15 => (rec13 j0 z_15 v2 (v3 + (1 : Int32)) t_12)))))))))))))))))
set_option maxHeartbeats 4000000 in
set_option maxRecDepth 100000 in
theorem b_X4_strikePairs_13 {G : zG} {dC : Nat → ClassId} {dI : Nat → Nat → Nat} {A : Nat → Prop} {ad : Nat → Nat} {cI cC cW : ClassId} (C : zC G dC dI A 48 ad (cfC ad cI cC cW) (z_ty cI cC cW) cX4_strikePairs RX4 5 1 (some .int)) (N : Nat) (rec4 : Nat → Int32 → Int32 → zS → zA) (hrec4 : ∀ (j0 : Nat) (hj0 : j0 < 3) (v1 : Int32) (v2 : Int32) (σ : zS), zW G dC dI A 48 ad (cfC ad cI cC cW) 5 true (rec4 j0 v1 v2 σ) σ 4 [(0, .ref (ad (18 + j0))), (1, .int v1), (2, .int v2)] []) (rec13 : Nat → Int32 → Int32 → Int32 → zS → zA) (hrec13 : ∀ (j0 : Nat) (hj0 : j0 < 3) (v1 : Int32) (v2 : Int32) (v3 : Int32) (σ : zS), zW G dC dI A 48 ad (cfC ad cI cC cW) 5 true (rec13 j0 v1 v2 v3 σ) σ 13 [(0, .ref (ad (18 + j0))), (1, .int v1), (2, .int v2), (3, .int v3)] []) (j0 : Nat) (hj0 : j0 < 3) (v1 : Int32) (v2 : Int32) (v3 : Int32) (σ : zS) : zW G dC dI A 48 ad (cfC ad cI cC cW) 5 true (bf_X4_strikePairs_13 N rec4 rec13 j0 v1 v2 v3 σ) σ 13 [(0, .ref (ad (18 + j0))), (1, .int v1), (2, .int v2), (3, .int v3)] [] := by
  unfold bf_X4_strikePairs_13
  refine zx_iload_n C 3 dX4_strikePairs_13 rfl rfl ?_
  refine zx_iconst (v := 4) C dX4_strikePairs_14 (by decide) ?_
  refine zx_icmp_ge (tgt := 92) C dX4_strikePairs_15 (by decide) (fun h_1 => ?_) (fun h_1 => ?_)
  · refine zx_iinc (v := (v2 + (1 : Int32))) (L1 := [(2, .int (v2 + (1 : Int32))), (0, .ref (ad (18 + j0))), (1, .int v1), (3, .int v3)]) C 2 dX4_strikePairs_92 rfl rfl (by decide) rfl ?_
    refine zx_goto (tgt := 4) C dX4_strikePairs_95 (by decide) ?_
    exact zx_sub (L1 := [(0, .ref (ad (18 + j0))), (1, .int v1), (2, .int (v2 + (1 : Int32)))]) [1, 2, 0] rfl (hrec4 j0 hj0 v1 (v2 + (1 : Int32)) σ)
  · refine zx_aload_n C 0 dX4_strikePairs_18 rfl rfl ?_
    refine zx_get C 3 (l_House (j := j0) hj0) (c_house (j := j0) hj0) rfl (by decide) inX4 q_157 rfl rfl dX4_strikePairs_19 ?_
    refine zx_iload_n C 2 dX4_strikePairs_22 rfl rfl ?_
    refine zx_iload_n C 3 dX4_strikePairs_23 rfl rfl ?_
    refine zx_callSN (host := "PaidInLight") (av := [.int v2, .int v3]) (st := [.ref (ad (27 + j0))]) C yk_X10_pair (nest_17) q_346 (k_X10_pair C.hO N v2 v3 σ) (by decide) rfl rfl (Nat.le_of_ble_eq_true rfl) dX4_strikePairs_24 (fun _ r_2 t_3 => ?_) (fun h9 => nomatch h9)
    refine zx_iald C 0 (l_deb (j := j0) hj0) (c_deb (j := j0) hj0 _) rfl dX4_strikePairs_27 ?_
    refine zx_aload_n C 0 dX4_strikePairs_28 rfl rfl ?_
    refine zx_get C 3 (l_House (j := j0) hj0) (c_house (j := j0) hj0) rfl (by decide) inX4 q_157 rfl rfl dX4_strikePairs_29 ?_
    refine zx_iload_n C 3 dX4_strikePairs_32 rfl rfl ?_
    refine zx_iload_n C 2 dX4_strikePairs_33 rfl rfl ?_
    refine zx_callSN (host := "PaidInLight") (av := [.int v3, .int v2]) (st := [.ref (ad (27 + j0)), .int (t_3 (27 + j0) r_2.toNatClampNeg)]) C yk_X10_pair (nest_17) q_346 (k_X10_pair C.hO N v3 v2 t_3) (by decide) rfl rfl (Nat.le_of_ble_eq_true rfl) dX4_strikePairs_34 (fun _ r_4 t_5 => ?_) (fun h9 => nomatch h9)
    refine zx_iald C 0 (l_deb (j := j0) hj0) (c_deb (j := j0) hj0 _) rfl dX4_strikePairs_37 ?_
    refine zx_min C q_397 q_398 q_49 q_399 (by decide) (Nat.le_of_ble_eq_true rfl) dX4_strikePairs_38 ?_
    refine zx_n (fun z_6 => ?_)
    refine zx_istore (L1 := [(4, .int z_6), (0, .ref (ad (18 + j0))), (1, .int v1), (2, .int v2), (3, .int v3)]) C dX4_strikePairs_41 (by decide) rfl ?_
    refine zx_aload_n C 1 dX4_strikePairs_43 rfl rfl ?_
    refine zx_get C 3 (l_House (j := j0) hj0) (c_house (j := j0) hj0) rfl (by decide) inX4 q_157 rfl rfl dX4_strikePairs_44 ?_
    refine zx_iload_n C 3 dX4_strikePairs_47 rfl rfl ?_
    refine zx_iload_n C 4 dX4_strikePairs_48 rfl rfl ?_
    refine zx_callSN (host := "PaidInLight") (av := [.int v2, .int v3]) (st := [.ref (ad (27 + j0))]) C yk_X10_pair (nest_17) q_346 (k_X10_pair C.hO N v2 v3 t_5) (by decide) rfl rfl (Nat.le_of_ble_eq_true rfl) dX4_strikePairs_49 (fun _ r_7 t_8 => ?_) (fun h9 => nomatch h9)
    refine zx_dup2 C dX4_strikePairs_52 rfl rfl ?_
    refine zx_iald C 0 (l_deb (j := j0) hj0) (c_deb (j := j0) hj0 _) rfl dX4_strikePairs_53 ?_
    refine zx_iload C 0 dX4_strikePairs_54 rfl ?_
    refine zx_isub C dX4_strikePairs_56 ?_
    refine zx_iast C 0 (l_deb (j := j0) hj0) (c_deb (j := j0) hj0) rfl dX4_strikePairs_57 (fun t_9 => ?_)
    refine zx_aload_n C 1 dX4_strikePairs_58 rfl rfl ?_
    refine zx_get C 3 (l_House (j := j0) hj0) (c_house (j := j0) hj0) rfl (by decide) inX4 q_157 rfl rfl dX4_strikePairs_59 ?_
    refine zx_iload_n C 4 dX4_strikePairs_62 rfl rfl ?_
    refine zx_iload_n C 3 dX4_strikePairs_63 rfl rfl ?_
    refine zx_callSN (host := "PaidInLight") (av := [.int v3, .int v2]) (st := [.ref (ad (27 + j0))]) C yk_X10_pair (nest_17) q_346 (k_X10_pair C.hO N v3 v2 t_9) (by decide) rfl rfl (Nat.le_of_ble_eq_true rfl) dX4_strikePairs_64 (fun _ r_10 t_11 => ?_) (fun h9 => nomatch h9)
    refine zx_dup2 C dX4_strikePairs_67 rfl rfl ?_
    refine zx_iald C 0 (l_deb (j := j0) hj0) (c_deb (j := j0) hj0 _) rfl dX4_strikePairs_68 ?_
    refine zx_iload C 0 dX4_strikePairs_69 rfl ?_
    refine zx_isub C dX4_strikePairs_71 ?_
    refine zx_iast C 0 (l_deb (j := j0) hj0) (c_deb (j := j0) hj0) rfl dX4_strikePairs_72 (fun t_12 => ?_)
    refine zx_iload_n C 2 dX4_strikePairs_73 rfl rfl ?_
    refine zx_iload C 0 dX4_strikePairs_74 rfl ?_
    refine zx_if_le (tgt := 83) C dX4_strikePairs_76 (by decide) (fun h_13 => ?_) (fun h_13 => ?_)
    · refine zx_iconst (v := 0) C dX4_strikePairs_83 (by decide) ?_
      refine zx_iadd C dX4_strikePairs_84 ?_
      refine zx_n (fun z_14 => ?_)
      refine zx_istore_n (L1 := [(1, .int z_14), (4, .int z_6), (0, .ref (ad (18 + j0))), (2, .int v2), (3, .int v3)]) C dX4_strikePairs_85 rfl (by decide) rfl ?_
      refine zx_iinc (v := (v3 + (1 : Int32))) (L1 := [(3, .int (v3 + (1 : Int32))), (1, .int z_14), (4, .int z_6), (0, .ref (ad (18 + j0))), (2, .int v2)]) C 4 dX4_strikePairs_86 rfl rfl (by decide) rfl ?_
      refine zx_goto (tgt := 13) C dX4_strikePairs_89 (by decide) ?_
      exact zx_sub (L1 := [(0, .ref (ad (18 + j0))), (1, .int z_14), (2, .int v2), (3, .int (v3 + (1 : Int32)))]) [3, 1, 4, 0] rfl (hrec13 j0 hj0 z_14 v2 (v3 + (1 : Int32)) t_12)
    · refine zx_iconst (v := 1) C dX4_strikePairs_79 (by decide) ?_
      refine zx_goto (tgt := 84) C dX4_strikePairs_80 (by decide) ?_
      refine zx_iadd C dX4_strikePairs_84 ?_
      refine zx_n (fun z_15 => ?_)
      refine zx_istore_n (L1 := [(1, .int z_15), (4, .int z_6), (0, .ref (ad (18 + j0))), (2, .int v2), (3, .int v3)]) C dX4_strikePairs_85 rfl (by decide) rfl ?_
      refine zx_iinc (v := (v3 + (1 : Int32))) (L1 := [(3, .int (v3 + (1 : Int32))), (1, .int z_15), (4, .int z_6), (0, .ref (ad (18 + j0))), (2, .int v2)]) C 4 dX4_strikePairs_86 rfl rfl (by decide) rfl ?_
      refine zx_goto (tgt := 13) C dX4_strikePairs_89 (by decide) ?_
      exact zx_sub (L1 := [(0, .ref (ad (18 + j0))), (1, .int z_15), (2, .int v2), (3, .int (v3 + (1 : Int32)))]) [3, 1, 4, 0] rfl (hrec13 j0 hj0 z_15 v2 (v3 + (1 : Int32)) t_12)
def lf_X4_strikePairs_13 (N : Nat) (rec4 : Nat → Int32 → Int32 → zS → zA) : Nat → Nat → Int32 → Int32 → Int32 → zS → zA
  | 0, _, _, _, _, _ => none
  | n + 1, j0, v1, v2, v3, σ => bf_X4_strikePairs_13 N rec4 (lf_X4_strikePairs_13 N rec4 n) j0 v1 v2 v3 σ
theorem l_X4_strikePairs_13 {G : zG} {dC : Nat → ClassId} {dI : Nat → Nat → Nat} {A : Nat → Prop} {ad : Nat → Nat} {cI cC cW : ClassId} (C : zC G dC dI A 48 ad (cfC ad cI cC cW) (z_ty cI cC cW) cX4_strikePairs RX4 5 1 (some .int)) (N : Nat) (rec4 : Nat → Int32 → Int32 → zS → zA) (hrec4 : ∀ (j0 : Nat) (hj0 : j0 < 3) (v1 : Int32) (v2 : Int32) (σ : zS), zW G dC dI A 48 ad (cfC ad cI cC cW) 5 true (rec4 j0 v1 v2 σ) σ 4 [(0, .ref (ad (18 + j0))), (1, .int v1), (2, .int v2)] []) : ∀ (n : Nat) (j0 : Nat) (hj0 : j0 < 3) (v1 : Int32) (v2 : Int32) (v3 : Int32) (σ : zS), zW G dC dI A 48 ad (cfC ad cI cC cW) 5 true (lf_X4_strikePairs_13 N rec4 n j0 v1 v2 v3 σ) σ 13 [(0, .ref (ad (18 + j0))), (1, .int v1), (2, .int v2), (3, .int v3)] [] := by
  intro n
  induction n with
  | zero => intro j0 hj0 v1 v2 v3 σ; exact zx_none
  | succ n ih => intro j0 hj0 v1 v2 v3 σ; exact b_X4_strikePairs_13 C N rec4 hrec4 (lf_X4_strikePairs_13 N rec4 n) ih j0 hj0 v1 v2 v3 σ
def bf_X4_strikePairs_4 (N : Nat) (rec4 : Nat → Int32 → Int32 → zS → zA) (j0 : Nat) (v1 : Int32) (v2 : Int32) (σ : zS) : zA := (if (4 : Int32) ≤ v2 then some (v1, σ) else z_n (v2 + (1 : Int32)) (fun z_17 => (lf_X4_strikePairs_13 N rec4 N j0 v1 v2 z_17 σ)))
set_option maxHeartbeats 4000000 in
set_option maxRecDepth 100000 in
theorem b_X4_strikePairs_4 {G : zG} {dC : Nat → ClassId} {dI : Nat → Nat → Nat} {A : Nat → Prop} {ad : Nat → Nat} {cI cC cW : ClassId} (C : zC G dC dI A 48 ad (cfC ad cI cC cW) (z_ty cI cC cW) cX4_strikePairs RX4 5 1 (some .int)) (N : Nat) (rec4 : Nat → Int32 → Int32 → zS → zA) (hrec4 : ∀ (j0 : Nat) (hj0 : j0 < 3) (v1 : Int32) (v2 : Int32) (σ : zS), zW G dC dI A 48 ad (cfC ad cI cC cW) 5 true (rec4 j0 v1 v2 σ) σ 4 [(0, .ref (ad (18 + j0))), (1, .int v1), (2, .int v2)] []) (j0 : Nat) (hj0 : j0 < 3) (v1 : Int32) (v2 : Int32) (σ : zS) : zW G dC dI A 48 ad (cfC ad cI cC cW) 5 true (bf_X4_strikePairs_4 N rec4 j0 v1 v2 σ) σ 4 [(0, .ref (ad (18 + j0))), (1, .int v1), (2, .int v2)] [] := by
  unfold bf_X4_strikePairs_4
  refine zx_iload_n C 2 dX4_strikePairs_4 rfl rfl ?_
  refine zx_iconst (v := 4) C dX4_strikePairs_5 (by decide) ?_
  refine zx_icmp_ge (tgt := 98) C dX4_strikePairs_6 (by decide) (fun h_16 => ?_) (fun h_16 => ?_)
  · refine zx_iload_n C 1 dX4_strikePairs_98 rfl rfl ?_
    exact zx_iret C dX4_strikePairs_99
  · refine zx_iload_n C 2 dX4_strikePairs_9 rfl rfl ?_
    refine zx_iconst (v := 1) C dX4_strikePairs_10 (by decide) ?_
    refine zx_iadd C dX4_strikePairs_11 ?_
    refine zx_n (fun z_17 => ?_)
    refine zx_istore_n (L1 := [(3, .int z_17), (0, .ref (ad (18 + j0))), (1, .int v1), (2, .int v2)]) C dX4_strikePairs_12 rfl (by decide) rfl ?_
    exact zx_sub (L1 := [(0, .ref (ad (18 + j0))), (1, .int v1), (2, .int v2), (3, .int z_17)]) [1, 2, 3, 0] rfl (l_X4_strikePairs_13 C N rec4 hrec4 N j0 hj0 v1 v2 z_17 σ)
def lf_X4_strikePairs_4 (N : Nat) : Nat → Nat → Int32 → Int32 → zS → zA
  | 0, _, _, _, _ => none
  | n + 1, j0, v1, v2, σ => bf_X4_strikePairs_4 N (lf_X4_strikePairs_4 N  n) j0 v1 v2 σ
theorem l_X4_strikePairs_4 {G : zG} {dC : Nat → ClassId} {dI : Nat → Nat → Nat} {A : Nat → Prop} {ad : Nat → Nat} {cI cC cW : ClassId} (C : zC G dC dI A 48 ad (cfC ad cI cC cW) (z_ty cI cC cW) cX4_strikePairs RX4 5 1 (some .int)) (N : Nat) : ∀ (n : Nat) (j0 : Nat) (hj0 : j0 < 3) (v1 : Int32) (v2 : Int32) (σ : zS), zW G dC dI A 48 ad (cfC ad cI cC cW) 5 true (lf_X4_strikePairs_4 N  n j0 v1 v2 σ) σ 4 [(0, .ref (ad (18 + j0))), (1, .int v1), (2, .int v2)] [] := by
  intro n
  induction n with
  | zero => intro j0 hj0 v1 v2 σ; exact zx_none
  | succ n ih => intro j0 hj0 v1 v2 σ; exact b_X4_strikePairs_4 C N (lf_X4_strikePairs_4 N  n) ih j0 hj0 v1 v2 σ
def f_X4_strikePairs (N : Nat) (j0 : Nat) (σ : zS) : zA := (lf_X4_strikePairs_4 N N j0 (0 : Int32) (0 : Int32) σ)
set_option maxHeartbeats 4000000 in
set_option maxRecDepth 100000 in
theorem k_X4_strikePairs {l : Launch} {dC : Nat → ClassId} {dI : Nat → Nat → Nat} {A : Nat → Prop} {ad : Nat → Nat} {cI cC cW : ClassId} (hO : zO A 48 ad (cfC ad cI cC cW)) (N : Nat) (j0 : Nat) (hj0 : j0 < 3) (σ : zS) : zM l dC dI A 48 ad (cfC ad cI cC cW) (z_ty cI cC cW) true yX4_strikePairs cX4_strikePairs 5 (some .int) 1 [.ref (ad (18 + j0))] σ (f_X4_strikePairs N j0 σ) := by
  refine zM_of hO (by decide) (Nat.le_of_ble_eq_true rfl) (fun G hG C => ?_)
  subst hG
  unfold f_X4_strikePairs
  refine zx_sub (L1 := [(0, .ref (ad (18 + j0)))]) [0] rfl ?_
  refine zx_iconst (v := 0) C dX4_strikePairs_0 (by decide) ?_
  refine zx_istore_n (L1 := [(1, .int (0 : Int32)), (0, .ref (ad (18 + j0)))]) C dX4_strikePairs_1 rfl (by decide) rfl ?_
  refine zx_iconst (v := 0) C dX4_strikePairs_2 (by decide) ?_
  refine zx_istore_n (L1 := [(2, .int (0 : Int32)), (1, .int (0 : Int32)), (0, .ref (ad (18 + j0)))]) C dX4_strikePairs_3 rfl (by decide) rfl ?_
  exact zx_sub (L1 := [(0, .ref (ad (18 + j0))), (1, .int (0 : Int32)), (2, .int (0 : Int32))]) [2, 1, 0] rfl (l_X4_strikePairs_4 C N N j0 hj0 (0 : Int32) (0 : Int32) σ)
def f_X4_strikeTriple (N : Nat) (j0 : Nat) (v1 : Int32) (v2 : Int32) (v3 : Int32) (σ : zS) : zA := z_b (f_X10_pair N v1 v2 σ) (fun r_1 t_2 => z_g (z_in r_1 16) (z_b (f_X10_pair N v2 v3 t_2) (fun r_3 t_4 => z_g (z_in r_3 16) (z_b (f_X10_pair N v3 v1 t_4) (fun r_5 t_6 => z_g (z_in r_5 16) (z_n (if (if (t_6 (27 + j0) r_5.toNatClampNeg) < (t_4 (27 + j0) r_3.toNatClampNeg) then (t_6 (27 + j0) r_5.toNatClampNeg) else (t_4 (27 + j0) r_3.toNatClampNeg)) < (t_2 (27 + j0) r_1.toNatClampNeg) then (if (t_6 (27 + j0) r_5.toNatClampNeg) < (t_4 (27 + j0) r_3.toNatClampNeg) then (t_6 (27 + j0) r_5.toNatClampNeg) else (t_4 (27 + j0) r_3.toNatClampNeg)) else (t_2 (27 + j0) r_1.toNatClampNeg)) (fun z_7 => z_b (f_X10_pair N v1 v2 t_6) (fun r_8 t_9 => z_g (z_in r_8 16) (z_g (z_in r_8 16) (z_m (z_put t_9 (27 + j0) r_8.toNatClampNeg ((t_9 (27 + j0) r_8.toNatClampNeg) - z_7)) (fun t_10 => z_b (f_X10_pair N v2 v3 t_10) (fun r_11 t_12 => z_g (z_in r_11 16) (z_g (z_in r_11 16) (z_m (z_put t_12 (27 + j0) r_11.toNatClampNeg ((t_12 (27 + j0) r_11.toNatClampNeg) - z_7)) (fun t_13 => z_b (f_X10_pair N v3 v1 t_13) (fun r_14 t_15 => z_g (z_in r_14 16) (z_g (z_in r_14 16) (z_m (z_put t_15 (27 + j0) r_14.toNatClampNeg ((t_15 (27 + j0) r_14.toNatClampNeg) - z_7)) (fun t_16 => (if z_7 ≤ (0 : Int32) then some ((0 : Int32), t_16) else some ((1 : Int32), t_16)))))))))))))))))))))
set_option maxHeartbeats 4000000 in
set_option maxRecDepth 100000 in
theorem k_X4_strikeTriple {l : Launch} {dC : Nat → ClassId} {dI : Nat → Nat → Nat} {A : Nat → Prop} {ad : Nat → Nat} {cI cC cW : ClassId} (hO : zO A 48 ad (cfC ad cI cC cW)) (N : Nat) (j0 : Nat) (hj0 : j0 < 3) (v1 : Int32) (v2 : Int32) (v3 : Int32) (σ : zS) : zM l dC dI A 48 ad (cfC ad cI cC cW) (z_ty cI cC cW) true yX4_strikeTriple cX4_strikeTriple 5 (some .boolean) 1 [.ref (ad (18 + j0)), .int v1, .int v2, .int v3] σ (f_X4_strikeTriple N j0 v1 v2 v3 σ) := by
  refine zM_of hO (by decide) (Nat.le_of_ble_eq_true rfl) (fun G hG C => ?_)
  subst hG
  unfold f_X4_strikeTriple
  refine zx_sub (L1 := [(0, .ref (ad (18 + j0))), (1, .int v1), (2, .int v2), (3, .int v3)]) [0, 1, 2, 3] rfl ?_
  refine zx_aload_n C 0 dX4_strikeTriple_0 rfl rfl ?_
  refine zx_get C 3 (l_House (j := j0) hj0) (c_house (j := j0) hj0) rfl (by decide) inX4 q_157 rfl rfl dX4_strikeTriple_1 ?_
  refine zx_iload_n C 1 dX4_strikeTriple_4 rfl rfl ?_
  refine zx_iload_n C 2 dX4_strikeTriple_5 rfl rfl ?_
  refine zx_callSN (host := "PaidInLight") (av := [.int v1, .int v2]) (st := [.ref (ad (27 + j0))]) C yk_X10_pair (nest_17) q_346 (k_X10_pair C.hO N v1 v2 σ) (by decide) rfl rfl (Nat.le_of_ble_eq_true rfl) dX4_strikeTriple_6 (fun _ r_1 t_2 => ?_) (fun h9 => nomatch h9)
  refine zx_iald C 0 (l_deb (j := j0) hj0) (c_deb (j := j0) hj0 _) rfl dX4_strikeTriple_9 ?_
  refine zx_aload_n C 0 dX4_strikeTriple_10 rfl rfl ?_
  refine zx_get C 3 (l_House (j := j0) hj0) (c_house (j := j0) hj0) rfl (by decide) inX4 q_157 rfl rfl dX4_strikeTriple_11 ?_
  refine zx_iload_n C 2 dX4_strikeTriple_14 rfl rfl ?_
  refine zx_iload_n C 3 dX4_strikeTriple_15 rfl rfl ?_
  refine zx_callSN (host := "PaidInLight") (av := [.int v2, .int v3]) (st := [.ref (ad (27 + j0)), .int (t_2 (27 + j0) r_1.toNatClampNeg)]) C yk_X10_pair (nest_17) q_346 (k_X10_pair C.hO N v2 v3 t_2) (by decide) rfl rfl (Nat.le_of_ble_eq_true rfl) dX4_strikeTriple_16 (fun _ r_3 t_4 => ?_) (fun h9 => nomatch h9)
  refine zx_iald C 0 (l_deb (j := j0) hj0) (c_deb (j := j0) hj0 _) rfl dX4_strikeTriple_19 ?_
  refine zx_aload_n C 0 dX4_strikeTriple_20 rfl rfl ?_
  refine zx_get C 3 (l_House (j := j0) hj0) (c_house (j := j0) hj0) rfl (by decide) inX4 q_157 rfl rfl dX4_strikeTriple_21 ?_
  refine zx_iload_n C 3 dX4_strikeTriple_24 rfl rfl ?_
  refine zx_iload_n C 1 dX4_strikeTriple_25 rfl rfl ?_
  refine zx_callSN (host := "PaidInLight") (av := [.int v3, .int v1]) (st := [.ref (ad (27 + j0)), .int (t_4 (27 + j0) r_3.toNatClampNeg), .int (t_2 (27 + j0) r_1.toNatClampNeg)]) C yk_X10_pair (nest_17) q_346 (k_X10_pair C.hO N v3 v1 t_4) (by decide) rfl rfl (Nat.le_of_ble_eq_true rfl) dX4_strikeTriple_26 (fun _ r_5 t_6 => ?_) (fun h9 => nomatch h9)
  refine zx_iald C 0 (l_deb (j := j0) hj0) (c_deb (j := j0) hj0 _) rfl dX4_strikeTriple_29 ?_
  refine zx_min C q_397 q_398 q_49 q_399 (by decide) (Nat.le_of_ble_eq_true rfl) dX4_strikeTriple_30 ?_
  refine zx_min C q_397 q_398 q_49 q_399 (by decide) (Nat.le_of_ble_eq_true rfl) dX4_strikeTriple_33 ?_
  refine zx_n (fun z_7 => ?_)
  refine zx_istore (L1 := [(4, .int z_7), (0, .ref (ad (18 + j0))), (1, .int v1), (2, .int v2), (3, .int v3)]) C dX4_strikeTriple_36 (by decide) rfl ?_
  refine zx_aload_n C 1 dX4_strikeTriple_38 rfl rfl ?_
  refine zx_get C 3 (l_House (j := j0) hj0) (c_house (j := j0) hj0) rfl (by decide) inX4 q_157 rfl rfl dX4_strikeTriple_39 ?_
  refine zx_iload_n C 2 dX4_strikeTriple_42 rfl rfl ?_
  refine zx_iload_n C 3 dX4_strikeTriple_43 rfl rfl ?_
  refine zx_callSN (host := "PaidInLight") (av := [.int v1, .int v2]) (st := [.ref (ad (27 + j0))]) C yk_X10_pair (nest_17) q_346 (k_X10_pair C.hO N v1 v2 t_6) (by decide) rfl rfl (Nat.le_of_ble_eq_true rfl) dX4_strikeTriple_44 (fun _ r_8 t_9 => ?_) (fun h9 => nomatch h9)
  refine zx_dup2 C dX4_strikeTriple_47 rfl rfl ?_
  refine zx_iald C 0 (l_deb (j := j0) hj0) (c_deb (j := j0) hj0 _) rfl dX4_strikeTriple_48 ?_
  refine zx_iload C 0 dX4_strikeTriple_49 rfl ?_
  refine zx_isub C dX4_strikeTriple_51 ?_
  refine zx_iast C 0 (l_deb (j := j0) hj0) (c_deb (j := j0) hj0) rfl dX4_strikeTriple_52 (fun t_10 => ?_)
  refine zx_aload_n C 1 dX4_strikeTriple_53 rfl rfl ?_
  refine zx_get C 3 (l_House (j := j0) hj0) (c_house (j := j0) hj0) rfl (by decide) inX4 q_157 rfl rfl dX4_strikeTriple_54 ?_
  refine zx_iload_n C 3 dX4_strikeTriple_57 rfl rfl ?_
  refine zx_iload_n C 4 dX4_strikeTriple_58 rfl rfl ?_
  refine zx_callSN (host := "PaidInLight") (av := [.int v2, .int v3]) (st := [.ref (ad (27 + j0))]) C yk_X10_pair (nest_17) q_346 (k_X10_pair C.hO N v2 v3 t_10) (by decide) rfl rfl (Nat.le_of_ble_eq_true rfl) dX4_strikeTriple_59 (fun _ r_11 t_12 => ?_) (fun h9 => nomatch h9)
  refine zx_dup2 C dX4_strikeTriple_62 rfl rfl ?_
  refine zx_iald C 0 (l_deb (j := j0) hj0) (c_deb (j := j0) hj0 _) rfl dX4_strikeTriple_63 ?_
  refine zx_iload C 0 dX4_strikeTriple_64 rfl ?_
  refine zx_isub C dX4_strikeTriple_66 ?_
  refine zx_iast C 0 (l_deb (j := j0) hj0) (c_deb (j := j0) hj0) rfl dX4_strikeTriple_67 (fun t_13 => ?_)
  refine zx_aload_n C 1 dX4_strikeTriple_68 rfl rfl ?_
  refine zx_get C 3 (l_House (j := j0) hj0) (c_house (j := j0) hj0) rfl (by decide) inX4 q_157 rfl rfl dX4_strikeTriple_69 ?_
  refine zx_iload_n C 4 dX4_strikeTriple_72 rfl rfl ?_
  refine zx_iload_n C 2 dX4_strikeTriple_73 rfl rfl ?_
  refine zx_callSN (host := "PaidInLight") (av := [.int v3, .int v1]) (st := [.ref (ad (27 + j0))]) C yk_X10_pair (nest_17) q_346 (k_X10_pair C.hO N v3 v1 t_13) (by decide) rfl rfl (Nat.le_of_ble_eq_true rfl) dX4_strikeTriple_74 (fun _ r_14 t_15 => ?_) (fun h9 => nomatch h9)
  refine zx_dup2 C dX4_strikeTriple_77 rfl rfl ?_
  refine zx_iald C 0 (l_deb (j := j0) hj0) (c_deb (j := j0) hj0 _) rfl dX4_strikeTriple_78 ?_
  refine zx_iload C 0 dX4_strikeTriple_79 rfl ?_
  refine zx_isub C dX4_strikeTriple_81 ?_
  refine zx_iast C 0 (l_deb (j := j0) hj0) (c_deb (j := j0) hj0) rfl dX4_strikeTriple_82 (fun t_16 => ?_)
  refine zx_iload C 0 dX4_strikeTriple_83 rfl ?_
  refine zx_if_le (tgt := 92) C dX4_strikeTriple_85 (by decide) (fun h_17 => ?_) (fun h_17 => ?_)
  · refine zx_iconst (v := 0) C dX4_strikeTriple_92 (by decide) ?_
    exact zx_zret C (by decide) dX4_strikeTriple_93
  · refine zx_iconst (v := 1) C dX4_strikeTriple_88 (by decide) ?_
    refine zx_goto (tgt := 93) C dX4_strikeTriple_89 (by decide) ?_
    exact zx_zret C (by decide) dX4_strikeTriple_93
def bf_X4_strikeTriples_51 (N : Nat) (rec4 : Nat → Int32 → Int32 → zS → zA) (rec13 : Nat → Int32 → Int32 → Int32 → zS → zA) (rec23 : Nat → Int32 → Int32 → Int32 → Int32 → zS → zA) (j0 : Nat) (v2 : Int32) (v3 : Int32) (v4 : Int32) (u0 : Int32) (σ : zS) : zA := z_n (u0 + (0 : Int32)) (fun z_1 => (rec23 j0 z_1 v2 v3 (v4 + (1 : Int32)) σ))
set_option maxHeartbeats 4000000 in
set_option maxRecDepth 100000 in
theorem b_X4_strikeTriples_51 {G : zG} {dC : Nat → ClassId} {dI : Nat → Nat → Nat} {A : Nat → Prop} {ad : Nat → Nat} {cI cC cW : ClassId} (C : zC G dC dI A 48 ad (cfC ad cI cC cW) (z_ty cI cC cW) cX4_strikeTriples RX4 5 2 (some .int)) (N : Nat) (rec4 : Nat → Int32 → Int32 → zS → zA) (hrec4 : ∀ (j0 : Nat) (hj0 : j0 < 3) (v1 : Int32) (v2 : Int32) (σ : zS), zW G dC dI A 48 ad (cfC ad cI cC cW) 5 true (rec4 j0 v1 v2 σ) σ 4 [(0, .ref (ad (18 + j0))), (1, .int v1), (2, .int v2)] []) (rec13 : Nat → Int32 → Int32 → Int32 → zS → zA) (hrec13 : ∀ (j0 : Nat) (hj0 : j0 < 3) (v1 : Int32) (v2 : Int32) (v3 : Int32) (σ : zS), zW G dC dI A 48 ad (cfC ad cI cC cW) 5 true (rec13 j0 v1 v2 v3 σ) σ 13 [(0, .ref (ad (18 + j0))), (1, .int v1), (2, .int v2), (3, .int v3)] []) (rec23 : Nat → Int32 → Int32 → Int32 → Int32 → zS → zA) (hrec23 : ∀ (j0 : Nat) (hj0 : j0 < 3) (v1 : Int32) (v2 : Int32) (v3 : Int32) (v4 : Int32) (σ : zS), zW G dC dI A 48 ad (cfC ad cI cC cW) 5 true (rec23 j0 v1 v2 v3 v4 σ) σ 23 [(0, .ref (ad (18 + j0))), (1, .int v1), (2, .int v2), (3, .int v3), (4, .int v4)] []) (j0 : Nat) (hj0 : j0 < 3) (v2 : Int32) (v3 : Int32) (v4 : Int32) (u0 : Int32) (σ : zS) : zW G dC dI A 48 ad (cfC ad cI cC cW) 5 true (bf_X4_strikeTriples_51 N rec4 rec13 rec23 j0 v2 v3 v4 u0 σ) σ 51 [(0, .ref (ad (18 + j0))), (2, .int v2), (3, .int v3), (4, .int v4)] [.int u0] := by
  unfold bf_X4_strikeTriples_51
  refine zx_iconst (v := 0) C dX4_strikeTriples_51 (by decide) ?_
  refine zx_iadd C dX4_strikeTriples_52 ?_
  refine zx_n (fun z_1 => ?_)
  refine zx_istore_n (L1 := [(1, .int z_1), (0, .ref (ad (18 + j0))), (2, .int v2), (3, .int v3), (4, .int v4)]) C dX4_strikeTriples_53 rfl (by decide) rfl ?_
  refine zx_iinc (v := (v4 + (1 : Int32))) (L1 := [(4, .int (v4 + (1 : Int32))), (1, .int z_1), (0, .ref (ad (18 + j0))), (2, .int v2), (3, .int v3)]) C 4 dX4_strikeTriples_54 rfl rfl (by decide) rfl ?_
  refine zx_goto (tgt := 23) C dX4_strikeTriples_57 (by decide) ?_
  exact zx_sub (L1 := [(0, .ref (ad (18 + j0))), (1, .int z_1), (2, .int v2), (3, .int v3), (4, .int (v4 + (1 : Int32)))]) [2, 1, 3, 4, 0] rfl (hrec23 j0 hj0 z_1 v2 v3 (v4 + (1 : Int32)) σ)
def bf_X4_strikeTriples_23 (N : Nat) (rec4 : Nat → Int32 → Int32 → zS → zA) (rec13 : Nat → Int32 → Int32 → Int32 → zS → zA) (rec23 : Nat → Int32 → Int32 → Int32 → Int32 → zS → zA) (j0 : Nat) (v1 : Int32) (v2 : Int32) (v3 : Int32) (v4 : Int32) (σ : zS) : zA := (if (4 : Int32) ≤ v4 then (rec13 j0 v1 v2 (v3 + (1 : Int32)) σ) else (if v4 = v3 then (bf_X4_strikeTriples_51 N rec4 rec13 rec23 j0 v2 v3 v4 v1 σ) else z_b (f_X4_strikeTriple N j0 v2 v3 v4 σ) (fun r_4 t_5 => (if r_4 = (0 : Int32) then (bf_X4_strikeTriples_51 N rec4 rec13 rec23 j0 v2 v3 v4 v1 t_5) else z_n (v1 + (1 : Int32)) (fun z_7 => (rec23 j0 z_7 v2 v3 (v4 + (1 : Int32)) t_5))))))
set_option maxHeartbeats 4000000 in
set_option maxRecDepth 100000 in
theorem b_X4_strikeTriples_23 {G : zG} {dC : Nat → ClassId} {dI : Nat → Nat → Nat} {A : Nat → Prop} {ad : Nat → Nat} {cI cC cW : ClassId} (C : zC G dC dI A 48 ad (cfC ad cI cC cW) (z_ty cI cC cW) cX4_strikeTriples RX4 5 2 (some .int)) (N : Nat) (rec4 : Nat → Int32 → Int32 → zS → zA) (hrec4 : ∀ (j0 : Nat) (hj0 : j0 < 3) (v1 : Int32) (v2 : Int32) (σ : zS), zW G dC dI A 48 ad (cfC ad cI cC cW) 5 true (rec4 j0 v1 v2 σ) σ 4 [(0, .ref (ad (18 + j0))), (1, .int v1), (2, .int v2)] []) (rec13 : Nat → Int32 → Int32 → Int32 → zS → zA) (hrec13 : ∀ (j0 : Nat) (hj0 : j0 < 3) (v1 : Int32) (v2 : Int32) (v3 : Int32) (σ : zS), zW G dC dI A 48 ad (cfC ad cI cC cW) 5 true (rec13 j0 v1 v2 v3 σ) σ 13 [(0, .ref (ad (18 + j0))), (1, .int v1), (2, .int v2), (3, .int v3)] []) (rec23 : Nat → Int32 → Int32 → Int32 → Int32 → zS → zA) (hrec23 : ∀ (j0 : Nat) (hj0 : j0 < 3) (v1 : Int32) (v2 : Int32) (v3 : Int32) (v4 : Int32) (σ : zS), zW G dC dI A 48 ad (cfC ad cI cC cW) 5 true (rec23 j0 v1 v2 v3 v4 σ) σ 23 [(0, .ref (ad (18 + j0))), (1, .int v1), (2, .int v2), (3, .int v3), (4, .int v4)] []) (j0 : Nat) (hj0 : j0 < 3) (v1 : Int32) (v2 : Int32) (v3 : Int32) (v4 : Int32) (σ : zS) : zW G dC dI A 48 ad (cfC ad cI cC cW) 5 true (bf_X4_strikeTriples_23 N rec4 rec13 rec23 j0 v1 v2 v3 v4 σ) σ 23 [(0, .ref (ad (18 + j0))), (1, .int v1), (2, .int v2), (3, .int v3), (4, .int v4)] [] := by
  unfold bf_X4_strikeTriples_23
  refine zx_iload C 4 dX4_strikeTriples_23 rfl ?_
  refine zx_iconst (v := 4) C dX4_strikeTriples_25 (by decide) ?_
  refine zx_icmp_ge (tgt := 60) C dX4_strikeTriples_26 (by decide) (fun h_2 => ?_) (fun h_2 => ?_)
  · refine zx_iinc (v := (v3 + (1 : Int32))) (L1 := [(3, .int (v3 + (1 : Int32))), (0, .ref (ad (18 + j0))), (1, .int v1), (2, .int v2), (4, .int v4)]) C 3 dX4_strikeTriples_60 rfl rfl (by decide) rfl ?_
    refine zx_goto (tgt := 13) C dX4_strikeTriples_63 (by decide) ?_
    exact zx_sub (L1 := [(0, .ref (ad (18 + j0))), (1, .int v1), (2, .int v2), (3, .int (v3 + (1 : Int32)))]) [1, 2, 3, 0] rfl (hrec13 j0 hj0 v1 v2 (v3 + (1 : Int32)) σ)
  · refine zx_iload_n C 1 dX4_strikeTriples_29 rfl rfl ?_
    refine zx_iload C 4 dX4_strikeTriples_30 rfl ?_
    refine zx_iload_n C 3 dX4_strikeTriples_32 rfl rfl ?_
    refine zx_icmp_eq (tgt := 51) C dX4_strikeTriples_33 (by decide) (fun h_3 => ?_) (fun h_3 => ?_)
    · exact zx_sub (L1 := [(0, .ref (ad (18 + j0))), (2, .int v2), (3, .int v3), (4, .int v4)]) [0, 2, 3, 4] rfl (b_X4_strikeTriples_51 C N rec4 hrec4 rec13 hrec13 rec23 hrec23 j0 hj0 v2 v3 v4 v1 σ)
    · refine zx_aload_n C 0 dX4_strikeTriples_36 rfl rfl ?_
      refine zx_iload_n C 2 dX4_strikeTriples_37 rfl rfl ?_
      refine zx_iload_n C 3 dX4_strikeTriples_38 rfl rfl ?_
      refine zx_iload C 4 dX4_strikeTriples_39 rfl ?_
      refine zx_callV (As := [.int v2, .int v3, .int v4]) (st := [.int v1]) C yk_X4_strikeTriple q_588 q_590 q_8 (l_House (j := j0) hj0) (c_house (j := j0) hj0) rfl (k_X4_strikeTriple C.hO N j0 hj0 v2 v3 v4 σ) (by decide) rfl rfl (Nat.le_of_ble_eq_true rfl) dX4_strikeTriples_41 (fun _ r_4 t_5 => ?_) (fun h9 => nomatch h9)
      refine zx_if_eq (tgt := 51) C dX4_strikeTriples_44 (by decide) (fun h_6 => ?_) (fun h_6 => ?_)
      · exact zx_sub (L1 := [(0, .ref (ad (18 + j0))), (2, .int v2), (3, .int v3), (4, .int v4)]) [0, 2, 3, 4] rfl (b_X4_strikeTriples_51 C N rec4 hrec4 rec13 hrec13 rec23 hrec23 j0 hj0 v2 v3 v4 v1 t_5)
      · refine zx_iconst (v := 1) C dX4_strikeTriples_47 (by decide) ?_
        refine zx_goto (tgt := 52) C dX4_strikeTriples_48 (by decide) ?_
        refine zx_iadd C dX4_strikeTriples_52 ?_
        refine zx_n (fun z_7 => ?_)
        refine zx_istore_n (L1 := [(1, .int z_7), (0, .ref (ad (18 + j0))), (2, .int v2), (3, .int v3), (4, .int v4)]) C dX4_strikeTriples_53 rfl (by decide) rfl ?_
        refine zx_iinc (v := (v4 + (1 : Int32))) (L1 := [(4, .int (v4 + (1 : Int32))), (1, .int z_7), (0, .ref (ad (18 + j0))), (2, .int v2), (3, .int v3)]) C 4 dX4_strikeTriples_54 rfl rfl (by decide) rfl ?_
        refine zx_goto (tgt := 23) C dX4_strikeTriples_57 (by decide) ?_
        exact zx_sub (L1 := [(0, .ref (ad (18 + j0))), (1, .int z_7), (2, .int v2), (3, .int v3), (4, .int (v4 + (1 : Int32)))]) [2, 1, 3, 4, 0] rfl (hrec23 j0 hj0 z_7 v2 v3 (v4 + (1 : Int32)) t_5)
def lf_X4_strikeTriples_23 (N : Nat) (rec4 : Nat → Int32 → Int32 → zS → zA) (rec13 : Nat → Int32 → Int32 → Int32 → zS → zA) : Nat → Nat → Int32 → Int32 → Int32 → Int32 → zS → zA
  | 0, _, _, _, _, _, _ => none
  | n + 1, j0, v1, v2, v3, v4, σ => bf_X4_strikeTriples_23 N rec4 rec13 (lf_X4_strikeTriples_23 N rec4 rec13 n) j0 v1 v2 v3 v4 σ
theorem l_X4_strikeTriples_23 {G : zG} {dC : Nat → ClassId} {dI : Nat → Nat → Nat} {A : Nat → Prop} {ad : Nat → Nat} {cI cC cW : ClassId} (C : zC G dC dI A 48 ad (cfC ad cI cC cW) (z_ty cI cC cW) cX4_strikeTriples RX4 5 2 (some .int)) (N : Nat) (rec4 : Nat → Int32 → Int32 → zS → zA) (hrec4 : ∀ (j0 : Nat) (hj0 : j0 < 3) (v1 : Int32) (v2 : Int32) (σ : zS), zW G dC dI A 48 ad (cfC ad cI cC cW) 5 true (rec4 j0 v1 v2 σ) σ 4 [(0, .ref (ad (18 + j0))), (1, .int v1), (2, .int v2)] []) (rec13 : Nat → Int32 → Int32 → Int32 → zS → zA) (hrec13 : ∀ (j0 : Nat) (hj0 : j0 < 3) (v1 : Int32) (v2 : Int32) (v3 : Int32) (σ : zS), zW G dC dI A 48 ad (cfC ad cI cC cW) 5 true (rec13 j0 v1 v2 v3 σ) σ 13 [(0, .ref (ad (18 + j0))), (1, .int v1), (2, .int v2), (3, .int v3)] []) : ∀ (n : Nat) (j0 : Nat) (hj0 : j0 < 3) (v1 : Int32) (v2 : Int32) (v3 : Int32) (v4 : Int32) (σ : zS), zW G dC dI A 48 ad (cfC ad cI cC cW) 5 true (lf_X4_strikeTriples_23 N rec4 rec13 n j0 v1 v2 v3 v4 σ) σ 23 [(0, .ref (ad (18 + j0))), (1, .int v1), (2, .int v2), (3, .int v3), (4, .int v4)] [] := by
  intro n
  induction n with
  | zero => intro j0 hj0 v1 v2 v3 v4 σ; exact zx_none
  | succ n ih => intro j0 hj0 v1 v2 v3 v4 σ; exact b_X4_strikeTriples_23 C N rec4 hrec4 rec13 hrec13 (lf_X4_strikeTriples_23 N rec4 rec13 n) ih j0 hj0 v1 v2 v3 v4 σ
def bf_X4_strikeTriples_13 (N : Nat) (rec4 : Nat → Int32 → Int32 → zS → zA) (rec13 : Nat → Int32 → Int32 → Int32 → zS → zA) (j0 : Nat) (v1 : Int32) (v2 : Int32) (v3 : Int32) (σ : zS) : zA := (if (4 : Int32) ≤ v3 then (rec4 j0 v1 (v2 + (1 : Int32)) σ) else z_n (v2 + (1 : Int32)) (fun z_9 => (lf_X4_strikeTriples_23 N rec4 rec13 N j0 v1 v2 v3 z_9 σ)))
set_option maxHeartbeats 4000000 in
set_option maxRecDepth 100000 in
theorem b_X4_strikeTriples_13 {G : zG} {dC : Nat → ClassId} {dI : Nat → Nat → Nat} {A : Nat → Prop} {ad : Nat → Nat} {cI cC cW : ClassId} (C : zC G dC dI A 48 ad (cfC ad cI cC cW) (z_ty cI cC cW) cX4_strikeTriples RX4 5 2 (some .int)) (N : Nat) (rec4 : Nat → Int32 → Int32 → zS → zA) (hrec4 : ∀ (j0 : Nat) (hj0 : j0 < 3) (v1 : Int32) (v2 : Int32) (σ : zS), zW G dC dI A 48 ad (cfC ad cI cC cW) 5 true (rec4 j0 v1 v2 σ) σ 4 [(0, .ref (ad (18 + j0))), (1, .int v1), (2, .int v2)] []) (rec13 : Nat → Int32 → Int32 → Int32 → zS → zA) (hrec13 : ∀ (j0 : Nat) (hj0 : j0 < 3) (v1 : Int32) (v2 : Int32) (v3 : Int32) (σ : zS), zW G dC dI A 48 ad (cfC ad cI cC cW) 5 true (rec13 j0 v1 v2 v3 σ) σ 13 [(0, .ref (ad (18 + j0))), (1, .int v1), (2, .int v2), (3, .int v3)] []) (j0 : Nat) (hj0 : j0 < 3) (v1 : Int32) (v2 : Int32) (v3 : Int32) (σ : zS) : zW G dC dI A 48 ad (cfC ad cI cC cW) 5 true (bf_X4_strikeTriples_13 N rec4 rec13 j0 v1 v2 v3 σ) σ 13 [(0, .ref (ad (18 + j0))), (1, .int v1), (2, .int v2), (3, .int v3)] [] := by
  unfold bf_X4_strikeTriples_13
  refine zx_iload_n C 3 dX4_strikeTriples_13 rfl rfl ?_
  refine zx_iconst (v := 4) C dX4_strikeTriples_14 (by decide) ?_
  refine zx_icmp_ge (tgt := 66) C dX4_strikeTriples_15 (by decide) (fun h_8 => ?_) (fun h_8 => ?_)
  · refine zx_iinc (v := (v2 + (1 : Int32))) (L1 := [(2, .int (v2 + (1 : Int32))), (0, .ref (ad (18 + j0))), (1, .int v1), (3, .int v3)]) C 2 dX4_strikeTriples_66 rfl rfl (by decide) rfl ?_
    refine zx_goto (tgt := 4) C dX4_strikeTriples_69 (by decide) ?_
    exact zx_sub (L1 := [(0, .ref (ad (18 + j0))), (1, .int v1), (2, .int (v2 + (1 : Int32)))]) [1, 2, 0] rfl (hrec4 j0 hj0 v1 (v2 + (1 : Int32)) σ)
  · refine zx_iload_n C 2 dX4_strikeTriples_18 rfl rfl ?_
    refine zx_iconst (v := 1) C dX4_strikeTriples_19 (by decide) ?_
    refine zx_iadd C dX4_strikeTriples_20 ?_
    refine zx_n (fun z_9 => ?_)
    refine zx_istore (L1 := [(4, .int z_9), (0, .ref (ad (18 + j0))), (1, .int v1), (2, .int v2), (3, .int v3)]) C dX4_strikeTriples_21 (by decide) rfl ?_
    exact zx_sub (L1 := [(0, .ref (ad (18 + j0))), (1, .int v1), (2, .int v2), (3, .int v3), (4, .int z_9)]) [1, 2, 3, 4, 0] rfl (l_X4_strikeTriples_23 C N rec4 hrec4 rec13 hrec13 N j0 hj0 v1 v2 v3 z_9 σ)
def lf_X4_strikeTriples_13 (N : Nat) (rec4 : Nat → Int32 → Int32 → zS → zA) : Nat → Nat → Int32 → Int32 → Int32 → zS → zA
  | 0, _, _, _, _, _ => none
  | n + 1, j0, v1, v2, v3, σ => bf_X4_strikeTriples_13 N rec4 (lf_X4_strikeTriples_13 N rec4 n) j0 v1 v2 v3 σ
theorem l_X4_strikeTriples_13 {G : zG} {dC : Nat → ClassId} {dI : Nat → Nat → Nat} {A : Nat → Prop} {ad : Nat → Nat} {cI cC cW : ClassId} (C : zC G dC dI A 48 ad (cfC ad cI cC cW) (z_ty cI cC cW) cX4_strikeTriples RX4 5 2 (some .int)) (N : Nat) (rec4 : Nat → Int32 → Int32 → zS → zA) (hrec4 : ∀ (j0 : Nat) (hj0 : j0 < 3) (v1 : Int32) (v2 : Int32) (σ : zS), zW G dC dI A 48 ad (cfC ad cI cC cW) 5 true (rec4 j0 v1 v2 σ) σ 4 [(0, .ref (ad (18 + j0))), (1, .int v1), (2, .int v2)] []) : ∀ (n : Nat) (j0 : Nat) (hj0 : j0 < 3) (v1 : Int32) (v2 : Int32) (v3 : Int32) (σ : zS), zW G dC dI A 48 ad (cfC ad cI cC cW) 5 true (lf_X4_strikeTriples_13 N rec4 n j0 v1 v2 v3 σ) σ 13 [(0, .ref (ad (18 + j0))), (1, .int v1), (2, .int v2), (3, .int v3)] [] := by
  intro n
  induction n with
  | zero => intro j0 hj0 v1 v2 v3 σ; exact zx_none
  | succ n ih => intro j0 hj0 v1 v2 v3 σ; exact b_X4_strikeTriples_13 C N rec4 hrec4 (lf_X4_strikeTriples_13 N rec4 n) ih j0 hj0 v1 v2 v3 σ
def bf_X4_strikeTriples_4 (N : Nat) (rec4 : Nat → Int32 → Int32 → zS → zA) (j0 : Nat) (v1 : Int32) (v2 : Int32) (σ : zS) : zA := (if (4 : Int32) ≤ v2 then some (v1, σ) else z_n (v2 + (1 : Int32)) (fun z_11 => (lf_X4_strikeTriples_13 N rec4 N j0 v1 v2 z_11 σ)))
set_option maxHeartbeats 4000000 in
set_option maxRecDepth 100000 in
theorem b_X4_strikeTriples_4 {G : zG} {dC : Nat → ClassId} {dI : Nat → Nat → Nat} {A : Nat → Prop} {ad : Nat → Nat} {cI cC cW : ClassId} (C : zC G dC dI A 48 ad (cfC ad cI cC cW) (z_ty cI cC cW) cX4_strikeTriples RX4 5 2 (some .int)) (N : Nat) (rec4 : Nat → Int32 → Int32 → zS → zA) (hrec4 : ∀ (j0 : Nat) (hj0 : j0 < 3) (v1 : Int32) (v2 : Int32) (σ : zS), zW G dC dI A 48 ad (cfC ad cI cC cW) 5 true (rec4 j0 v1 v2 σ) σ 4 [(0, .ref (ad (18 + j0))), (1, .int v1), (2, .int v2)] []) (j0 : Nat) (hj0 : j0 < 3) (v1 : Int32) (v2 : Int32) (σ : zS) : zW G dC dI A 48 ad (cfC ad cI cC cW) 5 true (bf_X4_strikeTriples_4 N rec4 j0 v1 v2 σ) σ 4 [(0, .ref (ad (18 + j0))), (1, .int v1), (2, .int v2)] [] := by
  unfold bf_X4_strikeTriples_4
  refine zx_iload_n C 2 dX4_strikeTriples_4 rfl rfl ?_
  refine zx_iconst (v := 4) C dX4_strikeTriples_5 (by decide) ?_
  refine zx_icmp_ge (tgt := 72) C dX4_strikeTriples_6 (by decide) (fun h_10 => ?_) (fun h_10 => ?_)
  · refine zx_iload_n C 1 dX4_strikeTriples_72 rfl rfl ?_
    exact zx_iret C dX4_strikeTriples_73
  · refine zx_iload_n C 2 dX4_strikeTriples_9 rfl rfl ?_
    refine zx_iconst (v := 1) C dX4_strikeTriples_10 (by decide) ?_
    refine zx_iadd C dX4_strikeTriples_11 ?_
    refine zx_n (fun z_11 => ?_)
    refine zx_istore_n (L1 := [(3, .int z_11), (0, .ref (ad (18 + j0))), (1, .int v1), (2, .int v2)]) C dX4_strikeTriples_12 rfl (by decide) rfl ?_
    exact zx_sub (L1 := [(0, .ref (ad (18 + j0))), (1, .int v1), (2, .int v2), (3, .int z_11)]) [1, 2, 3, 0] rfl (l_X4_strikeTriples_13 C N rec4 hrec4 N j0 hj0 v1 v2 z_11 σ)
def lf_X4_strikeTriples_4 (N : Nat) : Nat → Nat → Int32 → Int32 → zS → zA
  | 0, _, _, _, _ => none
  | n + 1, j0, v1, v2, σ => bf_X4_strikeTriples_4 N (lf_X4_strikeTriples_4 N  n) j0 v1 v2 σ
theorem l_X4_strikeTriples_4 {G : zG} {dC : Nat → ClassId} {dI : Nat → Nat → Nat} {A : Nat → Prop} {ad : Nat → Nat} {cI cC cW : ClassId} (C : zC G dC dI A 48 ad (cfC ad cI cC cW) (z_ty cI cC cW) cX4_strikeTriples RX4 5 2 (some .int)) (N : Nat) : ∀ (n : Nat) (j0 : Nat) (hj0 : j0 < 3) (v1 : Int32) (v2 : Int32) (σ : zS), zW G dC dI A 48 ad (cfC ad cI cC cW) 5 true (lf_X4_strikeTriples_4 N  n j0 v1 v2 σ) σ 4 [(0, .ref (ad (18 + j0))), (1, .int v1), (2, .int v2)] [] := by
  intro n
  induction n with
  | zero => intro j0 hj0 v1 v2 σ; exact zx_none
  | succ n ih => intro j0 hj0 v1 v2 σ; exact b_X4_strikeTriples_4 C N (lf_X4_strikeTriples_4 N  n) ih j0 hj0 v1 v2 σ
def f_X4_strikeTriples (N : Nat) (j0 : Nat) (σ : zS) : zA := (lf_X4_strikeTriples_4 N N j0 (0 : Int32) (0 : Int32) σ)
set_option maxHeartbeats 4000000 in
set_option maxRecDepth 100000 in
theorem k_X4_strikeTriples {l : Launch} {dC : Nat → ClassId} {dI : Nat → Nat → Nat} {A : Nat → Prop} {ad : Nat → Nat} {cI cC cW : ClassId} (hO : zO A 48 ad (cfC ad cI cC cW)) (N : Nat) (j0 : Nat) (hj0 : j0 < 3) (σ : zS) : zM l dC dI A 48 ad (cfC ad cI cC cW) (z_ty cI cC cW) true yX4_strikeTriples cX4_strikeTriples 5 (some .int) 2 [.ref (ad (18 + j0))] σ (f_X4_strikeTriples N j0 σ) := by
  refine zM_of hO (by decide) (Nat.le_of_ble_eq_true rfl) (fun G hG C => ?_)
  subst hG
  unfold f_X4_strikeTriples
  refine zx_sub (L1 := [(0, .ref (ad (18 + j0)))]) [0] rfl ?_
  refine zx_iconst (v := 0) C dX4_strikeTriples_0 (by decide) ?_
  refine zx_istore_n (L1 := [(1, .int (0 : Int32)), (0, .ref (ad (18 + j0)))]) C dX4_strikeTriples_1 rfl (by decide) rfl ?_
  refine zx_iconst (v := 0) C dX4_strikeTriples_2 (by decide) ?_
  refine zx_istore_n (L1 := [(2, .int (0 : Int32)), (1, .int (0 : Int32)), (0, .ref (ad (18 + j0)))]) C dX4_strikeTriples_3 rfl (by decide) rfl ?_
  exact zx_sub (L1 := [(0, .ref (ad (18 + j0))), (1, .int (0 : Int32)), (2, .int (0 : Int32))]) [2, 1, 0] rfl (l_X4_strikeTriples_4 C N N j0 hj0 (0 : Int32) (0 : Int32) σ)
def f_X10_isKind (N : Nat) (v0 : Int32) (σ : zS) : zA := (if v0 < (0 : Int32) then some ((0 : Int32), σ) else (if (6 : Int32) ≤ v0 then some ((0 : Int32), σ) else some ((1 : Int32), σ)))
set_option maxHeartbeats 4000000 in
set_option maxRecDepth 100000 in
theorem k_X10_isKind {l : Launch} {dC : Nat → ClassId} {dI : Nat → Nat → Nat} {A : Nat → Prop} {ad : Nat → Nat} {cI cC cW : ClassId} (hO : zO A 48 ad (cfC ad cI cC cW)) (N : Nat) (v0 : Int32) (σ : zS) : zM l dC dI A 48 ad (cfC ad cI cC cW) (z_ty cI cC cW) true yX10_isKind cX10_isKind 1 (some .boolean) 0 [.int v0] σ (f_X10_isKind N v0 σ) := by
  refine zM_of hO (by decide) (Nat.le_of_ble_eq_true rfl) (fun G hG C => ?_)
  subst hG
  unfold f_X10_isKind
  refine zx_sub (L1 := [(0, .int v0)]) [0] rfl ?_
  refine zx_iload_n C 0 dX10_isKind_0 rfl rfl ?_
  refine zx_if_lt (tgt := 14) C dX10_isKind_1 (by decide) (fun h_1 => ?_) (fun h_1 => ?_)
  · refine zx_iconst (v := 0) C dX10_isKind_14 (by decide) ?_
    exact zx_zret C (by decide) dX10_isKind_15
  · refine zx_iload_n C 0 dX10_isKind_4 rfl rfl ?_
    refine zx_bipush (v := 6) C dX10_isKind_5 (by decide) ?_
    refine zx_icmp_ge (tgt := 14) C dX10_isKind_7 (by decide) (fun h_2 => ?_) (fun h_2 => ?_)
    · refine zx_iconst (v := 0) C dX10_isKind_14 (by decide) ?_
      exact zx_zret C (by decide) dX10_isKind_15
    · refine zx_iconst (v := 1) C dX10_isKind_10 (by decide) ?_
      refine zx_goto (tgt := 15) C dX10_isKind_11 (by decide) ?_
      exact zx_zret C (by decide) dX10_isKind_15
def f_X10_isPerson (N : Nat) (v0 : Int32) (σ : zS) : zA := (if v0 < (0 : Int32) then some ((0 : Int32), σ) else (if (4 : Int32) ≤ v0 then some ((0 : Int32), σ) else some ((1 : Int32), σ)))
set_option maxHeartbeats 4000000 in
set_option maxRecDepth 100000 in
theorem k_X10_isPerson {l : Launch} {dC : Nat → ClassId} {dI : Nat → Nat → Nat} {A : Nat → Prop} {ad : Nat → Nat} {cI cC cW : ClassId} (hO : zO A 48 ad (cfC ad cI cC cW)) (N : Nat) (v0 : Int32) (σ : zS) : zM l dC dI A 48 ad (cfC ad cI cC cW) (z_ty cI cC cW) true yX10_isPerson cX10_isPerson 1 (some .boolean) 0 [.int v0] σ (f_X10_isPerson N v0 σ) := by
  refine zM_of hO (by decide) (Nat.le_of_ble_eq_true rfl) (fun G hG C => ?_)
  subst hG
  unfold f_X10_isPerson
  refine zx_sub (L1 := [(0, .int v0)]) [0] rfl ?_
  refine zx_iload_n C 0 dX10_isPerson_0 rfl rfl ?_
  refine zx_if_lt (tgt := 13) C dX10_isPerson_1 (by decide) (fun h_1 => ?_) (fun h_1 => ?_)
  · refine zx_iconst (v := 0) C dX10_isPerson_13 (by decide) ?_
    exact zx_zret C (by decide) dX10_isPerson_14
  · refine zx_iload_n C 0 dX10_isPerson_4 rfl rfl ?_
    refine zx_iconst (v := 4) C dX10_isPerson_5 (by decide) ?_
    refine zx_icmp_ge (tgt := 13) C dX10_isPerson_6 (by decide) (fun h_2 => ?_) (fun h_2 => ?_)
    · refine zx_iconst (v := 0) C dX10_isPerson_13 (by decide) ?_
      exact zx_zret C (by decide) dX10_isPerson_14
    · refine zx_iconst (v := 1) C dX10_isPerson_9 (by decide) ?_
      refine zx_goto (tgt := 14) C dX10_isPerson_10 (by decide) ?_
      exact zx_zret C (by decide) dX10_isPerson_14
def f_X4_takeCandle (N : Nat) (j0 : Nat) (v1 : Int32) (v2 : Int32) (v3 : Int32) (v4 : Int32) (σ : zS) : zA := z_b (f_X10_isKind N v1 σ) (fun r_1 t_2 => (if r_1 = (0 : Int32) then some ((0 : Int32), t_2) else z_b (f_X10_isPerson N v3 t_2) (fun r_4 t_5 => (if r_4 = (0 : Int32) then some ((0 : Int32), t_5) else (if (t_5 (18 + j0) 4) < (6 : Int32) then z_g (z_in (t_5 (18 + j0) 4) 6) (z_m (z_put t_5 (6 * j0 + (t_5 (18 + j0) 4).toNatClampNeg) 0 v1) (fun t_9 => z_m (z_put t_9 (6 * j0 + (t_5 (18 + j0) 4).toNatClampNeg) 1 v2) (fun t_10 => z_m (z_put t_10 (6 * j0 + (t_5 (18 + j0) 4).toNatClampNeg) 2 v4) (fun t_11 => z_m (z_put t_11 (6 * j0 + (t_5 (18 + j0) 4).toNatClampNeg) 3 v3) (fun t_12 => z_m (z_put t_12 (6 * j0 + (t_5 (18 + j0) 4).toNatClampNeg) 4 v3) (fun t_13 => z_m (z_put t_13 (6 * j0 + (t_5 (18 + j0) 4).toNatClampNeg) 5 (0 : Int32)) (fun t_14 => z_m (z_put t_14 (18 + j0) 4 ((t_14 (18 + j0) 4) + (1 : Int32))) (fun t_15 => some ((1 : Int32), t_15))))))))) else some ((0 : Int32), t_5))))))
set_option maxHeartbeats 4000000 in
set_option maxRecDepth 100000 in
theorem k_X4_takeCandle {l : Launch} {dC : Nat → ClassId} {dI : Nat → Nat → Nat} {A : Nat → Prop} {ad : Nat → Nat} {cI cC cW : ClassId} (hO : zO A 48 ad (cfC ad cI cC cW)) (N : Nat) (j0 : Nat) (hj0 : j0 < 3) (v1 : Int32) (v2 : Int32) (v3 : Int32) (v4 : Int32) (σ : zS) : zM l dC dI A 48 ad (cfC ad cI cC cW) (z_ty cI cC cW) true yX4_takeCandle cX4_takeCandle 6 (some .boolean) 1 [.ref (ad (18 + j0)), .int v1, .int v2, .int v3, .int v4] σ (f_X4_takeCandle N j0 v1 v2 v3 v4 σ) := by
  refine zM_of hO (by decide) (Nat.le_of_ble_eq_true rfl) (fun G hG C => ?_)
  subst hG
  unfold f_X4_takeCandle
  refine zx_sub (L1 := [(0, .ref (ad (18 + j0))), (1, .int v1), (2, .int v2), (3, .int v3), (4, .int v4)]) [0, 1, 2, 3, 4] rfl ?_
  refine zx_iload_n C 1 dX4_takeCandle_0 rfl rfl ?_
  refine zx_callSN (host := "PaidInLight") (av := [.int v1]) (st := []) C yk_X10_isKind (nest_14) q_332 (k_X10_isKind C.hO N v1 σ) (by decide) rfl rfl (Nat.le_of_ble_eq_true rfl) dX4_takeCandle_1 (fun _ r_1 t_2 => ?_) (fun h9 => nomatch h9)
  refine zx_if_eq (tgt := 23) C dX4_takeCandle_4 (by decide) (fun h_3 => ?_) (fun h_3 => ?_)
  · refine zx_iconst (v := 0) C dX4_takeCandle_23 (by decide) ?_
    exact zx_zret C (by decide) dX4_takeCandle_24
  · refine zx_iload_n C 3 dX4_takeCandle_7 rfl rfl ?_
    refine zx_callSN (host := "PaidInLight") (av := [.int v3]) (st := []) C yk_X10_isPerson (nest_15) q_335 (k_X10_isPerson C.hO N v3 t_2) (by decide) rfl rfl (Nat.le_of_ble_eq_true rfl) dX4_takeCandle_8 (fun _ r_4 t_5 => ?_) (fun h9 => nomatch h9)
    refine zx_if_eq (tgt := 23) C dX4_takeCandle_11 (by decide) (fun h_6 => ?_) (fun h_6 => ?_)
    · refine zx_iconst (v := 0) C dX4_takeCandle_23 (by decide) ?_
      exact zx_zret C (by decide) dX4_takeCandle_24
    · refine zx_aload_n C 0 dX4_takeCandle_14 rfl rfl ?_
      refine zx_get C 4 (l_House (j := j0) hj0) (c_house (j := j0) hj0) rfl (by decide) inX4 q_160 rfl rfl dX4_takeCandle_15 ?_
      refine zx_bipush (v := 6) C dX4_takeCandle_18 (by decide) ?_
      refine zx_icmp_lt (tgt := 25) C dX4_takeCandle_20 (by decide) (fun h_7 => ?_) (fun h_7 => ?_)
      · refine zx_aload_n C 0 dX4_takeCandle_25 rfl rfl ?_
        refine zx_get C 1 (l_House (j := j0) hj0) (c_house (j := j0) hj0) rfl (by decide) inX4 q_151 rfl rfl dX4_takeCandle_26 ?_
        refine zx_aload_n C 0 dX4_takeCandle_29 rfl rfl ?_
        refine zx_get C 4 (l_House (j := j0) hj0) (c_house (j := j0) hj0) rfl (by decide) inX4 q_160 rfl rfl dX4_takeCandle_30 ?_
        refine zx_aald C 1 (l_cands (j := j0) hj0) (c_cands (j := j0) hj0) rfl dX4_takeCandle_33 (fun h_8 => ?_)
        refine zx_astore (L1 := [(5, .ref (ad (6 * j0 + (t_5 (18 + j0) 4).toNatClampNeg))), (0, .ref (ad (18 + j0))), (1, .int v1), (2, .int v2), (3, .int v3), (4, .int v4)]) C dX4_takeCandle_34 (by decide) rfl ?_
        refine zx_aload C 0 dX4_takeCandle_36 rfl ?_
        refine zx_iload_n C 2 dX4_takeCandle_38 rfl rfl ?_
        refine zx_put (ty := .int) C 0 (l_cand (c := (6 * j0 + (t_5 (18 + j0) 4).toNatClampNeg)) (cand_lt h_8 hj0)) (c_cand (c := (6 * j0 + (t_5 (18 + j0) 4).toNatClampNeg)) (cand_lt h_8 hj0)) rfl (by decide) inX1 tyX1 tyX1_ok nmX1 q_115 rfl rfl (by decide +kernel) rfl rfl (Nat.le_of_ble_eq_true rfl) (by rw [c_cand (c := (6 * j0 + (t_5 (18 + j0) 4).toNatClampNeg)) (cand_lt h_8 hj0), z_put_same]; rfl) dX4_takeCandle_39 (fun t_9 => ?_)
        refine zx_aload C 0 dX4_takeCandle_42 rfl ?_
        refine zx_iload_n C 3 dX4_takeCandle_44 rfl rfl ?_
        refine zx_put (ty := .int) C 1 (l_cand (c := (6 * j0 + (t_5 (18 + j0) 4).toNatClampNeg)) (cand_lt h_8 hj0)) (c_cand (c := (6 * j0 + (t_5 (18 + j0) 4).toNatClampNeg)) (cand_lt h_8 hj0)) rfl (by decide) inX1 tyX1 tyX1_ok nmX1 q_119 rfl rfl (by decide +kernel) rfl rfl (Nat.le_of_ble_eq_true rfl) (by rw [c_cand (c := (6 * j0 + (t_5 (18 + j0) 4).toNatClampNeg)) (cand_lt h_8 hj0), z_put_same]; rfl) dX4_takeCandle_45 (fun t_10 => ?_)
        refine zx_aload C 0 dX4_takeCandle_48 rfl ?_
        refine zx_iload C 5 dX4_takeCandle_50 rfl ?_
        refine zx_put (ty := .int) C 2 (l_cand (c := (6 * j0 + (t_5 (18 + j0) 4).toNatClampNeg)) (cand_lt h_8 hj0)) (c_cand (c := (6 * j0 + (t_5 (18 + j0) 4).toNatClampNeg)) (cand_lt h_8 hj0)) rfl (by decide) inX1 tyX1 tyX1_ok nmX1 q_123 rfl rfl (by decide +kernel) rfl rfl (Nat.le_of_ble_eq_true rfl) (by rw [c_cand (c := (6 * j0 + (t_5 (18 + j0) 4).toNatClampNeg)) (cand_lt h_8 hj0), z_put_same]; rfl) dX4_takeCandle_52 (fun t_11 => ?_)
        refine zx_aload C 0 dX4_takeCandle_55 rfl ?_
        refine zx_iload_n C 4 dX4_takeCandle_57 rfl rfl ?_
        refine zx_put (ty := .int) C 3 (l_cand (c := (6 * j0 + (t_5 (18 + j0) 4).toNatClampNeg)) (cand_lt h_8 hj0)) (c_cand (c := (6 * j0 + (t_5 (18 + j0) 4).toNatClampNeg)) (cand_lt h_8 hj0)) rfl (by decide) inX1 tyX1 tyX1_ok nmX1 q_129 rfl rfl (by decide +kernel) rfl rfl (Nat.le_of_ble_eq_true rfl) (by rw [c_cand (c := (6 * j0 + (t_5 (18 + j0) 4).toNatClampNeg)) (cand_lt h_8 hj0), z_put_same]; rfl) dX4_takeCandle_58 (fun t_12 => ?_)
        refine zx_aload C 0 dX4_takeCandle_61 rfl ?_
        refine zx_iload_n C 4 dX4_takeCandle_63 rfl rfl ?_
        refine zx_put (ty := .int) C 4 (l_cand (c := (6 * j0 + (t_5 (18 + j0) 4).toNatClampNeg)) (cand_lt h_8 hj0)) (c_cand (c := (6 * j0 + (t_5 (18 + j0) 4).toNatClampNeg)) (cand_lt h_8 hj0)) rfl (by decide) inX1 tyX1 tyX1_ok nmX1 q_131 rfl rfl (by decide +kernel) rfl rfl (Nat.le_of_ble_eq_true rfl) (by rw [c_cand (c := (6 * j0 + (t_5 (18 + j0) 4).toNatClampNeg)) (cand_lt h_8 hj0), z_put_same]; rfl) dX4_takeCandle_64 (fun t_13 => ?_)
        refine zx_aload C 0 dX4_takeCandle_67 rfl ?_
        refine zx_iconst (v := 0) C dX4_takeCandle_69 (by decide) ?_
        refine zx_put (ty := .boolean) C 5 (l_cand (c := (6 * j0 + (t_5 (18 + j0) 4).toNatClampNeg)) (cand_lt h_8 hj0)) (c_cand (c := (6 * j0 + (t_5 (18 + j0) 4).toNatClampNeg)) (cand_lt h_8 hj0)) rfl (by decide) inX1 tyX1 tyX1_ok nmX1 q_135 rfl rfl (by decide +kernel) (z_bo_n (by decide)) (z_bo_f (by decide)) (Nat.le_of_ble_eq_true rfl) (by rw [c_cand (c := (6 * j0 + (t_5 (18 + j0) 4).toNatClampNeg)) (cand_lt h_8 hj0), z_put_same]; rfl) dX4_takeCandle_70 (fun t_14 => ?_)
        refine zx_aload_n C 1 dX4_takeCandle_73 rfl rfl ?_
        refine zx_dup C dX4_takeCandle_74 rfl ?_
        refine zx_get C 4 (l_House (j := j0) hj0) (c_house (j := j0) hj0) rfl (by decide) inX4 q_160 rfl rfl dX4_takeCandle_75 ?_
        refine zx_iconst (v := 1) C dX4_takeCandle_78 (by decide) ?_
        refine zx_iadd C dX4_takeCandle_79 ?_
        refine zx_put (ty := .int) C 4 (l_House (j := j0) hj0) (c_house (j := j0) hj0) rfl (by decide) inX4 tyX4 tyX4_ok nmX4 q_160 rfl rfl (by decide +kernel) rfl rfl (Nat.le_of_ble_eq_true rfl) (by rw [c_house (j := j0) hj0, z_put_same]; rfl) dX4_takeCandle_80 (fun t_15 => ?_)
        refine zx_iconst (v := 1) C dX4_takeCandle_83 (by decide) ?_
        exact zx_zret C (by decide) dX4_takeCandle_84
      · refine zx_iconst (v := 0) C dX4_takeCandle_23 (by decide) ?_
        exact zx_zret C (by decide) dX4_takeCandle_24
def f_X10_areTwo (N : Nat) (v0 : Int32) (v1 : Int32) (σ : zS) : zA := z_b (f_X10_isPerson N v0 σ) (fun r_1 t_2 => (if r_1 = (0 : Int32) then some ((0 : Int32), t_2) else z_b (f_X10_isPerson N v1 t_2) (fun r_4 t_5 => (if r_4 = (0 : Int32) then some ((0 : Int32), t_5) else (if v0 = v1 then some ((0 : Int32), t_5) else some ((1 : Int32), t_5))))))
set_option maxHeartbeats 4000000 in
set_option maxRecDepth 100000 in
theorem k_X10_areTwo {l : Launch} {dC : Nat → ClassId} {dI : Nat → Nat → Nat} {A : Nat → Prop} {ad : Nat → Nat} {cI cC cW : ClassId} (hO : zO A 48 ad (cfC ad cI cC cW)) (N : Nat) (v0 : Int32) (v1 : Int32) (σ : zS) : zM l dC dI A 48 ad (cfC ad cI cC cW) (z_ty cI cC cW) true yX10_areTwo cX10_areTwo 2 (some .boolean) 1 [.int v0, .int v1] σ (f_X10_areTwo N v0 v1 σ) := by
  refine zM_of hO (by decide) (Nat.le_of_ble_eq_true rfl) (fun G hG C => ?_)
  subst hG
  unfold f_X10_areTwo
  refine zx_sub (L1 := [(0, .int v0), (1, .int v1)]) [0, 1] rfl ?_
  refine zx_iload_n C 0 dX10_areTwo_0 rfl rfl ?_
  refine zx_callS (av := [.int v0]) (st := []) C yk_X10_isPerson q_344 q_335 (k_X10_isPerson C.hO N v0 σ) (by decide) rfl rfl (Nat.le_of_ble_eq_true rfl) dX10_areTwo_1 (fun _ r_1 t_2 => ?_) (fun h9 => nomatch h9)
  refine zx_if_eq (tgt := 23) C dX10_areTwo_4 (by decide) (fun h_3 => ?_) (fun h_3 => ?_)
  · refine zx_iconst (v := 0) C dX10_areTwo_23 (by decide) ?_
    exact zx_zret C (by decide) dX10_areTwo_24
  · refine zx_iload_n C 1 dX10_areTwo_7 rfl rfl ?_
    refine zx_callS (av := [.int v1]) (st := []) C yk_X10_isPerson q_344 q_335 (k_X10_isPerson C.hO N v1 t_2) (by decide) rfl rfl (Nat.le_of_ble_eq_true rfl) dX10_areTwo_8 (fun _ r_4 t_5 => ?_) (fun h9 => nomatch h9)
    refine zx_if_eq (tgt := 23) C dX10_areTwo_11 (by decide) (fun h_6 => ?_) (fun h_6 => ?_)
    · refine zx_iconst (v := 0) C dX10_areTwo_23 (by decide) ?_
      exact zx_zret C (by decide) dX10_areTwo_24
    · refine zx_iload_n C 0 dX10_areTwo_14 rfl rfl ?_
      refine zx_iload_n C 1 dX10_areTwo_15 rfl rfl ?_
      refine zx_icmp_eq (tgt := 23) C dX10_areTwo_16 (by decide) (fun h_7 => ?_) (fun h_7 => ?_)
      · refine zx_iconst (v := 0) C dX10_areTwo_23 (by decide) ?_
        exact zx_zret C (by decide) dX10_areTwo_24
      · refine zx_iconst (v := 1) C dX10_areTwo_19 (by decide) ?_
        refine zx_goto (tgt := 24) C dX10_areTwo_20 (by decide) ?_
        exact zx_zret C (by decide) dX10_areTwo_24
def f_X4_takeDebt (N : Nat) (j0 : Nat) (v1 : Int32) (v2 : Int32) (v3 : Int32) (σ : zS) : zA := z_b (f_X10_areTwo N v1 v2 σ) (fun r_1 t_2 => (if r_1 = (0 : Int32) then some ((0 : Int32), t_2) else z_b (f_X10_pair N v1 v2 t_2) (fun r_4 t_5 => z_g (z_in r_4 16) (z_m (z_put t_5 (27 + j0) r_4.toNatClampNeg v3) (fun t_6 => some ((1 : Int32), t_6))))))
set_option maxHeartbeats 4000000 in
set_option maxRecDepth 100000 in
theorem k_X4_takeDebt {l : Launch} {dC : Nat → ClassId} {dI : Nat → Nat → Nat} {A : Nat → Prop} {ad : Nat → Nat} {cI cC cW : ClassId} (hO : zO A 48 ad (cfC ad cI cC cW)) (N : Nat) (j0 : Nat) (hj0 : j0 < 3) (v1 : Int32) (v2 : Int32) (v3 : Int32) (σ : zS) : zM l dC dI A 48 ad (cfC ad cI cC cW) (z_ty cI cC cW) true yX4_takeDebt cX4_takeDebt 4 (some .boolean) 2 [.ref (ad (18 + j0)), .int v1, .int v2, .int v3] σ (f_X4_takeDebt N j0 v1 v2 v3 σ) := by
  refine zM_of hO (by decide) (Nat.le_of_ble_eq_true rfl) (fun G hG C => ?_)
  subst hG
  unfold f_X4_takeDebt
  refine zx_sub (L1 := [(0, .ref (ad (18 + j0))), (1, .int v1), (2, .int v2), (3, .int v3)]) [0, 1, 2, 3] rfl ?_
  refine zx_iload_n C 1 dX4_takeDebt_0 rfl rfl ?_
  refine zx_iload_n C 2 dX4_takeDebt_1 rfl rfl ?_
  refine zx_callSN (host := "PaidInLight") (av := [.int v1, .int v2]) (st := []) C yk_X10_areTwo (nest_16) q_342 (k_X10_areTwo C.hO N v1 v2 σ) (by decide) rfl rfl (Nat.le_of_ble_eq_true rfl) dX4_takeDebt_2 (fun _ r_1 t_2 => ?_) (fun h9 => nomatch h9)
  refine zx_if_ne (tgt := 10) C dX4_takeDebt_5 (by decide) (fun h_3 => ?_) (fun h_3 => ?_)
  · refine zx_aload_n C 0 dX4_takeDebt_10 rfl rfl ?_
    refine zx_get C 3 (l_House (j := j0) hj0) (c_house (j := j0) hj0) rfl (by decide) inX4 q_157 rfl rfl dX4_takeDebt_11 ?_
    refine zx_iload_n C 1 dX4_takeDebt_14 rfl rfl ?_
    refine zx_iload_n C 2 dX4_takeDebt_15 rfl rfl ?_
    refine zx_callSN (host := "PaidInLight") (av := [.int v1, .int v2]) (st := [.ref (ad (27 + j0))]) C yk_X10_pair (nest_17) q_346 (k_X10_pair C.hO N v1 v2 t_2) (by decide) rfl rfl (Nat.le_of_ble_eq_true rfl) dX4_takeDebt_16 (fun _ r_4 t_5 => ?_) (fun h9 => nomatch h9)
    refine zx_iload_n C 3 dX4_takeDebt_19 rfl rfl ?_
    refine zx_iast C 0 (l_deb (j := j0) hj0) (c_deb (j := j0) hj0) rfl dX4_takeDebt_20 (fun t_6 => ?_)
    refine zx_iconst (v := 1) C dX4_takeDebt_21 (by decide) ?_
    exact zx_zret C (by decide) dX4_takeDebt_22
  · refine zx_iconst (v := 0) C dX4_takeDebt_8 (by decide) ?_
    exact zx_zret C (by decide) dX4_takeDebt_9
def f_X4_takeDraught (N : Nat) (j0 : Nat) (v1 : Int32) (v2 : Int32) (σ : zS) : zA := z_b (f_X10_isPerson N v1 σ) (fun r_1 t_2 => (if r_1 = (0 : Int32) then some ((0 : Int32), t_2) else z_g (z_in v1 4) (z_m (z_put t_2 (24 + j0) v1.toNatClampNeg v2) (fun t_4 => some ((1 : Int32), t_4)))))
set_option maxHeartbeats 4000000 in
set_option maxRecDepth 100000 in
theorem k_X4_takeDraught {l : Launch} {dC : Nat → ClassId} {dI : Nat → Nat → Nat} {A : Nat → Prop} {ad : Nat → Nat} {cI cC cW : ClassId} (hO : zO A 48 ad (cfC ad cI cC cW)) (N : Nat) (j0 : Nat) (hj0 : j0 < 3) (v1 : Int32) (v2 : Int32) (σ : zS) : zM l dC dI A 48 ad (cfC ad cI cC cW) (z_ty cI cC cW) true yX4_takeDraught cX4_takeDraught 3 (some .boolean) 1 [.ref (ad (18 + j0)), .int v1, .int v2] σ (f_X4_takeDraught N j0 v1 v2 σ) := by
  refine zM_of hO (by decide) (Nat.le_of_ble_eq_true rfl) (fun G hG C => ?_)
  subst hG
  unfold f_X4_takeDraught
  refine zx_sub (L1 := [(0, .ref (ad (18 + j0))), (1, .int v1), (2, .int v2)]) [0, 1, 2] rfl ?_
  refine zx_iload_n C 1 dX4_takeDraught_0 rfl rfl ?_
  refine zx_callSN (host := "PaidInLight") (av := [.int v1]) (st := []) C yk_X10_isPerson (nest_15) q_335 (k_X10_isPerson C.hO N v1 σ) (by decide) rfl rfl (Nat.le_of_ble_eq_true rfl) dX4_takeDraught_1 (fun _ r_1 t_2 => ?_) (fun h9 => nomatch h9)
  refine zx_if_ne (tgt := 9) C dX4_takeDraught_4 (by decide) (fun h_3 => ?_) (fun h_3 => ?_)
  · refine zx_aload_n C 0 dX4_takeDraught_9 rfl rfl ?_
    refine zx_get C 2 (l_House (j := j0) hj0) (c_house (j := j0) hj0) rfl (by decide) inX4 q_154 rfl rfl dX4_takeDraught_10 ?_
    refine zx_iload_n C 1 dX4_takeDraught_13 rfl rfl ?_
    refine zx_iload_n C 2 dX4_takeDraught_14 rfl rfl ?_
    refine zx_iast C 0 (l_dra (j := j0) hj0) (c_dra (j := j0) hj0) rfl dX4_takeDraught_15 (fun t_4 => ?_)
    refine zx_iconst (v := 1) C dX4_takeDraught_16 (by decide) ?_
    exact zx_zret C (by decide) dX4_takeDraught_17
  · refine zx_iconst (v := 0) C dX4_takeDraught_7 (by decide) ?_
    exact zx_zret C (by decide) dX4_takeDraught_8
def f_X4_takePlace (N : Nat) (j0 : Nat) (v1 : Int32) (v2 : Int32) (σ : zS) : zA := (if v1 < (0 : Int32) then some ((0 : Int32), σ) else (if (σ (18 + j0) 4) ≤ v1 then some ((0 : Int32), σ) else z_b (f_X10_isPerson N v2 σ) (fun r_3 t_4 => (if r_3 = (0 : Int32) then some ((0 : Int32), t_4) else z_g (z_in v1 6) (z_m (z_put t_4 (6 * j0 + v1.toNatClampNeg) 4 v2) (fun t_7 => z_g (z_in v1 6) (z_g (z_in v1 6) ((if (t_7 (6 * j0 + v1.toNatClampNeg) 2) ≤ (0 : Int32) then z_m (z_put t_7 (6 * j0 + v1.toNatClampNeg) 5 (0 : Int32)) (fun t_11 => some ((1 : Int32), t_11)) else z_m (z_put t_7 (6 * j0 + v1.toNatClampNeg) 5 (1 : Int32)) (fun t_12 => some ((1 : Int32), t_12)))))))))))
set_option maxHeartbeats 4000000 in
set_option maxRecDepth 100000 in
theorem k_X4_takePlace {l : Launch} {dC : Nat → ClassId} {dI : Nat → Nat → Nat} {A : Nat → Prop} {ad : Nat → Nat} {cI cC cW : ClassId} (hO : zO A 48 ad (cfC ad cI cC cW)) (N : Nat) (j0 : Nat) (hj0 : j0 < 3) (v1 : Int32) (v2 : Int32) (σ : zS) : zM l dC dI A 48 ad (cfC ad cI cC cW) (z_ty cI cC cW) true yX4_takePlace cX4_takePlace 3 (some .boolean) 1 [.ref (ad (18 + j0)), .int v1, .int v2] σ (f_X4_takePlace N j0 v1 v2 σ) := by
  refine zM_of hO (by decide) (Nat.le_of_ble_eq_true rfl) (fun G hG C => ?_)
  subst hG
  unfold f_X4_takePlace
  refine zx_sub (L1 := [(0, .ref (ad (18 + j0))), (1, .int v1), (2, .int v2)]) [0, 1, 2] rfl ?_
  refine zx_iload_n C 1 dX4_takePlace_0 rfl rfl ?_
  refine zx_if_lt (tgt := 19) C dX4_takePlace_1 (by decide) (fun h_1 => ?_) (fun h_1 => ?_)
  · refine zx_iconst (v := 0) C dX4_takePlace_19 (by decide) ?_
    exact zx_zret C (by decide) dX4_takePlace_20
  · refine zx_iload_n C 1 dX4_takePlace_4 rfl rfl ?_
    refine zx_aload_n C 0 dX4_takePlace_5 rfl rfl ?_
    refine zx_get C 4 (l_House (j := j0) hj0) (c_house (j := j0) hj0) rfl (by decide) inX4 q_160 rfl rfl dX4_takePlace_6 ?_
    refine zx_icmp_ge (tgt := 19) C dX4_takePlace_9 (by decide) (fun h_2 => ?_) (fun h_2 => ?_)
    · refine zx_iconst (v := 0) C dX4_takePlace_19 (by decide) ?_
      exact zx_zret C (by decide) dX4_takePlace_20
    · refine zx_iload_n C 2 dX4_takePlace_12 rfl rfl ?_
      refine zx_callSN (host := "PaidInLight") (av := [.int v2]) (st := []) C yk_X10_isPerson (nest_15) q_335 (k_X10_isPerson C.hO N v2 σ) (by decide) rfl rfl (Nat.le_of_ble_eq_true rfl) dX4_takePlace_13 (fun _ r_3 t_4 => ?_) (fun h9 => nomatch h9)
      refine zx_if_ne (tgt := 21) C dX4_takePlace_16 (by decide) (fun h_5 => ?_) (fun h_5 => ?_)
      · refine zx_aload_n C 0 dX4_takePlace_21 rfl rfl ?_
        refine zx_get C 1 (l_House (j := j0) hj0) (c_house (j := j0) hj0) rfl (by decide) inX4 q_151 rfl rfl dX4_takePlace_22 ?_
        refine zx_iload_n C 1 dX4_takePlace_25 rfl rfl ?_
        refine zx_aald C 1 (l_cands (j := j0) hj0) (c_cands (j := j0) hj0) rfl dX4_takePlace_26 (fun h_6 => ?_)
        refine zx_iload_n C 2 dX4_takePlace_27 rfl rfl ?_
        refine zx_put (ty := .int) C 4 (l_cand (c := (6 * j0 + v1.toNatClampNeg)) (cand_lt h_6 hj0)) (c_cand (c := (6 * j0 + v1.toNatClampNeg)) (cand_lt h_6 hj0)) rfl (by decide) inX1 tyX1 tyX1_ok nmX1 q_131 rfl rfl (by decide +kernel) rfl rfl (Nat.le_of_ble_eq_true rfl) (by rw [c_cand (c := (6 * j0 + v1.toNatClampNeg)) (cand_lt h_6 hj0), z_put_same]; rfl) dX4_takePlace_28 (fun t_7 => ?_)
        refine zx_aload_n C 0 dX4_takePlace_31 rfl rfl ?_
        refine zx_get C 1 (l_House (j := j0) hj0) (c_house (j := j0) hj0) rfl (by decide) inX4 q_151 rfl rfl dX4_takePlace_32 ?_
        refine zx_iload_n C 1 dX4_takePlace_35 rfl rfl ?_
        refine zx_aald C 1 (l_cands (j := j0) hj0) (c_cands (j := j0) hj0) rfl dX4_takePlace_36 (fun h_8 => ?_)
        refine zx_aload_n C 0 dX4_takePlace_37 rfl rfl ?_
        refine zx_get C 1 (l_House (j := j0) hj0) (c_house (j := j0) hj0) rfl (by decide) inX4 q_151 rfl rfl dX4_takePlace_38 ?_
        refine zx_iload_n C 1 dX4_takePlace_41 rfl rfl ?_
        refine zx_aald C 1 (l_cands (j := j0) hj0) (c_cands (j := j0) hj0) rfl dX4_takePlace_42 (fun h_9 => ?_)
        refine zx_get C 2 (l_cand (c := (6 * j0 + v1.toNatClampNeg)) (cand_lt h_9 hj0)) (c_cand (c := (6 * j0 + v1.toNatClampNeg)) (cand_lt h_9 hj0)) rfl (by decide) inX1 q_123 rfl rfl dX4_takePlace_43 ?_
        refine zx_if_le (tgt := 53) C dX4_takePlace_46 (by decide) (fun h_10 => ?_) (fun h_10 => ?_)
        · refine zx_iconst (v := 0) C dX4_takePlace_53 (by decide) ?_
          refine zx_put (ty := .boolean) C 5 (l_cand (c := (6 * j0 + v1.toNatClampNeg)) (cand_lt h_8 hj0)) (c_cand (c := (6 * j0 + v1.toNatClampNeg)) (cand_lt h_8 hj0)) rfl (by decide) inX1 tyX1 tyX1_ok nmX1 q_135 rfl rfl (by decide +kernel) (z_bo_n (by decide)) (z_bo_f (by decide)) (Nat.le_of_ble_eq_true rfl) (by rw [c_cand (c := (6 * j0 + v1.toNatClampNeg)) (cand_lt h_8 hj0), z_put_same]; rfl) dX4_takePlace_54 (fun t_11 => ?_)
          refine zx_iconst (v := 1) C dX4_takePlace_57 (by decide) ?_
          exact zx_zret C (by decide) dX4_takePlace_58
        · refine zx_iconst (v := 1) C dX4_takePlace_49 (by decide) ?_
          refine zx_goto (tgt := 54) C dX4_takePlace_50 (by decide) ?_
          refine zx_put (ty := .boolean) C 5 (l_cand (c := (6 * j0 + v1.toNatClampNeg)) (cand_lt h_8 hj0)) (c_cand (c := (6 * j0 + v1.toNatClampNeg)) (cand_lt h_8 hj0)) rfl (by decide) inX1 tyX1 tyX1_ok nmX1 q_135 rfl rfl (by decide +kernel) (z_bo_n (by decide)) (z_bo_f (by decide)) (Nat.le_of_ble_eq_true rfl) (by rw [c_cand (c := (6 * j0 + v1.toNatClampNeg)) (cand_lt h_8 hj0), z_put_same]; rfl) dX4_takePlace_54 (fun t_12 => ?_)
          refine zx_iconst (v := 1) C dX4_takePlace_57 (by decide) ?_
          exact zx_zret C (by decide) dX4_takePlace_58
      · refine zx_iconst (v := 0) C dX4_takePlace_19 (by decide) ?_
        exact zx_zret C (by decide) dX4_takePlace_20
