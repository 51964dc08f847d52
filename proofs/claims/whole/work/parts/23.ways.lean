def bf_X9_worthIn_55 (N : Nat) (rec55 : Int32 → Nat → Nat → Int32 → Int32 → Int32 → Int32 → Int32 → zS → zA) (v3 : Int32) (c4 : Nat) (k5 : Nat) (v6 : Int32) (v7 : Int32) (v8 : Int32) (v9 : Int32) (v10 : Int32) (σ : zS) : zA := (if v3 ≤ v10 then some (v9, σ) else (if v8 ≤ (0 : Int32) then some (v9, σ) else z_n (if v8 < v7 then v8 else v7) (fun z_3 => z_b (v_worth N k5 z_3 (σ c4 1) v6 σ) (fun r_4 t_5 => z_n (v9 + r_4) (fun z_6 => z_n (v8 - z_3) (fun z_7 => (rec55 v3 c4 k5 v6 v7 z_7 z_6 (v10 + (1 : Int32)) t_5)))))))
set_option maxHeartbeats 4000000 in
set_option maxRecDepth 100000 in
theorem b_X9_worthIn_55 {G : zG} {dC : Nat → ClassId} {dI : Nat → Nat → Nat} {A : Nat → Prop} {ad : Nat → Nat} {cI cC cW : ClassId} (C : zC G dC dI A 48 ad (cfC ad cI cC cW) (z_ty cI cC cW) cX9_worthIn RX9 12 3 (some .int)) (N : Nat) (rec55 : Int32 → Nat → Nat → Int32 → Int32 → Int32 → Int32 → Int32 → zS → zA) (hrec55 : ∀ (v3 : Int32) (c4 : Nat) (hc4 : c4 < 18) (k5 : Nat) (hk5 : k5 < 6) (v6 : Int32) (v7 : Int32) (v8 : Int32) (v9 : Int32) (v10 : Int32) (σ : zS), zW G dC dI A 48 ad (cfC ad cI cC cW) 12 true (rec55 v3 c4 k5 v6 v7 v8 v9 v10 σ) σ 55 [(3, .int v3), (4, .ref (ad c4)), (5, .ref (ad (30 + k5))), (6, .int v6), (7, .int v7), (8, .int v8), (9, .int v9), (10, .int v10)] []) (v3 : Int32) (c4 : Nat) (hc4 : c4 < 18) (k5 : Nat) (hk5 : k5 < 6) (v6 : Int32) (v7 : Int32) (v8 : Int32) (v9 : Int32) (v10 : Int32) (σ : zS) : zW G dC dI A 48 ad (cfC ad cI cC cW) 12 true (bf_X9_worthIn_55 N rec55 v3 c4 k5 v6 v7 v8 v9 v10 σ) σ 55 [(3, .int v3), (4, .ref (ad c4)), (5, .ref (ad (30 + k5))), (6, .int v6), (7, .int v7), (8, .int v8), (9, .int v9), (10, .int v10)] [] := by
  unfold bf_X9_worthIn_55
  refine zx_iload C 7 dX9_worthIn_55 rfl ?_
  refine zx_iload_n C 0 dX9_worthIn_57 rfl rfl ?_
  refine zx_icmp_ge (tgt := 107) C dX9_worthIn_58 (by decide) (fun h_1 => ?_) (fun h_1 => ?_)
  · refine zx_iload C 6 dX9_worthIn_107 rfl ?_
    exact zx_iret C dX9_worthIn_109
  · refine zx_iload C 5 dX9_worthIn_61 rfl ?_
    refine zx_if_le (tgt := 107) C dX9_worthIn_63 (by decide) (fun h_2 => ?_) (fun h_2 => ?_)
    · refine zx_iload C 6 dX9_worthIn_107 rfl ?_
      exact zx_iret C dX9_worthIn_109
    · refine zx_iload C 4 dX9_worthIn_66 rfl ?_
      refine zx_iload C 5 dX9_worthIn_68 rfl ?_
      refine zx_min C q_558 q_398 q_49 q_399 (by decide) (Nat.le_of_ble_eq_true rfl) dX9_worthIn_70 ?_
      refine zx_n (fun z_3 => ?_)
      refine zx_istore (L1 := [(11, .int z_3), (3, .int v3), (4, .ref (ad c4)), (5, .ref (ad (30 + k5))), (6, .int v6), (7, .int v7), (8, .int v8), (9, .int v9), (10, .int v10)]) C dX9_worthIn_73 (by decide) rfl ?_
      refine zx_iload C 7 dX9_worthIn_75 rfl ?_
      refine zx_aload C 3 dX9_worthIn_77 rfl ?_
      refine zx_iload C 0 dX9_worthIn_79 rfl ?_
      refine zx_aload C 2 dX9_worthIn_81 rfl ?_
      refine zx_get C 1 (l_cand (c := c4) hc4) (c_cand (c := c4) hc4) rfl (by decide) inX1 q_120 rfl rfl dX9_worthIn_83 ?_
      refine zx_iload C 4 dX9_worthIn_86 rfl ?_
      refine zx_v_worth C N q_559 hk5 (by decide) (Nat.le_of_ble_eq_true rfl) dX9_worthIn_88 (fun r_4 t_5 => ?_)
      refine zx_iadd C dX9_worthIn_91 ?_
      refine zx_n (fun z_6 => ?_)
      refine zx_istore (L1 := [(9, .int z_6), (11, .int z_3), (3, .int v3), (4, .ref (ad c4)), (5, .ref (ad (30 + k5))), (6, .int v6), (7, .int v7), (8, .int v8), (10, .int v10)]) C dX9_worthIn_92 (by decide) rfl ?_
      refine zx_iload C 7 dX9_worthIn_94 rfl ?_
      refine zx_iload C 1 dX9_worthIn_96 rfl ?_
      refine zx_isub C dX9_worthIn_98 ?_
      refine zx_n (fun z_7 => ?_)
      refine zx_istore (L1 := [(8, .int z_7), (9, .int z_6), (11, .int z_3), (3, .int v3), (4, .ref (ad c4)), (5, .ref (ad (30 + k5))), (6, .int v6), (7, .int v7), (10, .int v10)]) C dX9_worthIn_99 (by decide) rfl ?_
      refine zx_iinc (v := (v10 + (1 : Int32))) (L1 := [(10, .int (v10 + (1 : Int32))), (8, .int z_7), (9, .int z_6), (11, .int z_3), (3, .int v3), (4, .ref (ad c4)), (5, .ref (ad (30 + k5))), (6, .int v6), (7, .int v7)]) C 8 dX9_worthIn_101 rfl rfl (by decide) rfl ?_
      refine zx_goto (tgt := 55) C dX9_worthIn_104 (by decide) ?_
      exact zx_sub (L1 := [(3, .int v3), (4, .ref (ad c4)), (5, .ref (ad (30 + k5))), (6, .int v6), (7, .int v7), (8, .int z_7), (9, .int z_6), (10, .int (v10 + (1 : Int32)))]) [4, 5, 6, 7, 8, 1, 2, 0] rfl (hrec55 v3 c4 hc4 k5 hk5 v6 v7 z_7 z_6 (v10 + (1 : Int32)) t_5)
def lf_X9_worthIn_55 (N : Nat) : Nat → Int32 → Nat → Nat → Int32 → Int32 → Int32 → Int32 → Int32 → zS → zA
  | 0, _, _, _, _, _, _, _, _, _ => none
  | n + 1, v3, c4, k5, v6, v7, v8, v9, v10, σ => bf_X9_worthIn_55 N (lf_X9_worthIn_55 N  n) v3 c4 k5 v6 v7 v8 v9 v10 σ
theorem l_X9_worthIn_55 {G : zG} {dC : Nat → ClassId} {dI : Nat → Nat → Nat} {A : Nat → Prop} {ad : Nat → Nat} {cI cC cW : ClassId} (C : zC G dC dI A 48 ad (cfC ad cI cC cW) (z_ty cI cC cW) cX9_worthIn RX9 12 3 (some .int)) (N : Nat) : ∀ (n : Nat) (v3 : Int32) (c4 : Nat) (hc4 : c4 < 18) (k5 : Nat) (hk5 : k5 < 6) (v6 : Int32) (v7 : Int32) (v8 : Int32) (v9 : Int32) (v10 : Int32) (σ : zS), zW G dC dI A 48 ad (cfC ad cI cC cW) 12 true (lf_X9_worthIn_55 N  n v3 c4 k5 v6 v7 v8 v9 v10 σ) σ 55 [(3, .int v3), (4, .ref (ad c4)), (5, .ref (ad (30 + k5))), (6, .int v6), (7, .int v7), (8, .int v8), (9, .int v9), (10, .int v10)] [] := by
  intro n
  induction n with
  | zero => intro v3 c4 hc4 k5 hk5 v6 v7 v8 v9 v10 σ; exact zx_none
  | succ n ih => intro v3 c4 hc4 k5 hk5 v6 v7 v8 v9 v10 σ; exact b_X9_worthIn_55 C N (lf_X9_worthIn_55 N  n) ih v3 c4 hc4 k5 hk5 v6 v7 v8 v9 v10 σ
def f_X9_worthIn (N : Nat) (j0 : Nat) (v1 : Int32) (v2 : Int32) (v3 : Int32) (σ : zS) : zA := z_g (z_in v1 6) (z_g (z_in (σ (6 * j0 + v1.toNatClampNeg) 0) 6) (z_g (z_in v2 4) (z_n (σ (24 + j0) v2.toNatClampNeg) (fun z_10 => z_b (v_rate N (σ (6 * j0 + v1.toNatClampNeg) 0).toNatClampNeg (σ (6 * j0 + v1.toNatClampNeg) 1) z_10 σ) (fun r_11 t_12 => z_n (t_12 (6 * j0 + v1.toNatClampNeg) 2) (fun z_13 => (lf_X9_worthIn_55 N N v3 (6 * j0 + v1.toNatClampNeg) (σ (6 * j0 + v1.toNatClampNeg) 0).toNatClampNeg z_10 r_11 z_13 (0 : Int32) (0 : Int32) t_12)))))))
set_option maxHeartbeats 4000000 in
set_option maxRecDepth 100000 in
theorem k_X9_worthIn {l : Launch} {dC : Nat → ClassId} {dI : Nat → Nat → Nat} {A : Nat → Prop} {ad : Nat → Nat} {cI cC cW : ClassId} (hO : zO A 48 ad (cfC ad cI cC cW)) (N : Nat) (j0 : Nat) (hj0 : j0 < 3) (v1 : Int32) (v2 : Int32) (v3 : Int32) (σ : zS) : zM l dC dI A 48 ad (cfC ad cI cC cW) (z_ty cI cC cW) true yX9_worthIn cX9_worthIn 12 (some .int) 3 [.ref (ad (18 + j0)), .int v1, .int v2, .int v3] σ (f_X9_worthIn N j0 v1 v2 v3 σ) := by
  refine zM_of hO (by decide) (Nat.le_of_ble_eq_true rfl) (fun G hG C => ?_)
  subst hG
  unfold f_X9_worthIn
  refine zx_sub (L1 := [(0, .ref (ad (18 + j0))), (1, .int v1), (2, .int v2), (3, .int v3)]) [0, 1, 2, 3] rfl ?_
  refine zx_aload_n C 0 dX9_worthIn_0 rfl rfl ?_
  refine zx_get C 1 (l_House (j := j0) hj0) (c_house (j := j0) hj0) rfl (by decide) inX4 q_152 rfl rfl dX9_worthIn_1 ?_
  refine zx_iload_n C 1 dX9_worthIn_4 rfl rfl ?_
  refine zx_aald C 1 (l_cands (j := j0) hj0) (c_cands (j := j0) hj0) rfl dX9_worthIn_5 (fun h_8 => ?_)
  refine zx_astore (L1 := [(4, .ref (ad (6 * j0 + v1.toNatClampNeg))), (0, .ref (ad (18 + j0))), (1, .int v1), (2, .int v2), (3, .int v3)]) C dX9_worthIn_6 (by decide) rfl ?_
  refine zx_aload_n C 1 dX9_worthIn_8 rfl rfl ?_
  refine zx_get C 0 (l_House (j := j0) hj0) (c_house (j := j0) hj0) rfl (by decide) inX4 q_150 rfl rfl dX9_worthIn_9 ?_
  refine zx_aload C 0 dX9_worthIn_12 rfl ?_
  refine zx_get C 0 (l_cand (c := (6 * j0 + v1.toNatClampNeg)) (cand_lt h_8 hj0)) (c_cand (c := (6 * j0 + v1.toNatClampNeg)) (cand_lt h_8 hj0)) rfl (by decide) inX1 q_116 rfl rfl dX9_worthIn_14 ?_
  refine zx_aald C 2 (by decide) rfl rfl dX9_worthIn_17 (fun h_9 => ?_)
  refine zx_astore (L1 := [(5, .ref (ad (30 + (σ (6 * j0 + v1.toNatClampNeg) 0).toNatClampNeg))), (4, .ref (ad (6 * j0 + v1.toNatClampNeg))), (0, .ref (ad (18 + j0))), (1, .int v1), (2, .int v2), (3, .int v3)]) C dX9_worthIn_18 (by decide) rfl ?_
  refine zx_aload_n C 2 dX9_worthIn_20 rfl rfl ?_
  refine zx_get C 2 (l_House (j := j0) hj0) (c_house (j := j0) hj0) rfl (by decide) inX4 q_155 rfl rfl dX9_worthIn_21 ?_
  refine zx_iload_n C 4 dX9_worthIn_24 rfl rfl ?_
  refine zx_iald C 0 (l_dra (j := j0) hj0) (c_dra (j := j0) hj0 _) rfl dX9_worthIn_25 ?_
  refine zx_n (fun z_10 => ?_)
  refine zx_istore (L1 := [(6, .int z_10), (5, .ref (ad (30 + (σ (6 * j0 + v1.toNatClampNeg) 0).toNatClampNeg))), (4, .ref (ad (6 * j0 + v1.toNatClampNeg))), (0, .ref (ad (18 + j0))), (1, .int v1), (2, .int v2), (3, .int v3)]) C dX9_worthIn_26 (by decide) rfl ?_
  refine zx_aload C 1 dX9_worthIn_28 rfl ?_
  refine zx_aload C 2 dX9_worthIn_30 rfl ?_
  refine zx_get C 1 (l_cand (c := (6 * j0 + v1.toNatClampNeg)) (cand_lt h_8 hj0)) (c_cand (c := (6 * j0 + v1.toNatClampNeg)) (cand_lt h_8 hj0)) rfl (by decide) inX1 q_120 rfl rfl dX9_worthIn_32 ?_
  refine zx_iload C 0 dX9_worthIn_35 rfl ?_
  refine zx_v_rate C N q_557 (wax_lt h_9) (by decide) (Nat.le_of_ble_eq_true rfl) dX9_worthIn_37 (fun r_11 t_12 => ?_)
  refine zx_istore (L1 := [(7, .int r_11), (6, .int z_10), (5, .ref (ad (30 + (σ (6 * j0 + v1.toNatClampNeg) 0).toNatClampNeg))), (4, .ref (ad (6 * j0 + v1.toNatClampNeg))), (0, .ref (ad (18 + j0))), (1, .int v1), (2, .int v2), (3, .int v3)]) C dX9_worthIn_40 (by decide) rfl ?_
  refine zx_aload C 3 dX9_worthIn_42 rfl ?_
  refine zx_get C 2 (l_cand (c := (6 * j0 + v1.toNatClampNeg)) (cand_lt h_8 hj0)) (c_cand (c := (6 * j0 + v1.toNatClampNeg)) (cand_lt h_8 hj0)) rfl (by decide) inX1 q_124 rfl rfl dX9_worthIn_44 ?_
  refine zx_n (fun z_13 => ?_)
  refine zx_istore (L1 := [(8, .int z_13), (7, .int r_11), (6, .int z_10), (5, .ref (ad (30 + (σ (6 * j0 + v1.toNatClampNeg) 0).toNatClampNeg))), (4, .ref (ad (6 * j0 + v1.toNatClampNeg))), (0, .ref (ad (18 + j0))), (1, .int v1), (2, .int v2), (3, .int v3)]) C dX9_worthIn_47 (by decide) rfl ?_
  refine zx_iconst (v := 0) C dX9_worthIn_49 (by decide) ?_
  refine zx_istore (L1 := [(9, .int (0 : Int32)), (8, .int z_13), (7, .int r_11), (6, .int z_10), (5, .ref (ad (30 + (σ (6 * j0 + v1.toNatClampNeg) 0).toNatClampNeg))), (4, .ref (ad (6 * j0 + v1.toNatClampNeg))), (0, .ref (ad (18 + j0))), (1, .int v1), (2, .int v2), (3, .int v3)]) C dX9_worthIn_50 (by decide) rfl ?_
  refine zx_iconst (v := 0) C dX9_worthIn_52 (by decide) ?_
  refine zx_istore (L1 := [(10, .int (0 : Int32)), (9, .int (0 : Int32)), (8, .int z_13), (7, .int r_11), (6, .int z_10), (5, .ref (ad (30 + (σ (6 * j0 + v1.toNatClampNeg) 0).toNatClampNeg))), (4, .ref (ad (6 * j0 + v1.toNatClampNeg))), (0, .ref (ad (18 + j0))), (1, .int v1), (2, .int v2), (3, .int v3)]) C dX9_worthIn_53 (by decide) rfl ?_
  exact zx_sub (L1 := [(3, .int v3), (4, .ref (ad (6 * j0 + v1.toNatClampNeg))), (5, .ref (ad (30 + (σ (6 * j0 + v1.toNatClampNeg) 0).toNatClampNeg))), (6, .int z_10), (7, .int r_11), (8, .int z_13), (9, .int (0 : Int32)), (10, .int (0 : Int32))]) [10, 6, 5, 4, 3, 2, 1, 0] rfl (l_X9_worthIn_55 C N N v3 (6 * j0 + v1.toNatClampNeg) (cand_lt h_8 hj0) (σ (6 * j0 + v1.toNatClampNeg) 0).toNatClampNeg (wax_lt h_9) z_10 r_11 z_13 (0 : Int32) (0 : Int32) t_12)
def bf_X9_weigh_6 (N : Nat) (rec6 : Nat → Int32 → Int32 → Int32 → Int32 → zS → zA) (j1 : Nat) (v2 : Int32) (v3 : Int32) (v4 : Int32) (v5 : Int32) (σ : zS) : zA := (if (4 : Int32) ≤ v5 then z_g (z_in (v2 + (1 : Int32)) 7) (z_g (z_in v2 7) (z_m (z_put σ 43 v2.toNatClampNeg ((σ 43 (v2 + (1 : Int32)).toNatClampNeg) + v4)) (fun t_2 => some (0, t_2)))) else z_b (f_X9_worthIn N j1 v2 v5 v3 σ) (fun r_3 t_4 => z_b (f_X10_pair N v2 v5 t_4) (fun r_5 t_6 => z_g (z_in r_5 24) (z_m (z_put t_6 42 r_5.toNatClampNeg r_3) (fun t_7 => z_n (if v4 < r_3 then r_3 else v4) (fun z_8 => (rec6 j1 v2 v3 z_8 (v5 + (1 : Int32)) t_7)))))))
set_option maxHeartbeats 4000000 in
set_option maxRecDepth 100000 in
theorem b_X9_weigh_6 {G : zG} {dC : Nat → ClassId} {dI : Nat → Nat → Nat} {A : Nat → Prop} {ad : Nat → Nat} {cI cC cW : ClassId} (C : zC G dC dI A 48 ad (cfC ad cI cC cW) (z_ty cI cC cW) cX9_weigh RX9 7 4 none) (N : Nat) (rec6 : Nat → Int32 → Int32 → Int32 → Int32 → zS → zA) (hrec6 : ∀ (j1 : Nat) (hj1 : j1 < 3) (v2 : Int32) (v3 : Int32) (v4 : Int32) (v5 : Int32) (σ : zS), zW G dC dI A 48 ad (cfC ad cI cC cW) 7 false (rec6 j1 v2 v3 v4 v5 σ) σ 6 [(0, .ref (ad 40)), (1, .ref (ad (18 + j1))), (2, .int v2), (3, .int v3), (4, .int v4), (5, .int v5)] []) (j1 : Nat) (hj1 : j1 < 3) (v2 : Int32) (v3 : Int32) (v4 : Int32) (v5 : Int32) (σ : zS) : zW G dC dI A 48 ad (cfC ad cI cC cW) 7 false (bf_X9_weigh_6 N rec6 j1 v2 v3 v4 v5 σ) σ 6 [(0, .ref (ad 40)), (1, .ref (ad (18 + j1))), (2, .int v2), (3, .int v3), (4, .int v4), (5, .int v5)] [] := by
  unfold bf_X9_weigh_6
  refine zx_iload C 5 dX9_weigh_6 rfl ?_
  refine zx_iconst (v := 4) C dX9_weigh_8 (by decide) ?_
  refine zx_icmp_ge (tgt := 50) C dX9_weigh_9 (by decide) (fun h_1 => ?_) (fun h_1 => ?_)
  · refine zx_aload_n C 0 dX9_weigh_50 rfl rfl ?_
    refine zx_get C 2 (by decide) rfl rfl (by decide) inX9 q_214 rfl rfl dX9_weigh_51 ?_
    refine zx_iload_n C 2 dX9_weigh_54 rfl rfl ?_
    refine zx_aload_n C 0 dX9_weigh_55 rfl rfl ?_
    refine zx_get C 2 (by decide) rfl rfl (by decide) inX9 q_214 rfl rfl dX9_weigh_56 ?_
    refine zx_iload_n C 2 dX9_weigh_59 rfl rfl ?_
    refine zx_iconst (v := 1) C dX9_weigh_60 (by decide) ?_
    refine zx_iadd C dX9_weigh_61 ?_
    refine zx_iald C 0 (by decide) rfl rfl dX9_weigh_62 ?_
    refine zx_iload C 4 dX9_weigh_63 rfl ?_
    refine zx_iadd C dX9_weigh_65 ?_
    refine zx_iast C 0 (by decide) (fun _ => rfl) rfl dX9_weigh_66 (fun t_2 => ?_)
    exact zx_vret C dX9_weigh_67
  · refine zx_aload_n C 1 dX9_weigh_12 rfl rfl ?_
    refine zx_iload_n C 2 dX9_weigh_13 rfl rfl ?_
    refine zx_iload C 5 dX9_weigh_14 rfl ?_
    refine zx_iload_n C 3 dX9_weigh_16 rfl rfl ?_
    refine zx_callS (av := [.ref (ad (18 + j1)), .int v2, .int v5, .int v3]) (st := []) C yk_X9_worthIn q_554 q_555 (k_X9_worthIn C.hO N j1 hj1 v2 v5 v3 σ) (by decide) rfl rfl (Nat.le_of_ble_eq_true rfl) dX9_weigh_17 (fun _ r_3 t_4 => ?_) (fun h9 => nomatch h9)
    refine zx_istore (L1 := [(6, .int r_3), (0, .ref (ad 40)), (1, .ref (ad (18 + j1))), (2, .int v2), (3, .int v3), (4, .int v4), (5, .int v5)]) C dX9_weigh_20 (by decide) rfl ?_
    refine zx_aload_n C 1 dX9_weigh_22 rfl rfl ?_
    refine zx_get C 1 (by decide) rfl rfl (by decide) inX9 q_213 rfl rfl dX9_weigh_23 ?_
    refine zx_iload_n C 3 dX9_weigh_26 rfl rfl ?_
    refine zx_iload C 6 dX9_weigh_27 rfl ?_
    refine zx_callSN (host := "PaidInLight") (av := [.int v2, .int v5]) (st := [.ref (ad 42)]) C yk_X10_pair (nest_18) q_346 (k_X10_pair C.hO N v2 v5 t_4) (by decide) rfl rfl (Nat.le_of_ble_eq_true rfl) dX9_weigh_29 (fun _ r_5 t_6 => ?_) (fun h9 => nomatch h9)
    refine zx_iload C 0 dX9_weigh_32 rfl ?_
    refine zx_iast C 0 (by decide) (fun _ => rfl) rfl dX9_weigh_34 (fun t_7 => ?_)
    refine zx_iload C 5 dX9_weigh_35 rfl ?_
    refine zx_iload C 0 dX9_weigh_37 rfl ?_
    refine zx_max C q_561 q_390 q_49 q_391 (by decide) (Nat.le_of_ble_eq_true rfl) dX9_weigh_39 ?_
    refine zx_n (fun z_8 => ?_)
    refine zx_istore (L1 := [(4, .int z_8), (6, .int r_3), (0, .ref (ad 40)), (1, .ref (ad (18 + j1))), (2, .int v2), (3, .int v3), (5, .int v5)]) C dX9_weigh_42 (by decide) rfl ?_
    refine zx_iinc (v := (v5 + (1 : Int32))) (L1 := [(5, .int (v5 + (1 : Int32))), (4, .int z_8), (6, .int r_3), (0, .ref (ad 40)), (1, .ref (ad (18 + j1))), (2, .int v2), (3, .int v3)]) C 6 dX9_weigh_44 rfl rfl (by decide) rfl ?_
    refine zx_goto (tgt := 6) C dX9_weigh_47 (by decide) ?_
    exact zx_sub (L1 := [(0, .ref (ad 40)), (1, .ref (ad (18 + j1))), (2, .int v2), (3, .int v3), (4, .int z_8), (5, .int (v5 + (1 : Int32)))]) [3, 4, 5, 6, 1, 0] rfl (hrec6 j1 hj1 v2 v3 z_8 (v5 + (1 : Int32)) t_7)
def lf_X9_weigh_6 (N : Nat) : Nat → Nat → Int32 → Int32 → Int32 → Int32 → zS → zA
  | 0, _, _, _, _, _, _ => none
  | n + 1, j1, v2, v3, v4, v5, σ => bf_X9_weigh_6 N (lf_X9_weigh_6 N  n) j1 v2 v3 v4 v5 σ
theorem l_X9_weigh_6 {G : zG} {dC : Nat → ClassId} {dI : Nat → Nat → Nat} {A : Nat → Prop} {ad : Nat → Nat} {cI cC cW : ClassId} (C : zC G dC dI A 48 ad (cfC ad cI cC cW) (z_ty cI cC cW) cX9_weigh RX9 7 4 none) (N : Nat) : ∀ (n : Nat) (j1 : Nat) (hj1 : j1 < 3) (v2 : Int32) (v3 : Int32) (v4 : Int32) (v5 : Int32) (σ : zS), zW G dC dI A 48 ad (cfC ad cI cC cW) 7 false (lf_X9_weigh_6 N  n j1 v2 v3 v4 v5 σ) σ 6 [(0, .ref (ad 40)), (1, .ref (ad (18 + j1))), (2, .int v2), (3, .int v3), (4, .int v4), (5, .int v5)] [] := by
  intro n
  induction n with
  | zero => intro j1 hj1 v2 v3 v4 v5 σ; exact zx_none
  | succ n ih => intro j1 hj1 v2 v3 v4 v5 σ; exact b_X9_weigh_6 C N (lf_X9_weigh_6 N  n) ih j1 hj1 v2 v3 v4 v5 σ
def f_X9_weigh (N : Nat) (j1 : Nat) (v2 : Int32) (v3 : Int32) (σ : zS) : zA := (lf_X9_weigh_6 N N j1 v2 v3 (0 : Int32) (0 : Int32) σ)
set_option maxHeartbeats 4000000 in
set_option maxRecDepth 100000 in
theorem k_X9_weigh {l : Launch} {dC : Nat → ClassId} {dI : Nat → Nat → Nat} {A : Nat → Prop} {ad : Nat → Nat} {cI cC cW : ClassId} (hO : zO A 48 ad (cfC ad cI cC cW)) (N : Nat) (j1 : Nat) (hj1 : j1 < 3) (v2 : Int32) (v3 : Int32) (σ : zS) : zM l dC dI A 48 ad (cfC ad cI cC cW) (z_ty cI cC cW) false yX9_weigh cX9_weigh 7 none 4 [.ref (ad 40), .ref (ad (18 + j1)), .int v2, .int v3] σ (f_X9_weigh N j1 v2 v3 σ) := by
  refine zM_of hO (by decide) (Nat.le_of_ble_eq_true rfl) (fun G hG C => ?_)
  subst hG
  unfold f_X9_weigh
  refine zx_sub (L1 := [(0, .ref (ad 40)), (1, .ref (ad (18 + j1))), (2, .int v2), (3, .int v3)]) [0, 1, 2, 3] rfl ?_
  refine zx_iconst (v := 0) C dX9_weigh_0 (by decide) ?_
  refine zx_istore (L1 := [(4, .int (0 : Int32)), (0, .ref (ad 40)), (1, .ref (ad (18 + j1))), (2, .int v2), (3, .int v3)]) C dX9_weigh_1 (by decide) rfl ?_
  refine zx_iconst (v := 0) C dX9_weigh_3 (by decide) ?_
  refine zx_istore (L1 := [(5, .int (0 : Int32)), (4, .int (0 : Int32)), (0, .ref (ad 40)), (1, .ref (ad (18 + j1))), (2, .int v2), (3, .int v3)]) C dX9_weigh_4 (by decide) rfl ?_
  exact zx_sub (L1 := [(0, .ref (ad 40)), (1, .ref (ad (18 + j1))), (2, .int v2), (3, .int v3), (4, .int (0 : Int32)), (5, .int (0 : Int32))]) [2, 3, 4, 5, 1, 0] rfl (l_X9_weigh_6 C N N j1 hj1 v2 v3 (0 : Int32) (0 : Int32) σ)
def bf_X9_tryRooms_67 (N : Nat) (rec : Nat → Int32 → Int32 → zS → zA) (rec67 : Nat → Int32 → Int32 → Int32 → Int32 → zS → zA) (j1 : Nat) (v2 : Int32) (v3 : Int32) (v4 : Int32) (v5 : Int32) (σ : zS) : zA := (if (4 : Int32) ≤ v5 then some (0, σ) else z_b (f_X10_pair N v4 v5 σ) (fun r_2 t_3 => z_g (z_in r_2 16) (z_b (f_X10_pair N v2 v5 t_3) (fun r_4 t_5 => z_g (z_in r_4 24) (z_n (if (t_5 42 r_4.toNatClampNeg) < (t_3 41 r_2.toNatClampNeg) then (t_5 42 r_4.toNatClampNeg) else (t_3 41 r_2.toNatClampNeg)) (fun z_6 => z_g (z_in v2 6) (z_m (z_put t_5 44 v2.toNatClampNeg v5) (fun t_7 => z_b (f_X10_pair N v4 v5 t_7) (fun r_8 t_9 => z_g (z_in r_8 16) (z_g (z_in r_8 16) (z_m (z_put t_9 41 r_8.toNatClampNeg ((t_9 41 r_8.toNatClampNeg) - z_6)) (fun t_10 => z_b (rec j1 (v2 + (1 : Int32)) (v3 - z_6) t_10) (fun r_11 t_12 => z_b (f_X10_pair N v4 v5 t_12) (fun r_13 t_14 => z_g (z_in r_13 16) (z_g (z_in r_13 16) (z_m (z_put t_14 41 r_13.toNatClampNeg ((t_14 41 r_13.toNatClampNeg) + z_6)) (fun t_15 => (rec67 j1 v2 v3 v4 (v5 + (1 : Int32)) t_15))))))))))))))))))
set_option maxHeartbeats 4000000 in
set_option maxRecDepth 100000 in
theorem b_X9_tryRooms_67 {G : zG} {dC : Nat → ClassId} {dI : Nat → Nat → Nat} {A : Nat → Prop} {ad : Nat → Nat} {cI cC cW : ClassId} {dr : Nat} (C : zC G dC dI A 48 ad (cfC ad cI cC cW) (z_ty cI cC cW) cX9_tryRooms RX9 7 (dr + 2) none) (N : Nat) (rec : Nat → Int32 → Int32 → zS → zA) (hrec : ∀ (j1 : Nat) (hj1 : j1 < 3) (v2 : Int32) (v3 : Int32) (σ : zS), zM (gL G) dC dI A 48 ad (cfC ad cI cC cW) (z_ty cI cC cW) false yX9_tryRooms cX9_tryRooms 7 none (dr + 1) [.ref (ad 40), .ref (ad (18 + j1)), .int v2, .int v3] σ (rec j1 v2 v3 σ)) (rec67 : Nat → Int32 → Int32 → Int32 → Int32 → zS → zA) (hrec67 : ∀ (j1 : Nat) (hj1 : j1 < 3) (v2 : Int32) (v3 : Int32) (v4 : Int32) (v5 : Int32) (σ : zS), zW G dC dI A 48 ad (cfC ad cI cC cW) 7 false (rec67 j1 v2 v3 v4 v5 σ) σ 67 [(0, .ref (ad 40)), (1, .ref (ad (18 + j1))), (2, .int v2), (3, .int v3), (4, .int v4), (5, .int v5)] []) (j1 : Nat) (hj1 : j1 < 3) (v2 : Int32) (v3 : Int32) (v4 : Int32) (v5 : Int32) (σ : zS) : zW G dC dI A 48 ad (cfC ad cI cC cW) 7 false (bf_X9_tryRooms_67 N rec rec67 j1 v2 v3 v4 v5 σ) σ 67 [(0, .ref (ad 40)), (1, .ref (ad (18 + j1))), (2, .int v2), (3, .int v3), (4, .int v4), (5, .int v5)] [] := by
  unfold bf_X9_tryRooms_67
  refine zx_iload C 5 dX9_tryRooms_67 rfl ?_
  refine zx_iconst (v := 4) C dX9_tryRooms_69 (by decide) ?_
  refine zx_icmp_ge (tgt := 161) C dX9_tryRooms_70 (by decide) (fun h_1 => ?_) (fun h_1 => ?_)
  · exact zx_vret C dX9_tryRooms_161
  · refine zx_aload_n C 0 dX9_tryRooms_73 rfl rfl ?_
    refine zx_get C 0 (by decide) rfl rfl (by decide) inX9 q_212 rfl rfl dX9_tryRooms_74 ?_
    refine zx_iload C 4 dX9_tryRooms_77 rfl ?_
    refine zx_iload C 5 dX9_tryRooms_79 rfl ?_
    refine zx_callSN (host := "PaidInLight") (av := [.int v4, .int v5]) (st := [.ref (ad 41)]) C yk_X10_pair (nest_18) q_346 (k_X10_pair C.hO N v4 v5 σ) (by omega) rfl rfl (Nat.le_of_ble_eq_true rfl) dX9_tryRooms_81 (fun _ r_2 t_3 => ?_) (fun h9 => nomatch h9)
    refine zx_iald C 0 (by decide) rfl rfl dX9_tryRooms_84 ?_
    refine zx_aload_n C 0 dX9_tryRooms_85 rfl rfl ?_
    refine zx_get C 1 (by decide) rfl rfl (by decide) inX9 q_213 rfl rfl dX9_tryRooms_86 ?_
    refine zx_iload_n C 2 dX9_tryRooms_89 rfl rfl ?_
    refine zx_iload C 5 dX9_tryRooms_90 rfl ?_
    refine zx_callSN (host := "PaidInLight") (av := [.int v2, .int v5]) (st := [.ref (ad 42), .int (t_3 41 r_2.toNatClampNeg)]) C yk_X10_pair (nest_18) q_346 (k_X10_pair C.hO N v2 v5 t_3) (by omega) rfl rfl (Nat.le_of_ble_eq_true rfl) dX9_tryRooms_92 (fun _ r_4 t_5 => ?_) (fun h9 => nomatch h9)
    refine zx_iald C 0 (by decide) rfl rfl dX9_tryRooms_95 ?_
    refine zx_min C q_558 q_398 q_49 q_399 (by omega) (Nat.le_of_ble_eq_true rfl) dX9_tryRooms_96 ?_
    refine zx_n (fun z_6 => ?_)
    refine zx_istore (L1 := [(6, .int z_6), (0, .ref (ad 40)), (1, .ref (ad (18 + j1))), (2, .int v2), (3, .int v3), (4, .int v4), (5, .int v5)]) C dX9_tryRooms_99 (by decide) rfl ?_
    refine zx_aload_n C 1 dX9_tryRooms_101 rfl rfl ?_
    refine zx_get C 3 (by decide) rfl rfl (by decide) inX9 q_215 rfl rfl dX9_tryRooms_102 ?_
    refine zx_iload_n C 3 dX9_tryRooms_105 rfl rfl ?_
    refine zx_iload C 6 dX9_tryRooms_106 rfl ?_
    refine zx_iast C 0 (by decide) (fun _ => rfl) rfl dX9_tryRooms_108 (fun t_7 => ?_)
    refine zx_aload_n C 1 dX9_tryRooms_109 rfl rfl ?_
    refine zx_get C 0 (by decide) rfl rfl (by decide) inX9 q_212 rfl rfl dX9_tryRooms_110 ?_
    refine zx_iload C 5 dX9_tryRooms_113 rfl ?_
    refine zx_iload C 6 dX9_tryRooms_115 rfl ?_
    refine zx_callSN (host := "PaidInLight") (av := [.int v4, .int v5]) (st := [.ref (ad 41)]) C yk_X10_pair (nest_18) q_346 (k_X10_pair C.hO N v4 v5 t_7) (by omega) rfl rfl (Nat.le_of_ble_eq_true rfl) dX9_tryRooms_117 (fun _ r_8 t_9 => ?_) (fun h9 => nomatch h9)
    refine zx_dup2 C dX9_tryRooms_120 rfl rfl ?_
    refine zx_iald C 0 (by decide) rfl rfl dX9_tryRooms_121 ?_
    refine zx_iload C 0 dX9_tryRooms_122 rfl ?_
    refine zx_isub C dX9_tryRooms_124 ?_
    refine zx_iast C 0 (by decide) (fun _ => rfl) rfl dX9_tryRooms_125 (fun t_10 => ?_)
    refine zx_aload_n C 1 dX9_tryRooms_126 rfl rfl ?_
    refine zx_aload_n C 2 dX9_tryRooms_127 rfl rfl ?_
    refine zx_iload_n C 3 dX9_tryRooms_128 rfl rfl ?_
    refine zx_iconst (v := 1) C dX9_tryRooms_129 (by decide) ?_
    refine zx_iadd C dX9_tryRooms_130 ?_
    refine zx_iload_n C 4 dX9_tryRooms_131 rfl rfl ?_
    refine zx_iload C 0 dX9_tryRooms_132 rfl ?_
    refine zx_isub C dX9_tryRooms_134 ?_
    refine zx_callS (av := [.ref (ad 40), .ref (ad (18 + j1)), .int (v2 + (1 : Int32)), .int (v3 - z_6)]) (st := []) C yk_X9_tryRooms q_563 q_564 (hrec j1 hj1 (v2 + (1 : Int32)) (v3 - z_6) t_10) (Nat.le_refl _) rfl rfl (Nat.le_of_ble_eq_true rfl) dX9_tryRooms_135 (fun h9 => nomatch h9) (fun _ r_11 t_12 => ?_)
    refine zx_aload_n C 1 dX9_tryRooms_138 rfl rfl ?_
    refine zx_get C 0 (by decide) rfl rfl (by decide) inX9 q_212 rfl rfl dX9_tryRooms_139 ?_
    refine zx_iload C 5 dX9_tryRooms_142 rfl ?_
    refine zx_iload C 6 dX9_tryRooms_144 rfl ?_
    refine zx_callSN (host := "PaidInLight") (av := [.int v4, .int v5]) (st := [.ref (ad 41)]) C yk_X10_pair (nest_18) q_346 (k_X10_pair C.hO N v4 v5 t_12) (by omega) rfl rfl (Nat.le_of_ble_eq_true rfl) dX9_tryRooms_146 (fun _ r_13 t_14 => ?_) (fun h9 => nomatch h9)
    refine zx_dup2 C dX9_tryRooms_149 rfl rfl ?_
    refine zx_iald C 0 (by decide) rfl rfl dX9_tryRooms_150 ?_
    refine zx_iload C 0 dX9_tryRooms_151 rfl ?_
    refine zx_iadd C dX9_tryRooms_153 ?_
    refine zx_iast C 0 (by decide) (fun _ => rfl) rfl dX9_tryRooms_154 (fun t_15 => ?_)
    refine zx_iinc (v := (v5 + (1 : Int32))) (L1 := [(5, .int (v5 + (1 : Int32))), (6, .int z_6), (0, .ref (ad 40)), (1, .ref (ad (18 + j1))), (2, .int v2), (3, .int v3), (4, .int v4)]) C 6 dX9_tryRooms_155 rfl rfl (by decide) rfl ?_
    refine zx_goto (tgt := 67) C dX9_tryRooms_158 (by decide) ?_
    exact zx_sub (L1 := [(0, .ref (ad 40)), (1, .ref (ad (18 + j1))), (2, .int v2), (3, .int v3), (4, .int v4), (5, .int (v5 + (1 : Int32)))]) [2, 3, 4, 5, 6, 0] rfl (hrec67 j1 hj1 v2 v3 v4 (v5 + (1 : Int32)) t_15)
def lf_X9_tryRooms_67 (N : Nat) (rec : Nat → Int32 → Int32 → zS → zA) : Nat → Nat → Int32 → Int32 → Int32 → Int32 → zS → zA
  | 0, _, _, _, _, _, _ => none
  | n + 1, j1, v2, v3, v4, v5, σ => bf_X9_tryRooms_67 N rec (lf_X9_tryRooms_67 N rec  n) j1 v2 v3 v4 v5 σ
theorem l_X9_tryRooms_67 {G : zG} {dC : Nat → ClassId} {dI : Nat → Nat → Nat} {A : Nat → Prop} {ad : Nat → Nat} {cI cC cW : ClassId} {dr : Nat} (C : zC G dC dI A 48 ad (cfC ad cI cC cW) (z_ty cI cC cW) cX9_tryRooms RX9 7 (dr + 2) none) (N : Nat) (rec : Nat → Int32 → Int32 → zS → zA) (hrec : ∀ (j1 : Nat) (hj1 : j1 < 3) (v2 : Int32) (v3 : Int32) (σ : zS), zM (gL G) dC dI A 48 ad (cfC ad cI cC cW) (z_ty cI cC cW) false yX9_tryRooms cX9_tryRooms 7 none (dr + 1) [.ref (ad 40), .ref (ad (18 + j1)), .int v2, .int v3] σ (rec j1 v2 v3 σ)) : ∀ (n : Nat) (j1 : Nat) (hj1 : j1 < 3) (v2 : Int32) (v3 : Int32) (v4 : Int32) (v5 : Int32) (σ : zS), zW G dC dI A 48 ad (cfC ad cI cC cW) 7 false (lf_X9_tryRooms_67 N rec  n j1 v2 v3 v4 v5 σ) σ 67 [(0, .ref (ad 40)), (1, .ref (ad (18 + j1))), (2, .int v2), (3, .int v3), (4, .int v4), (5, .int v5)] [] := by
  intro n
  induction n with
  | zero => intro j1 hj1 v2 v3 v4 v5 σ; exact zx_none
  | succ n ih => intro j1 hj1 v2 v3 v4 v5 σ; exact b_X9_tryRooms_67 C N rec hrec (lf_X9_tryRooms_67 N rec  n) ih j1 hj1 v2 v3 v4 v5 σ
def bf_X9_tryRooms_e (N : Nat) (rec : Nat → Int32 → Int32 → zS → zA) (j1 : Nat) (v2 : Int32) (v3 : Int32) (σ : zS) : zA := (if (σ (18 + j1) 4) < v2 then some (0, σ) else z_g (z_in v2 7) ((if (v3 - (σ 43 v2.toNatClampNeg)) < (σ 40 5) then (if v2 = (σ (18 + j1) 4) then z_m (z_put σ 40 5 v3) (fun t_21 => z_m (z_row t_21 45 (va_cpy (t_21 44) (t_21 45) (0 : Int32).toNatClampNeg (0 : Int32).toNatClampNeg (6 : Int32).toNatClampNeg)) (fun t_22 => some (0, t_22))) else z_g (z_in v2 6) (z_n (σ (6 * j1 + v2.toNatClampNeg) 3) (fun z_20 => (lf_X9_tryRooms_67 N rec N j1 v2 v3 z_20 (0 : Int32) σ)))) else some (0, σ))))
def f_X9_tryRooms (N : Nat) : Nat → Nat → Int32 → Int32 → zS → zA
  | 0, _, _, _, _ => none
  | dr + 1, j1, v2, v3, σ => bf_X9_tryRooms_e N (f_X9_tryRooms N dr) j1 v2 v3 σ
set_option maxHeartbeats 4000000 in
set_option maxRecDepth 100000 in
theorem kb_X9_tryRooms {l : Launch} {dC : Nat → ClassId} {dI : Nat → Nat → Nat} {A : Nat → Prop} {ad : Nat → Nat} {cI cC cW : ClassId} {dr : Nat} (hO : zO A 48 ad (cfC ad cI cC cW)) (N : Nat) (rec : Nat → Int32 → Int32 → zS → zA) (hrec : ∀ (j1 : Nat) (hj1 : j1 < 3) (v2 : Int32) (v3 : Int32) (σ : zS), zM l dC dI A 48 ad (cfC ad cI cC cW) (z_ty cI cC cW) false yX9_tryRooms cX9_tryRooms 7 none (dr + 1) [.ref (ad 40), .ref (ad (18 + j1)), .int v2, .int v3] σ (rec j1 v2 v3 σ)) (j1 : Nat) (hj1 : j1 < 3) (v2 : Int32) (v3 : Int32) (σ : zS) : zM l dC dI A 48 ad (cfC ad cI cC cW) (z_ty cI cC cW) false yX9_tryRooms cX9_tryRooms 7 none (dr + 2) [.ref (ad 40), .ref (ad (18 + j1)), .int v2, .int v3] σ (bf_X9_tryRooms_e N rec j1 v2 v3 σ) := by
  refine zM_of hO (by decide) (Nat.le_of_ble_eq_true rfl) (fun G hG C => ?_)
  subst hG
  unfold bf_X9_tryRooms_e
  refine zx_sub (L1 := [(0, .ref (ad 40)), (1, .ref (ad (18 + j1))), (2, .int v2), (3, .int v3)]) [0, 1, 2, 3] rfl ?_
  refine zx_iload_n C 2 dX9_tryRooms_0 rfl rfl ?_
  refine zx_aload_n C 1 dX9_tryRooms_1 rfl rfl ?_
  refine zx_get C 4 (l_House (j := j1) hj1) (c_house (j := j1) hj1) rfl (by decide) inX4 q_161 rfl rfl dX9_tryRooms_2 ?_
  refine zx_icmp_gt (tgt := 23) C dX9_tryRooms_5 (by decide) (fun h_16 => ?_) (fun h_16 => ?_)
  · exact zx_vret C dX9_tryRooms_23
  · refine zx_iload_n C 3 dX9_tryRooms_8 rfl rfl ?_
    refine zx_aload_n C 0 dX9_tryRooms_9 rfl rfl ?_
    refine zx_get C 2 (by decide) rfl rfl (by decide) inX9 q_214 rfl rfl dX9_tryRooms_10 ?_
    refine zx_iload_n C 2 dX9_tryRooms_13 rfl rfl ?_
    refine zx_iald C 0 (by decide) rfl rfl dX9_tryRooms_14 ?_
    refine zx_isub C dX9_tryRooms_15 ?_
    refine zx_aload_n C 0 dX9_tryRooms_16 rfl rfl ?_
    refine zx_get C 5 (by decide) rfl rfl (by decide) inX9 q_218 rfl rfl dX9_tryRooms_17 ?_
    refine zx_icmp_lt (tgt := 24) C dX9_tryRooms_20 (by decide) (fun h_17 => ?_) (fun h_17 => ?_)
    · refine zx_iload_n C 2 dX9_tryRooms_24 rfl rfl ?_
      refine zx_aload_n C 1 dX9_tryRooms_25 rfl rfl ?_
      refine zx_get C 4 (l_House (j := j1) hj1) (c_house (j := j1) hj1) rfl (by decide) inX4 q_161 rfl rfl dX9_tryRooms_26 ?_
      refine zx_icmp_ne (tgt := 53) C dX9_tryRooms_29 (by decide) (fun h_18 => ?_) (fun h_18 => ?_)
      · refine zx_aload_n C 1 dX9_tryRooms_53 rfl rfl ?_
        refine zx_get C 1 (l_House (j := j1) hj1) (c_house (j := j1) hj1) rfl (by decide) inX4 q_152 rfl rfl dX9_tryRooms_54 ?_
        refine zx_iload_n C 2 dX9_tryRooms_57 rfl rfl ?_
        refine zx_aald C 1 (l_cands (j := j1) hj1) (c_cands (j := j1) hj1) rfl dX9_tryRooms_58 (fun h_19 => ?_)
        refine zx_get C 3 (l_cand (c := (6 * j1 + v2.toNatClampNeg)) (cand_lt h_19 hj1)) (c_cand (c := (6 * j1 + v2.toNatClampNeg)) (cand_lt h_19 hj1)) rfl (by decide) inX1 q_128 rfl rfl dX9_tryRooms_59 ?_
        refine zx_n (fun z_20 => ?_)
        refine zx_istore (L1 := [(4, .int z_20), (0, .ref (ad 40)), (1, .ref (ad (18 + j1))), (2, .int v2), (3, .int v3)]) C dX9_tryRooms_62 (by decide) rfl ?_
        refine zx_iconst (v := 0) C dX9_tryRooms_64 (by decide) ?_
        refine zx_istore (L1 := [(5, .int (0 : Int32)), (4, .int z_20), (0, .ref (ad 40)), (1, .ref (ad (18 + j1))), (2, .int v2), (3, .int v3)]) C dX9_tryRooms_65 (by decide) rfl ?_
        exact zx_sub (L1 := [(0, .ref (ad 40)), (1, .ref (ad (18 + j1))), (2, .int v2), (3, .int v3), (4, .int z_20), (5, .int (0 : Int32))]) [2, 3, 4, 5, 1, 0] rfl (l_X9_tryRooms_67 C N rec hrec N j1 hj1 v2 v3 z_20 (0 : Int32) σ)
      · refine zx_aload_n C 0 dX9_tryRooms_32 rfl rfl ?_
        refine zx_iload_n C 3 dX9_tryRooms_33 rfl rfl ?_
        refine zx_put (ty := .int) C 5 (by decide) rfl rfl (by decide) inX9 tyX9 tyX9_ok nmX9 q_218 rfl rfl (by decide +kernel) rfl rfl (Nat.le_of_ble_eq_true rfl) (by rfl) dX9_tryRooms_34 (fun t_21 => ?_)
        refine zx_aload_n C 0 dX9_tryRooms_37 rfl rfl ?_
        refine zx_get C 3 (by decide) rfl rfl (by decide) inX9 q_215 rfl rfl dX9_tryRooms_38 ?_
        refine zx_iconst (v := 0) C dX9_tryRooms_41 (by decide) ?_
        refine zx_aload_n C 0 dX9_tryRooms_42 rfl rfl ?_
        refine zx_get C 4 (by decide) rfl rfl (by decide) inX9 q_216 rfl rfl dX9_tryRooms_43 ?_
        refine zx_iconst (v := 0) C dX9_tryRooms_46 (by decide) ?_
        refine zx_bipush (v := 6) C dX9_tryRooms_47 (by decide) ?_
        refine zx_copy C 0 (by decide) (by decide) rfl (fun _ => rfl) rfl q_549 q_312 q_311 q_48 (by decide) (by decide) (by decide) (by decide) (by decide) (by omega) (Nat.le_of_ble_eq_true rfl) dX9_tryRooms_49 (fun t_22 => ?_)
        exact zx_vret C dX9_tryRooms_52
    · exact zx_vret C dX9_tryRooms_23
theorem k_X9_tryRooms {l : Launch} {dC : Nat → ClassId} {dI : Nat → Nat → Nat} {A : Nat → Prop} {ad : Nat → Nat} {cI cC cW : ClassId} (hO : zO A 48 ad (cfC ad cI cC cW)) (N : Nat) : ∀ (dr : Nat) (j1 : Nat) (hj1 : j1 < 3) (v2 : Int32) (v3 : Int32) (σ : zS), zM l dC dI A 48 ad (cfC ad cI cC cW) (z_ty cI cC cW) false yX9_tryRooms cX9_tryRooms 7 none (dr + 1) [.ref (ad 40), .ref (ad (18 + j1)), .int v2, .int v3] σ (f_X9_tryRooms N dr j1 v2 v3 σ) := by
  intro dr
  induction dr with
  | zero => intro j1 hj1 v2 v3 σ r τ h; exact nomatch h
  | succ dr ih => intro j1 hj1 v2 v3 σ; exact kb_X9_tryRooms hO N (f_X9_tryRooms N dr) ih j1 hj1 v2 v3 σ
def bf_X9_find_35 (N : Nat) (rec35 : Nat → Int32 → Int32 → zS → zA) (j1 : Nat) (v2 : Int32) (v3 : Int32) (σ : zS) : zA := (if v3 < (0 : Int32) then z_b (f_X4_allDebts N j1 σ) (fun r_2 t_3 => z_m (z_put t_3 40 5 (r_2 + (1 : Int32))) (fun t_4 => z_b (f_X4_allDebts N j1 t_4) (fun r_5 t_6 => z_b (f_X9_tryRooms N 8 j1 (0 : Int32) r_5 t_6) (fun r_7 t_8 => some (0, t_8))))) else z_b (f_X9_weigh N j1 v3 v2 σ) (fun r_9 t_10 => (rec35 j1 v2 (v3 + (-1 : Int32)) t_10)))
set_option maxHeartbeats 4000000 in
set_option maxRecDepth 100000 in
theorem b_X9_find_35 {G : zG} {dC : Nat → ClassId} {dI : Nat → Nat → Nat} {A : Nat → Prop} {ad : Nat → Nat} {cI cC cW : ClassId} (C : zC G dC dI A 48 ad (cfC ad cI cC cW) (z_ty cI cC cW) cX9_find RX9 4 10 none) (N : Nat) (rec35 : Nat → Int32 → Int32 → zS → zA) (hrec35 : ∀ (j1 : Nat) (hj1 : j1 < 3) (v2 : Int32) (v3 : Int32) (σ : zS), zW G dC dI A 48 ad (cfC ad cI cC cW) 4 false (rec35 j1 v2 v3 σ) σ 35 [(0, .ref (ad 40)), (1, .ref (ad (18 + j1))), (2, .int v2), (3, .int v3)] []) (j1 : Nat) (hj1 : j1 < 3) (v2 : Int32) (v3 : Int32) (σ : zS) : zW G dC dI A 48 ad (cfC ad cI cC cW) 4 false (bf_X9_find_35 N rec35 j1 v2 v3 σ) σ 35 [(0, .ref (ad 40)), (1, .ref (ad (18 + j1))), (2, .int v2), (3, .int v3)] [] := by
  unfold bf_X9_find_35
  refine zx_iload_n C 3 dX9_find_35 rfl rfl ?_
  refine zx_if_lt (tgt := 52) C dX9_find_36 (by decide) (fun h_1 => ?_) (fun h_1 => ?_)
  · refine zx_aload_n C 0 dX9_find_52 rfl rfl ?_
    refine zx_aload_n C 1 dX9_find_53 rfl rfl ?_
    refine zx_callV (As := []) (st := [.ref (ad 40)]) C yk_X4_allDebts q_562 q_530 q_531 (l_House (j := j1) hj1) (c_house (j := j1) hj1) rfl (k_X4_allDebts C.hO N j1 hj1 σ) (by decide) rfl rfl (Nat.le_of_ble_eq_true rfl) dX9_find_54 (fun _ r_2 t_3 => ?_) (fun h9 => nomatch h9)
    refine zx_iconst (v := 1) C dX9_find_57 (by decide) ?_
    refine zx_iadd C dX9_find_58 ?_
    refine zx_put (ty := .int) C 5 (by decide) rfl rfl (by decide) inX9 tyX9 tyX9_ok nmX9 q_218 rfl rfl (by decide +kernel) rfl rfl (Nat.le_of_ble_eq_true rfl) (by rfl) dX9_find_59 (fun t_4 => ?_)
    refine zx_aload_n C 0 dX9_find_62 rfl rfl ?_
    refine zx_aload_n C 1 dX9_find_63 rfl rfl ?_
    refine zx_iconst (v := 0) C dX9_find_64 (by decide) ?_
    refine zx_aload_n C 1 dX9_find_65 rfl rfl ?_
    refine zx_callV (As := []) (st := [.int (0 : Int32), .ref (ad (18 + j1)), .ref (ad 40)]) C yk_X4_allDebts q_562 q_530 q_531 (l_House (j := j1) hj1) (c_house (j := j1) hj1) rfl (k_X4_allDebts C.hO N j1 hj1 t_4) (by decide) rfl rfl (Nat.le_of_ble_eq_true rfl) dX9_find_66 (fun _ r_5 t_6 => ?_) (fun h9 => nomatch h9)
    refine zx_callS (av := [.ref (ad 40), .ref (ad (18 + j1)), .int (0 : Int32), .int r_5]) (st := []) C yk_X9_tryRooms q_563 q_564 (k_X9_tryRooms C.hO N 8 j1 hj1 (0 : Int32) r_5 t_6) (by decide) rfl rfl (Nat.le_of_ble_eq_true rfl) dX9_find_69 (fun h9 => nomatch h9) (fun _ r_7 t_8 => ?_)
    exact zx_vret C dX9_find_72
  · refine zx_aload_n C 0 dX9_find_39 rfl rfl ?_
    refine zx_aload_n C 1 dX9_find_40 rfl rfl ?_
    refine zx_iload_n C 3 dX9_find_41 rfl rfl ?_
    refine zx_iload_n C 2 dX9_find_42 rfl rfl ?_
    refine zx_callV (As := [.ref (ad (18 + j1)), .int v3, .int v2]) (st := []) C yk_X9_weigh q_550 q_552 q_7 (by decide) rfl rfl (k_X9_weigh C.hO N j1 hj1 v3 v2 σ) (by decide) rfl rfl (Nat.le_of_ble_eq_true rfl) dX9_find_43 (fun h9 => nomatch h9) (fun _ r_9 t_10 => ?_)
    refine zx_iinc (v := (v3 + (-1 : Int32))) (L1 := [(3, .int (v3 + (-1 : Int32))), (0, .ref (ad 40)), (1, .ref (ad (18 + j1))), (2, .int v2)]) C 3 dX9_find_46 rfl rfl (by decide) rfl ?_
    refine zx_goto (tgt := 35) C dX9_find_49 (by decide) ?_
    exact zx_sub (L1 := [(0, .ref (ad 40)), (1, .ref (ad (18 + j1))), (2, .int v2), (3, .int (v3 + (-1 : Int32)))]) [1, 2, 3, 0] rfl (hrec35 j1 hj1 v2 (v3 + (-1 : Int32)) t_10)
def lf_X9_find_35 (N : Nat) : Nat → Nat → Int32 → Int32 → zS → zA
  | 0, _, _, _, _ => none
  | n + 1, j1, v2, v3, σ => bf_X9_find_35 N (lf_X9_find_35 N  n) j1 v2 v3 σ
theorem l_X9_find_35 {G : zG} {dC : Nat → ClassId} {dI : Nat → Nat → Nat} {A : Nat → Prop} {ad : Nat → Nat} {cI cC cW : ClassId} (C : zC G dC dI A 48 ad (cfC ad cI cC cW) (z_ty cI cC cW) cX9_find RX9 4 10 none) (N : Nat) : ∀ (n : Nat) (j1 : Nat) (hj1 : j1 < 3) (v2 : Int32) (v3 : Int32) (σ : zS), zW G dC dI A 48 ad (cfC ad cI cC cW) 4 false (lf_X9_find_35 N  n j1 v2 v3 σ) σ 35 [(0, .ref (ad 40)), (1, .ref (ad (18 + j1))), (2, .int v2), (3, .int v3)] [] := by
  intro n
  induction n with
  | zero => intro j1 hj1 v2 v3 σ; exact zx_none
  | succ n ih => intro j1 hj1 v2 v3 σ; exact b_X9_find_35 C N (lf_X9_find_35 N  n) ih j1 hj1 v2 v3 σ
def f_X9_find (N : Nat) (j1 : Nat) (v2 : Int32) (σ : zS) : zA := z_m (z_row σ 41 (va_cpy (σ (27 + j1)) (σ 41) (0 : Int32).toNatClampNeg (0 : Int32).toNatClampNeg (16 : Int32).toNatClampNeg)) (fun t_11 => z_g (z_in (t_11 (18 + j1) 4) 7) (z_m (z_put t_11 43 (t_11 (18 + j1) 4).toNatClampNeg (0 : Int32)) (fun t_12 => z_n ((t_12 (18 + j1) 4) - (1 : Int32)) (fun z_13 => (lf_X9_find_35 N N j1 v2 z_13 t_12)))))
set_option maxHeartbeats 4000000 in
set_option maxRecDepth 100000 in
theorem k_X9_find {l : Launch} {dC : Nat → ClassId} {dI : Nat → Nat → Nat} {A : Nat → Prop} {ad : Nat → Nat} {cI cC cW : ClassId} (hO : zO A 48 ad (cfC ad cI cC cW)) (N : Nat) (j1 : Nat) (hj1 : j1 < 3) (v2 : Int32) (σ : zS) : zM l dC dI A 48 ad (cfC ad cI cC cW) (z_ty cI cC cW) false yX9_find cX9_find 4 none 10 [.ref (ad 40), .ref (ad (18 + j1)), .int v2] σ (f_X9_find N j1 v2 σ) := by
  refine zM_of hO (by decide) (Nat.le_of_ble_eq_true rfl) (fun G hG C => ?_)
  subst hG
  unfold f_X9_find
  refine zx_sub (L1 := [(0, .ref (ad 40)), (1, .ref (ad (18 + j1))), (2, .int v2)]) [0, 1, 2] rfl ?_
  refine zx_aload_n C 1 dX9_find_0 rfl rfl ?_
  refine zx_get C 3 (l_House (j := j1) hj1) (c_house (j := j1) hj1) rfl (by decide) inX4 q_158 rfl rfl dX9_find_1 ?_
  refine zx_iconst (v := 0) C dX9_find_4 (by decide) ?_
  refine zx_aload_n C 0 dX9_find_5 rfl rfl ?_
  refine zx_get C 0 (by decide) rfl rfl (by decide) inX9 q_212 rfl rfl dX9_find_6 ?_
  refine zx_iconst (v := 0) C dX9_find_9 (by decide) ?_
  refine zx_aload_n C 0 dX9_find_10 rfl rfl ?_
  refine zx_get C 0 (by decide) rfl rfl (by decide) inX9 q_212 rfl rfl dX9_find_11 ?_
  refine zx_alen (v := (16 : Int32)) C 0 (by decide) rfl rfl rfl dX9_find_14 ?_
  refine zx_copy C 0 (l_deb (j := j1) hj1) (by decide) (c_deb (j := j1) hj1 _) (fun _ => rfl) rfl q_549 q_312 q_311 q_48 (by decide) (by decide) (by decide) (by decide) (by decide) (by decide) (Nat.le_of_ble_eq_true rfl) dX9_find_15 (fun t_11 => ?_)
  refine zx_aload_n C 0 dX9_find_18 rfl rfl ?_
  refine zx_get C 2 (by decide) rfl rfl (by decide) inX9 q_214 rfl rfl dX9_find_19 ?_
  refine zx_aload_n C 1 dX9_find_22 rfl rfl ?_
  refine zx_get C 4 (l_House (j := j1) hj1) (c_house (j := j1) hj1) rfl (by decide) inX4 q_161 rfl rfl dX9_find_23 ?_
  refine zx_iconst (v := 0) C dX9_find_26 (by decide) ?_
  refine zx_iast C 0 (by decide) (fun _ => rfl) rfl dX9_find_27 (fun t_12 => ?_)
  refine zx_aload_n C 1 dX9_find_28 rfl rfl ?_
  refine zx_get C 4 (l_House (j := j1) hj1) (c_house (j := j1) hj1) rfl (by decide) inX4 q_161 rfl rfl dX9_find_29 ?_
  refine zx_iconst (v := 1) C dX9_find_32 (by decide) ?_
  refine zx_isub C dX9_find_33 ?_
  refine zx_n (fun z_13 => ?_)
  refine zx_istore_n (L1 := [(3, .int z_13), (0, .ref (ad 40)), (1, .ref (ad (18 + j1))), (2, .int v2)]) C dX9_find_34 rfl (by decide) rfl ?_
  exact zx_sub (L1 := [(0, .ref (ad 40)), (1, .ref (ad (18 + j1))), (2, .int v2), (3, .int z_13)]) [1, 2, 3, 0] rfl (l_X9_find_35 C N N j1 hj1 v2 z_13 t_12)
