def f_X11_no (N : Nat) (v1 : Int32) (σ : zS) : zA := z_g (z_in (-v1) 7) (z_g (z_in (-v1) 7) (z_m (z_put σ 9 (-v1).toNatClampNeg ((σ 9 (-v1).toNatClampNeg) + (1 : Int32))) (fun t_1 => some (v1, t_1))))
set_option maxHeartbeats 4000000 in
set_option maxRecDepth 100000 in
theorem k_X11_no {l : Launch} {dC : Nat → ClassId} {dI : Nat → Nat → Nat} {A : Nat → Prop} {ad : Nat → Nat} {cI cC cW : ClassId} (hO : zO A 16 ad (cfM ad cI)) (N : Nat) (v1 : Int32) (σ : zS) : zM l dC dI A 16 ad (cfM ad cI) (z_ty cI cC cW) true yX11_no cX11_no 2 (some .int) 0 [.ref (ad 0), .int v1] σ (f_X11_no N v1 σ) := by
  refine zM_of hO (by decide) (Nat.le_of_ble_eq_true rfl) (fun G hG C => ?_)
  subst hG
  unfold f_X11_no
  refine zx_sub (L1 := [(0, .ref (ad 0)), (1, .int v1)]) [0, 1] rfl ?_
  refine zx_aload_n C 0 dX11_no_0 rfl rfl ?_
  refine zx_get C 0 (by decide) rfl rfl (by decide) inX11 q_652 rfl rfl dX11_no_1 ?_
  refine zx_iload_n C 1 dX11_no_4 rfl rfl ?_
  refine zx_ineg C dX11_no_5 ?_
  refine zx_dup2 C dX11_no_6 rfl rfl ?_
  refine zx_iald C 0 (by decide) rfl rfl dX11_no_7 ?_
  refine zx_iconst (v := 1) C dX11_no_8 (by decide) ?_
  refine zx_iadd C dX11_no_9 ?_
  refine zx_iast C 0 (by decide) (fun _ => rfl) rfl dX11_no_10 (fun t_1 => ?_)
  refine zx_iload_n C 1 dX11_no_11 rfl rfl ?_
  exact zx_iret C dX11_no_12
def f_X11_lower (N : Nat) (v1 : Int32) (σ : zS) : zA := z_g (z_in (-v1) 7) (z_g (z_in (-v1) 7) (z_m (z_put σ 9 (-v1).toNatClampNeg ((σ 9 (-v1).toNatClampNeg) + (1 : Int32))) (fun t_1 => some (((1000000000 : Int32) - v1), t_1))))
set_option maxHeartbeats 4000000 in
set_option maxRecDepth 100000 in
theorem k_X11_lower {l : Launch} {dC : Nat → ClassId} {dI : Nat → Nat → Nat} {A : Nat → Prop} {ad : Nat → Nat} {cI cC cW : ClassId} (hO : zO A 16 ad (cfM ad cI)) (N : Nat) (v1 : Int32) (σ : zS) : zM l dC dI A 16 ad (cfM ad cI) (z_ty cI cC cW) true yX11_lower cX11_lower 2 (some .int) 0 [.ref (ad 0), .int v1] σ (f_X11_lower N v1 σ) := by
  refine zM_of hO (by decide) (Nat.le_of_ble_eq_true rfl) (fun G hG C => ?_)
  subst hG
  unfold f_X11_lower
  refine zx_sub (L1 := [(0, .ref (ad 0)), (1, .int v1)]) [0, 1] rfl ?_
  refine zx_aload_n C 0 dX11_lower_0 rfl rfl ?_
  refine zx_get C 0 (by decide) rfl rfl (by decide) inX11 q_652 rfl rfl dX11_lower_1 ?_
  refine zx_iload_n C 1 dX11_lower_4 rfl rfl ?_
  refine zx_ineg C dX11_lower_5 ?_
  refine zx_dup2 C dX11_lower_6 rfl rfl ?_
  refine zx_iald C 0 (by decide) rfl rfl dX11_lower_7 ?_
  refine zx_iconst (v := 1) C dX11_lower_8 (by decide) ?_
  refine zx_iadd C dX11_lower_9 ?_
  refine zx_iast C 0 (by decide) (fun _ => rfl) rfl dX11_lower_10 (fun t_1 => ?_)
  refine zx_ldc (v := 1000000000) C dX11_lower_11 q_950 ?_
  refine zx_iload_n C 1 dX11_lower_13 rfl rfl ?_
  refine zx_isub C dX11_lower_14 ?_
  exact zx_iret C dX11_lower_15
def f_X11_isIn (N : Nat) (v0 : Int32) (v1 : Int32) (v2 : Int32) (σ : zS) : zA := (if v0 < v1 then some ((0 : Int32), σ) else (if v2 < v0 then some ((0 : Int32), σ) else some ((1 : Int32), σ)))
set_option maxHeartbeats 4000000 in
set_option maxRecDepth 100000 in
theorem k_X11_isIn {l : Launch} {dC : Nat → ClassId} {dI : Nat → Nat → Nat} {A : Nat → Prop} {ad : Nat → Nat} {cI cC cW : ClassId} (hO : zO A 16 ad (cfM ad cI)) (N : Nat) (v0 : Int32) (v1 : Int32) (v2 : Int32) (σ : zS) : zM l dC dI A 16 ad (cfM ad cI) (z_ty cI cC cW) true yX11_isIn cX11_isIn 3 (some .boolean) 0 [.int v0, .int v1, .int v2] σ (f_X11_isIn N v0 v1 v2 σ) := by
  refine zM_of hO (by decide) (Nat.le_of_ble_eq_true rfl) (fun G hG C => ?_)
  subst hG
  unfold f_X11_isIn
  refine zx_sub (L1 := [(0, .int v0), (1, .int v1), (2, .int v2)]) [0, 1, 2] rfl ?_
  refine zx_iload_n C 0 dX11_isIn_0 rfl rfl ?_
  refine zx_iload_n C 1 dX11_isIn_1 rfl rfl ?_
  refine zx_icmp_lt (tgt := 14) C dX11_isIn_2 (by decide) (fun h_1 => ?_) (fun h_1 => ?_)
  · refine zx_iconst (v := 0) C dX11_isIn_14 (by decide) ?_
    exact zx_zret C (by decide) dX11_isIn_15
  · refine zx_iload_n C 0 dX11_isIn_5 rfl rfl ?_
    refine zx_iload_n C 2 dX11_isIn_6 rfl rfl ?_
    refine zx_icmp_gt (tgt := 14) C dX11_isIn_7 (by decide) (fun h_2 => ?_) (fun h_2 => ?_)
    · refine zx_iconst (v := 0) C dX11_isIn_14 (by decide) ?_
      exact zx_zret C (by decide) dX11_isIn_15
    · refine zx_iconst (v := 1) C dX11_isIn_10 (by decide) ?_
      refine zx_goto (tgt := 15) C dX11_isIn_11 (by decide) ?_
      exact zx_zret C (by decide) dX11_isIn_15
def f_X11_bound (N : Nat) (v0 : Int32) (v1 : Int32) (v2 : Int32) (σ : zS) : zA := (if v1 ≤ v0 then (if v0 ≤ v2 then some ((0 : Int32), σ) else some ((-6 : Int32), σ)) else some ((-4 : Int32), σ))
set_option maxHeartbeats 4000000 in
set_option maxRecDepth 100000 in
theorem k_X11_bound {l : Launch} {dC : Nat → ClassId} {dI : Nat → Nat → Nat} {A : Nat → Prop} {ad : Nat → Nat} {cI cC cW : ClassId} (hO : zO A 16 ad (cfM ad cI)) (N : Nat) (v0 : Int32) (v1 : Int32) (v2 : Int32) (σ : zS) : zM l dC dI A 16 ad (cfM ad cI) (z_ty cI cC cW) true yX11_bound cX11_bound 3 (some .int) 0 [.int v0, .int v1, .int v2] σ (f_X11_bound N v0 v1 v2 σ) := by
  refine zM_of hO (by decide) (Nat.le_of_ble_eq_true rfl) (fun G hG C => ?_)
  subst hG
  unfold f_X11_bound
  refine zx_sub (L1 := [(0, .int v0), (1, .int v1), (2, .int v2)]) [0, 1, 2] rfl ?_
  refine zx_iload_n C 0 dX11_bound_0 rfl rfl ?_
  refine zx_iload_n C 1 dX11_bound_1 rfl rfl ?_
  refine zx_icmp_ge (tgt := 10) C dX11_bound_2 (by decide) (fun h_1 => ?_) (fun h_1 => ?_)
  · refine zx_iload_n C 0 dX11_bound_10 rfl rfl ?_
    refine zx_iload_n C 2 dX11_bound_11 rfl rfl ?_
    refine zx_icmp_le (tgt := 20) C dX11_bound_12 (by decide) (fun h_2 => ?_) (fun h_2 => ?_)
    · refine zx_iconst (v := 0) C dX11_bound_20 (by decide) ?_
      exact zx_iret C dX11_bound_21
    · refine zx_bipush (v := -6) C dX11_bound_15 (by decide) ?_
      refine zx_goto (tgt := 21) C dX11_bound_17 (by decide) ?_
      exact zx_iret C dX11_bound_21
  · refine zx_bipush (v := -4) C dX11_bound_5 (by decide) ?_
    refine zx_goto (tgt := 21) C dX11_bound_7 (by decide) ?_
    exact zx_iret C dX11_bound_21
def f_X11_least (N : Nat) (v0 : Int32) (v1 : Int32) (σ : zS) : zA := (if v1 ≤ v0 then some (v1, σ) else some (v0, σ))
set_option maxHeartbeats 4000000 in
set_option maxRecDepth 100000 in
theorem k_X11_least {l : Launch} {dC : Nat → ClassId} {dI : Nat → Nat → Nat} {A : Nat → Prop} {ad : Nat → Nat} {cI cC cW : ClassId} (hO : zO A 16 ad (cfM ad cI)) (N : Nat) (v0 : Int32) (v1 : Int32) (σ : zS) : zM l dC dI A 16 ad (cfM ad cI) (z_ty cI cC cW) true yX11_least cX11_least 2 (some .int) 0 [.int v0, .int v1] σ (f_X11_least N v0 v1 σ) := by
  refine zM_of hO (by decide) (Nat.le_of_ble_eq_true rfl) (fun G hG C => ?_)
  subst hG
  unfold f_X11_least
  refine zx_sub (L1 := [(0, .int v0), (1, .int v1)]) [0, 1] rfl ?_
  refine zx_iload_n C 0 dX11_least_0 rfl rfl ?_
  refine zx_iload_n C 1 dX11_least_1 rfl rfl ?_
  refine zx_icmp_ge (tgt := 9) C dX11_least_2 (by decide) (fun h_1 => ?_) (fun h_1 => ?_)
  · refine zx_iload_n C 1 dX11_least_9 rfl rfl ?_
    exact zx_iret C dX11_least_10
  · refine zx_iload_n C 0 dX11_least_5 rfl rfl ?_
    refine zx_goto (tgt := 10) C dX11_least_6 (by decide) ?_
    exact zx_iret C dX11_least_10
def f_X11_isCandle (N : Nat) (v1 : Int32) (σ : zS) : zA := (if v1 < (0 : Int32) then some ((0 : Int32), σ) else (if (σ 0 9) ≤ v1 then some ((0 : Int32), σ) else some ((1 : Int32), σ)))
set_option maxHeartbeats 4000000 in
set_option maxRecDepth 100000 in
theorem k_X11_isCandle {l : Launch} {dC : Nat → ClassId} {dI : Nat → Nat → Nat} {A : Nat → Prop} {ad : Nat → Nat} {cI cC cW : ClassId} (hO : zO A 16 ad (cfM ad cI)) (N : Nat) (v1 : Int32) (σ : zS) : zM l dC dI A 16 ad (cfM ad cI) (z_ty cI cC cW) true yX11_isCandle cX11_isCandle 2 (some .boolean) 0 [.ref (ad 0), .int v1] σ (f_X11_isCandle N v1 σ) := by
  refine zM_of hO (by decide) (Nat.le_of_ble_eq_true rfl) (fun G hG C => ?_)
  subst hG
  unfold f_X11_isCandle
  refine zx_sub (L1 := [(0, .ref (ad 0)), (1, .int v1)]) [0, 1] rfl ?_
  refine zx_iload_n C 1 dX11_isCandle_0 rfl rfl ?_
  refine zx_if_lt (tgt := 16) C dX11_isCandle_1 (by decide) (fun h_1 => ?_) (fun h_1 => ?_)
  · refine zx_iconst (v := 0) C dX11_isCandle_16 (by decide) ?_
    exact zx_zret C (by decide) dX11_isCandle_17
  · refine zx_iload_n C 1 dX11_isCandle_4 rfl rfl ?_
    refine zx_aload_n C 0 dX11_isCandle_5 rfl rfl ?_
    refine zx_get C 9 (by decide) rfl rfl (by decide) inX11 q_661 rfl rfl dX11_isCandle_6 ?_
    refine zx_icmp_ge (tgt := 16) C dX11_isCandle_9 (by decide) (fun h_2 => ?_) (fun h_2 => ?_)
    · refine zx_iconst (v := 0) C dX11_isCandle_16 (by decide) ?_
      exact zx_zret C (by decide) dX11_isCandle_17
    · refine zx_iconst (v := 1) C dX11_isCandle_12 (by decide) ?_
      refine zx_goto (tgt := 17) C dX11_isCandle_13 (by decide) ?_
      exact zx_zret C (by decide) dX11_isCandle_17
def f_X11_isOne (N : Nat) (v0 : Int32) (σ : zS) : zA := (if v0 < (0 : Int32) then some ((0 : Int32), σ) else (if (4 : Int32) ≤ v0 then some ((0 : Int32), σ) else some ((1 : Int32), σ)))
set_option maxHeartbeats 4000000 in
set_option maxRecDepth 100000 in
theorem k_X11_isOne {l : Launch} {dC : Nat → ClassId} {dI : Nat → Nat → Nat} {A : Nat → Prop} {ad : Nat → Nat} {cI cC cW : ClassId} (hO : zO A 16 ad (cfM ad cI)) (N : Nat) (v0 : Int32) (σ : zS) : zM l dC dI A 16 ad (cfM ad cI) (z_ty cI cC cW) true yX11_isOne cX11_isOne 1 (some .boolean) 0 [.int v0] σ (f_X11_isOne N v0 σ) := by
  refine zM_of hO (by decide) (Nat.le_of_ble_eq_true rfl) (fun G hG C => ?_)
  subst hG
  unfold f_X11_isOne
  refine zx_sub (L1 := [(0, .int v0)]) [0] rfl ?_
  refine zx_iload_n C 0 dX11_isOne_0 rfl rfl ?_
  refine zx_if_lt (tgt := 13) C dX11_isOne_1 (by decide) (fun h_1 => ?_) (fun h_1 => ?_)
  · refine zx_iconst (v := 0) C dX11_isOne_13 (by decide) ?_
    exact zx_zret C (by decide) dX11_isOne_14
  · refine zx_iload_n C 0 dX11_isOne_4 rfl rfl ?_
    refine zx_iconst (v := 4) C dX11_isOne_5 (by decide) ?_
    refine zx_icmp_ge (tgt := 13) C dX11_isOne_6 (by decide) (fun h_2 => ?_) (fun h_2 => ?_)
    · refine zx_iconst (v := 0) C dX11_isOne_13 (by decide) ?_
      exact zx_zret C (by decide) dX11_isOne_14
    · refine zx_iconst (v := 1) C dX11_isOne_9 (by decide) ?_
      refine zx_goto (tgt := 14) C dX11_isOne_10 (by decide) ?_
      exact zx_zret C (by decide) dX11_isOne_14
def f_X11_areTwo (N : Nat) (v0 : Int32) (v1 : Int32) (σ : zS) : zA := z_b (f_X11_isOne N v0 σ) (fun r_1 t_2 => (if r_1 = (0 : Int32) then some ((0 : Int32), t_2) else z_b (f_X11_isOne N v1 t_2) (fun r_4 t_5 => (if r_4 = (0 : Int32) then some ((0 : Int32), t_5) else (if v0 = v1 then some ((0 : Int32), t_5) else some ((1 : Int32), t_5))))))
set_option maxHeartbeats 4000000 in
set_option maxRecDepth 100000 in
theorem k_X11_areTwo {l : Launch} {dC : Nat → ClassId} {dI : Nat → Nat → Nat} {A : Nat → Prop} {ad : Nat → Nat} {cI cC cW : ClassId} (hO : zO A 16 ad (cfM ad cI)) (N : Nat) (v0 : Int32) (v1 : Int32) (σ : zS) : zM l dC dI A 16 ad (cfM ad cI) (z_ty cI cC cW) true yX11_areTwo cX11_areTwo 2 (some .boolean) 1 [.int v0, .int v1] σ (f_X11_areTwo N v0 v1 σ) := by
  refine zM_of hO (by decide) (Nat.le_of_ble_eq_true rfl) (fun G hG C => ?_)
  subst hG
  unfold f_X11_areTwo
  refine zx_sub (L1 := [(0, .int v0), (1, .int v1)]) [0, 1] rfl ?_
  refine zx_iload_n C 0 dX11_areTwo_0 rfl rfl ?_
  refine zx_callS (av := [.int v0]) (st := []) C yk_X11_isOne q_790 q_791 (k_X11_isOne C.hO N v0 σ) (by decide) rfl rfl (Nat.le_of_ble_eq_true rfl) dX11_areTwo_1 (fun _ r_1 t_2 => ?_) (fun h9 => nomatch h9)
  refine zx_if_eq (tgt := 23) C dX11_areTwo_4 (by decide) (fun h_3 => ?_) (fun h_3 => ?_)
  · refine zx_iconst (v := 0) C dX11_areTwo_23 (by decide) ?_
    exact zx_zret C (by decide) dX11_areTwo_24
  · refine zx_iload_n C 1 dX11_areTwo_7 rfl rfl ?_
    refine zx_callS (av := [.int v1]) (st := []) C yk_X11_isOne q_790 q_791 (k_X11_isOne C.hO N v1 t_2) (by decide) rfl rfl (Nat.le_of_ble_eq_true rfl) dX11_areTwo_8 (fun _ r_4 t_5 => ?_) (fun h9 => nomatch h9)
    refine zx_if_eq (tgt := 23) C dX11_areTwo_11 (by decide) (fun h_6 => ?_) (fun h_6 => ?_)
    · refine zx_iconst (v := 0) C dX11_areTwo_23 (by decide) ?_
      exact zx_zret C (by decide) dX11_areTwo_24
    · refine zx_iload_n C 0 dX11_areTwo_14 rfl rfl ?_
      refine zx_iload_n C 1 dX11_areTwo_15 rfl rfl ?_
      refine zx_icmp_eq (tgt := 23) C dX11_areTwo_16 (by decide) (fun h_7 => ?_) (fun h_7 => ?_)
      · refine zx_iconst (v := 0) C dX11_areTwo_23 (by decide) ?_
        exact zx_zret C (by decide) dX11_areTwo_24
      · refine zx_iconst (v := 1) C dX11_areTwo_19 (by decide) ?_
        refine zx_goto (tgt := 24) C dX11_areTwo_20 (by decide) ?_
        exact zx_zret C (by decide) dX11_areTwo_24
def bf_X11_feed_25 (N : Nat) (v1 : Int32) (v2 : Int32) (σ : zS) : zA := (if v2 = (0 : Int32) then z_g (z_in (σ 0 18) 80) (z_m (z_put σ 10 (σ 0 18).toNatClampNeg v1) (fun t_2 => z_m (z_put t_2 0 18 ((t_2 0 18) + (1 : Int32))) (fun t_3 => some ((t_3 0 18), t_3)))) else z_b (f_X11_no N v2 σ) (fun r_4 t_5 => some (r_4, t_5)))
set_option maxHeartbeats 4000000 in
set_option maxRecDepth 100000 in
theorem b_X11_feed_25 {G : zG} {dC : Nat → ClassId} {dI : Nat → Nat → Nat} {A : Nat → Prop} {ad : Nat → Nat} {cI cC cW : ClassId} (C : zC G dC dI A 16 ad (cfM ad cI) (z_ty cI cC cW) cX11_feed RX11 3 1 (some .int)) (N : Nat) (v1 : Int32) (v2 : Int32) (σ : zS) : zW G dC dI A 16 ad (cfM ad cI) 3 true (bf_X11_feed_25 N  v1 v2 σ) σ 25 [(0, .ref (ad 0)), (1, .int v1), (2, .int v2)] [] := by
  unfold bf_X11_feed_25
  refine zx_iload_n C 2 dX11_feed_25 rfl rfl ?_
  refine zx_if_eq (tgt := 35) C dX11_feed_26 (by decide) (fun h_1 => ?_) (fun h_1 => ?_)
  · refine zx_aload_n C 0 dX11_feed_35 rfl rfl ?_
    refine zx_get C 14 (by decide) rfl rfl (by decide) inX11 q_666 rfl rfl dX11_feed_36 ?_
    refine zx_aload_n C 0 dX11_feed_39 rfl rfl ?_
    refine zx_get C 18 (by decide) rfl rfl (by decide) inX11 q_670 rfl rfl dX11_feed_40 ?_
    refine zx_iload_n C 1 dX11_feed_43 rfl rfl ?_
    refine zx_iast C 0 (by decide) (fun _ => rfl) rfl dX11_feed_44 (fun t_2 => ?_)
    refine zx_aload_n C 0 dX11_feed_45 rfl rfl ?_
    refine zx_dup C dX11_feed_46 rfl ?_
    refine zx_get C 18 (by decide) rfl rfl (by decide) inX11 q_670 rfl rfl dX11_feed_47 ?_
    refine zx_iconst (v := 1) C dX11_feed_50 (by decide) ?_
    refine zx_iadd C dX11_feed_51 ?_
    refine zx_put (ty := .int) C 18 (by decide) rfl rfl (by decide) inX11 tyX11 tyX11_ok nmX11 q_670 rfl rfl (by decide +kernel) rfl rfl (Nat.le_of_ble_eq_true rfl) (by rfl) dX11_feed_52 (fun t_3 => ?_)
    refine zx_aload_n C 0 dX11_feed_55 rfl rfl ?_
    refine zx_get C 18 (by decide) rfl rfl (by decide) inX11 q_670 rfl rfl dX11_feed_56 ?_
    exact zx_iret C dX11_feed_59
  · refine zx_aload_n C 0 dX11_feed_29 rfl rfl ?_
    refine zx_iload_n C 2 dX11_feed_30 rfl rfl ?_
    refine zx_callV (As := [.int v2]) (st := []) C yk_X11_no q_747 q_749 q_10 (by decide) rfl rfl (k_X11_no C.hO N v2 σ) (by decide) rfl rfl (Nat.le_of_ble_eq_true rfl) dX11_feed_31 (fun _ r_4 t_5 => ?_) (fun h9 => nomatch h9)
    exact zx_iret C dX11_feed_34
def f_X11_feed (N : Nat) (v1 : Int32) (σ : zS) : zA := z_b (f_X11_bound N v1 (0 : Int32) (255 : Int32) σ) (fun r_6 t_7 => (if r_6 = (0 : Int32) then (if (t_7 0 18) = (80 : Int32) then (bf_X11_feed_25 N v1 (-6 : Int32) t_7) else (bf_X11_feed_25 N v1 r_6 t_7)) else (bf_X11_feed_25 N v1 r_6 t_7)))
set_option maxHeartbeats 4000000 in
set_option maxRecDepth 100000 in
theorem k_X11_feed {l : Launch} {dC : Nat → ClassId} {dI : Nat → Nat → Nat} {A : Nat → Prop} {ad : Nat → Nat} {cI cC cW : ClassId} (hO : zO A 16 ad (cfM ad cI)) (N : Nat) (v1 : Int32) (σ : zS) : zM l dC dI A 16 ad (cfM ad cI) (z_ty cI cC cW) true yX11_feed cX11_feed 3 (some .int) 1 [.ref (ad 0), .int v1] σ (f_X11_feed N v1 σ) := by
  refine zM_of hO (by decide) (Nat.le_of_ble_eq_true rfl) (fun G hG C => ?_)
  subst hG
  unfold f_X11_feed
  refine zx_sub (L1 := [(0, .ref (ad 0)), (1, .int v1)]) [0, 1] rfl ?_
  refine zx_iload_n C 1 dX11_feed_0 rfl rfl ?_
  refine zx_iconst (v := 0) C dX11_feed_1 (by decide) ?_
  refine zx_sipush (v := 255) C dX11_feed_2 (by decide) ?_
  refine zx_callS (av := [.int v1, .int (0 : Int32), .int (255 : Int32)]) (st := []) C yk_X11_bound q_744 q_745 (k_X11_bound C.hO N v1 (0 : Int32) (255 : Int32) σ) (by decide) rfl rfl (Nat.le_of_ble_eq_true rfl) dX11_feed_5 (fun _ r_6 t_7 => ?_) (fun h9 => nomatch h9)
  refine zx_istore_n (L1 := [(2, .int r_6), (0, .ref (ad 0)), (1, .int v1)]) C dX11_feed_8 rfl (by decide) rfl ?_
  refine zx_iload_n C 0 dX11_feed_9 rfl rfl ?_
  refine zx_if_ne (tgt := 25) C dX11_feed_10 (by decide) (fun h_8 => ?_) (fun h_8 => ?_)
  · exact zx_sub (L1 := [(0, .ref (ad 0)), (1, .int v1), (2, .int r_6)]) [1, 2, 0] rfl (b_X11_feed_25 C N v1 r_6 t_7)
  · refine zx_aload_n C 1 dX11_feed_13 rfl rfl ?_
    refine zx_get C 18 (by decide) rfl rfl (by decide) inX11 q_670 rfl rfl dX11_feed_14 ?_
    refine zx_bipush (v := 80) C dX11_feed_17 (by decide) ?_
    refine zx_icmp_ne (tgt := 25) C dX11_feed_19 (by decide) (fun h_9 => ?_) (fun h_9 => ?_)
    · exact zx_sub (L1 := [(0, .ref (ad 0)), (1, .int v1), (2, .int r_6)]) [1, 2, 0] rfl (b_X11_feed_25 C N v1 r_6 t_7)
    · refine zx_bipush (v := -6) C dX11_feed_22 (by decide) ?_
      refine zx_istore_n (L1 := [(2, .int (-6 : Int32)), (0, .ref (ad 0)), (1, .int v1)]) C dX11_feed_24 rfl (by decide) rfl ?_
      exact zx_sub (L1 := [(0, .ref (ad 0)), (1, .int v1), (2, .int (-6 : Int32))]) [1, 2, 0] rfl (b_X11_feed_25 C N v1 (-6 : Int32) t_7)
def f_X11_next (N : Nat) (σ : zS) : zA := (if (σ 0 18) ≤ (σ 0 19) then some ((-1 : Int32), σ) else z_g (z_in (σ 0 19) 80) (some ((σ 10 (σ 0 19).toNatClampNeg), σ)))
set_option maxHeartbeats 4000000 in
set_option maxRecDepth 100000 in
theorem k_X11_next {l : Launch} {dC : Nat → ClassId} {dI : Nat → Nat → Nat} {A : Nat → Prop} {ad : Nat → Nat} {cI cC cW : ClassId} (hO : zO A 16 ad (cfM ad cI)) (N : Nat) (σ : zS) : zM l dC dI A 16 ad (cfM ad cI) (z_ty cI cC cW) true yX11_next cX11_next 1 (some .int) 0 [.ref (ad 0)] σ (f_X11_next N  σ) := by
  refine zM_of hO (by decide) (Nat.le_of_ble_eq_true rfl) (fun G hG C => ?_)
  subst hG
  unfold f_X11_next
  refine zx_sub (L1 := [(0, .ref (ad 0))]) [0] rfl ?_
  refine zx_aload_n C 0 dX11_next_0 rfl rfl ?_
  refine zx_get C 19 (by decide) rfl rfl (by decide) inX11 q_671 rfl rfl dX11_next_1 ?_
  refine zx_aload_n C 0 dX11_next_4 rfl rfl ?_
  refine zx_get C 18 (by decide) rfl rfl (by decide) inX11 q_670 rfl rfl dX11_next_5 ?_
  refine zx_icmp_ge (tgt := 23) C dX11_next_8 (by decide) (fun h_1 => ?_) (fun h_1 => ?_)
  · refine zx_iconst (v := -1) C dX11_next_23 (by decide) ?_
    exact zx_iret C dX11_next_24
  · refine zx_aload_n C 0 dX11_next_11 rfl rfl ?_
    refine zx_get C 14 (by decide) rfl rfl (by decide) inX11 q_666 rfl rfl dX11_next_12 ?_
    refine zx_aload_n C 0 dX11_next_15 rfl rfl ?_
    refine zx_get C 19 (by decide) rfl rfl (by decide) inX11 q_671 rfl rfl dX11_next_16 ?_
    refine zx_iald C 0 (by decide) rfl rfl dX11_next_19 ?_
    refine zx_goto (tgt := 24) C dX11_next_20 (by decide) ?_
    exact zx_iret C dX11_next_24
def bf_X11_readsNumber_70 (N : Nat) (v1 : Int32) (v3 : Int32) (σ : zS) : zA := z_g (z_in v1 160) (z_m (z_put σ 13 v1.toNatClampNeg v3) (fun t_1 => some ((1 : Int32), t_1)))
set_option maxHeartbeats 4000000 in
set_option maxRecDepth 100000 in
theorem b_X11_readsNumber_70 {G : zG} {dC : Nat → ClassId} {dI : Nat → Nat → Nat} {A : Nat → Prop} {ad : Nat → Nat} {cI cC cW : ClassId} (C : zC G dC dI A 16 ad (cfM ad cI) (z_ty cI cC cW) cX11_readsNumber RX11 5 1 (some .boolean)) (N : Nat) (v1 : Int32) (v3 : Int32) (σ : zS) : zW G dC dI A 16 ad (cfM ad cI) 5 true (bf_X11_readsNumber_70 N  v1 v3 σ) σ 70 [(0, .ref (ad 0)), (1, .int v1), (3, .int v3)] [] := by
  unfold bf_X11_readsNumber_70
  refine zx_aload_n C 0 dX11_readsNumber_70 rfl rfl ?_
  refine zx_get C 17 (by decide) rfl rfl (by decide) inX11 q_669 rfl rfl dX11_readsNumber_71 ?_
  refine zx_iload_n C 1 dX11_readsNumber_74 rfl rfl ?_
  refine zx_iload_n C 2 dX11_readsNumber_75 rfl rfl ?_
  refine zx_iast C 0 (by decide) (fun _ => rfl) rfl dX11_readsNumber_76 (fun t_1 => ?_)
  refine zx_iconst (v := 1) C dX11_readsNumber_77 (by decide) ?_
  exact zx_zret C (by decide) dX11_readsNumber_78
def bf_X11_readsNumber_21 (N : Nat) (rec21 : Int32 → Int32 → Int32 → Int32 → zS → zA) (v1 : Int32) (v2 : Int32) (v3 : Int32) (v4 : Int32) (σ : zS) : zA := (if v2 ≤ v4 then (bf_X11_readsNumber_70 N v1 v3 σ) else z_b (f_X11_next N σ) (fun r_3 t_4 => z_b (f_X11_isIn N r_3 (48 : Int32) (57 : Int32) t_4) (fun r_5 t_6 => (if r_5 = (0 : Int32) then (bf_X11_readsNumber_70 N v1 v3 t_6) else z_b (f_X11_next N t_6) (fun r_8 t_9 => z_n ((((10 : Int32) * v3) + r_8) - (48 : Int32)) (fun z_10 => z_m (z_put t_9 0 19 ((t_9 0 19) + (1 : Int32))) (fun t_11 => (rec21 v1 v2 z_10 (v4 + (1 : Int32)) t_11))))))))
set_option maxHeartbeats 4000000 in
set_option maxRecDepth 100000 in
theorem b_X11_readsNumber_21 {G : zG} {dC : Nat → ClassId} {dI : Nat → Nat → Nat} {A : Nat → Prop} {ad : Nat → Nat} {cI cC cW : ClassId} (C : zC G dC dI A 16 ad (cfM ad cI) (z_ty cI cC cW) cX11_readsNumber RX11 5 1 (some .boolean)) (N : Nat) (rec21 : Int32 → Int32 → Int32 → Int32 → zS → zA) (hrec21 : ∀ (v1 : Int32) (v2 : Int32) (v3 : Int32) (v4 : Int32) (σ : zS), zW G dC dI A 16 ad (cfM ad cI) 5 true (rec21 v1 v2 v3 v4 σ) σ 21 [(0, .ref (ad 0)), (1, .int v1), (2, .int v2), (3, .int v3), (4, .int v4)] []) (v1 : Int32) (v2 : Int32) (v3 : Int32) (v4 : Int32) (σ : zS) : zW G dC dI A 16 ad (cfM ad cI) 5 true (bf_X11_readsNumber_21 N rec21 v1 v2 v3 v4 σ) σ 21 [(0, .ref (ad 0)), (1, .int v1), (2, .int v2), (3, .int v3), (4, .int v4)] [] := by
  unfold bf_X11_readsNumber_21
  refine zx_iload C 4 dX11_readsNumber_21 rfl ?_
  refine zx_iload_n C 2 dX11_readsNumber_23 rfl rfl ?_
  refine zx_icmp_ge (tgt := 70) C dX11_readsNumber_24 (by decide) (fun h_2 => ?_) (fun h_2 => ?_)
  · exact zx_sub (L1 := [(0, .ref (ad 0)), (1, .int v1), (3, .int v3)]) [0, 1, 3] rfl (b_X11_readsNumber_70 C N v1 v3 σ)
  · refine zx_aload_n C 0 dX11_readsNumber_27 rfl rfl ?_
    refine zx_callV (As := []) (st := []) C yk_X11_next q_759 q_761 q_12 (by decide) rfl rfl (k_X11_next C.hO N σ) (by decide) rfl rfl (Nat.le_of_ble_eq_true rfl) dX11_readsNumber_28 (fun _ r_3 t_4 => ?_) (fun h9 => nomatch h9)
    refine zx_bipush (v := 48) C dX11_readsNumber_31 (by decide) ?_
    refine zx_bipush (v := 57) C dX11_readsNumber_33 (by decide) ?_
    refine zx_callS (av := [.int r_3, .int (48 : Int32), .int (57 : Int32)]) (st := []) C yk_X11_isIn q_767 q_768 (k_X11_isIn C.hO N r_3 (48 : Int32) (57 : Int32) t_4) (by decide) rfl rfl (Nat.le_of_ble_eq_true rfl) dX11_readsNumber_35 (fun _ r_5 t_6 => ?_) (fun h9 => nomatch h9)
    refine zx_if_eq (tgt := 70) C dX11_readsNumber_38 (by decide) (fun h_7 => ?_) (fun h_7 => ?_)
    · exact zx_sub (L1 := [(0, .ref (ad 0)), (1, .int v1), (3, .int v3)]) [0, 1, 3] rfl (b_X11_readsNumber_70 C N v1 v3 t_6)
    · refine zx_bipush (v := 10) C dX11_readsNumber_41 (by decide) ?_
      refine zx_iload_n C 3 dX11_readsNumber_43 rfl rfl ?_
      refine zx_imul C dX11_readsNumber_44 ?_
      refine zx_aload_n C 0 dX11_readsNumber_45 rfl rfl ?_
      refine zx_callV (As := []) (st := [.int ((10 : Int32) * v3)]) C yk_X11_next q_759 q_761 q_12 (by decide) rfl rfl (k_X11_next C.hO N t_6) (by decide) rfl rfl (Nat.le_of_ble_eq_true rfl) dX11_readsNumber_46 (fun _ r_8 t_9 => ?_) (fun h9 => nomatch h9)
      refine zx_iadd C dX11_readsNumber_49 ?_
      refine zx_bipush (v := 48) C dX11_readsNumber_50 (by decide) ?_
      refine zx_isub C dX11_readsNumber_52 ?_
      refine zx_n (fun z_10 => ?_)
      refine zx_istore_n (L1 := [(3, .int z_10), (0, .ref (ad 0)), (1, .int v1), (2, .int v2), (4, .int v4)]) C dX11_readsNumber_53 rfl (by decide) rfl ?_
      refine zx_aload_n C 1 dX11_readsNumber_54 rfl rfl ?_
      refine zx_dup C dX11_readsNumber_55 rfl ?_
      refine zx_get C 19 (by decide) rfl rfl (by decide) inX11 q_671 rfl rfl dX11_readsNumber_56 ?_
      refine zx_iconst (v := 1) C dX11_readsNumber_59 (by decide) ?_
      refine zx_iadd C dX11_readsNumber_60 ?_
      refine zx_put (ty := .int) C 19 (by decide) rfl rfl (by decide) inX11 tyX11 tyX11_ok nmX11 q_671 rfl rfl (by decide +kernel) rfl rfl (Nat.le_of_ble_eq_true rfl) (by rfl) dX11_readsNumber_61 (fun t_11 => ?_)
      refine zx_iinc (v := (v4 + (1 : Int32))) (L1 := [(4, .int (v4 + (1 : Int32))), (3, .int z_10), (0, .ref (ad 0)), (1, .int v1), (2, .int v2)]) C 4 dX11_readsNumber_64 rfl rfl (by decide) rfl ?_
      refine zx_goto (tgt := 21) C dX11_readsNumber_67 (by decide) ?_
      exact zx_sub (L1 := [(0, .ref (ad 0)), (1, .int v1), (2, .int v2), (3, .int z_10), (4, .int (v4 + (1 : Int32)))]) [2, 3, 4, 1, 0] rfl (hrec21 v1 v2 z_10 (v4 + (1 : Int32)) t_11)
def lf_X11_readsNumber_21 (N : Nat) : Nat → Int32 → Int32 → Int32 → Int32 → zS → zA
  | 0, _, _, _, _, _ => none
  | n + 1, v1, v2, v3, v4, σ => bf_X11_readsNumber_21 N (lf_X11_readsNumber_21 N  n) v1 v2 v3 v4 σ
theorem l_X11_readsNumber_21 {G : zG} {dC : Nat → ClassId} {dI : Nat → Nat → Nat} {A : Nat → Prop} {ad : Nat → Nat} {cI cC cW : ClassId} (C : zC G dC dI A 16 ad (cfM ad cI) (z_ty cI cC cW) cX11_readsNumber RX11 5 1 (some .boolean)) (N : Nat) : ∀ (n : Nat) (v1 : Int32) (v2 : Int32) (v3 : Int32) (v4 : Int32) (σ : zS), zW G dC dI A 16 ad (cfM ad cI) 5 true (lf_X11_readsNumber_21 N  n v1 v2 v3 v4 σ) σ 21 [(0, .ref (ad 0)), (1, .int v1), (2, .int v2), (3, .int v3), (4, .int v4)] [] := by
  intro n
  induction n with
  | zero => intro v1 v2 v3 v4 σ; exact zx_none
  | succ n ih => intro v1 v2 v3 v4 σ; exact b_X11_readsNumber_21 C N (lf_X11_readsNumber_21 N  n) ih v1 v2 v3 v4 σ
def f_X11_readsNumber (N : Nat) (v1 : Int32) (v2 : Int32) (σ : zS) : zA := z_b (f_X11_next N σ) (fun r_12 t_13 => z_b (f_X11_isIn N r_12 (48 : Int32) (57 : Int32) t_13) (fun r_14 t_15 => (if r_14 = (0 : Int32) then some ((0 : Int32), t_15) else (lf_X11_readsNumber_21 N N v1 v2 (0 : Int32) (0 : Int32) t_15))))
set_option maxHeartbeats 4000000 in
set_option maxRecDepth 100000 in
theorem k_X11_readsNumber {l : Launch} {dC : Nat → ClassId} {dI : Nat → Nat → Nat} {A : Nat → Prop} {ad : Nat → Nat} {cI cC cW : ClassId} (hO : zO A 16 ad (cfM ad cI)) (N : Nat) (v1 : Int32) (v2 : Int32) (σ : zS) : zM l dC dI A 16 ad (cfM ad cI) (z_ty cI cC cW) true yX11_readsNumber cX11_readsNumber 5 (some .boolean) 1 [.ref (ad 0), .int v1, .int v2] σ (f_X11_readsNumber N v1 v2 σ) := by
  refine zM_of hO (by decide) (Nat.le_of_ble_eq_true rfl) (fun G hG C => ?_)
  subst hG
  unfold f_X11_readsNumber
  refine zx_sub (L1 := [(0, .ref (ad 0)), (1, .int v1), (2, .int v2)]) [0, 1, 2] rfl ?_
  refine zx_aload_n C 0 dX11_readsNumber_0 rfl rfl ?_
  refine zx_callV (As := []) (st := []) C yk_X11_next q_759 q_761 q_12 (by decide) rfl rfl (k_X11_next C.hO N σ) (by decide) rfl rfl (Nat.le_of_ble_eq_true rfl) dX11_readsNumber_1 (fun _ r_12 t_13 => ?_) (fun h9 => nomatch h9)
  refine zx_bipush (v := 48) C dX11_readsNumber_4 (by decide) ?_
  refine zx_bipush (v := 57) C dX11_readsNumber_6 (by decide) ?_
  refine zx_callS (av := [.int r_12, .int (48 : Int32), .int (57 : Int32)]) (st := []) C yk_X11_isIn q_767 q_768 (k_X11_isIn C.hO N r_12 (48 : Int32) (57 : Int32) t_13) (by decide) rfl rfl (Nat.le_of_ble_eq_true rfl) dX11_readsNumber_8 (fun _ r_14 t_15 => ?_) (fun h9 => nomatch h9)
  refine zx_if_ne (tgt := 16) C dX11_readsNumber_11 (by decide) (fun h_16 => ?_) (fun h_16 => ?_)
  · refine zx_iconst (v := 0) C dX11_readsNumber_16 (by decide) ?_
    refine zx_istore_n (L1 := [(3, .int (0 : Int32)), (0, .ref (ad 0)), (1, .int v1), (2, .int v2)]) C dX11_readsNumber_17 rfl (by decide) rfl ?_
    refine zx_iconst (v := 0) C dX11_readsNumber_18 (by decide) ?_
    refine zx_istore (L1 := [(4, .int (0 : Int32)), (3, .int (0 : Int32)), (0, .ref (ad 0)), (1, .int v1), (2, .int v2)]) C dX11_readsNumber_19 (by decide) rfl ?_
    exact zx_sub (L1 := [(0, .ref (ad 0)), (1, .int v1), (2, .int v2), (3, .int (0 : Int32)), (4, .int (0 : Int32))]) [2, 3, 4, 1, 0] rfl (l_X11_readsNumber_21 C N N v1 v2 (0 : Int32) (0 : Int32) t_15)
  · refine zx_iconst (v := 0) C dX11_readsNumber_14 (by decide) ?_
    exact zx_zret C (by decide) dX11_readsNumber_15
def bf_X11_statement_137 (N : Nat) (σ : zS) : zA := z_b (f_X11_next N σ) (fun r_1 t_2 => (if r_1 = (59 : Int32) then z_m (z_put t_2 0 19 ((t_2 0 19) + (1 : Int32))) (fun t_4 => some ((1 : Int32), t_4)) else some ((0 : Int32), t_2)))
set_option maxHeartbeats 4000000 in
set_option maxRecDepth 100000 in
theorem b_X11_statement_137 {G : zG} {dC : Nat → ClassId} {dI : Nat → Nat → Nat} {A : Nat → Prop} {ad : Nat → Nat} {cI cC cW : ClassId} (C : zC G dC dI A 16 ad (cfM ad cI) (z_ty cI cC cW) cX11_statement RX11 5 2 (some .boolean)) (N : Nat) (σ : zS) : zW G dC dI A 16 ad (cfM ad cI) 5 true (bf_X11_statement_137 N   σ) σ 137 [(0, .ref (ad 0))] [] := by
  unfold bf_X11_statement_137
  refine zx_aload_n C 0 dX11_statement_137 rfl rfl ?_
  refine zx_callV (As := []) (st := []) C yk_X11_next q_759 q_761 q_12 (by decide) rfl rfl (k_X11_next C.hO N σ) (by decide) rfl rfl (Nat.le_of_ble_eq_true rfl) dX11_statement_138 (fun _ r_1 t_2 => ?_) (fun h9 => nomatch h9)
  refine zx_bipush (v := 59) C dX11_statement_141 (by decide) ?_
  refine zx_icmp_eq (tgt := 148) C dX11_statement_143 (by decide) (fun h_3 => ?_) (fun h_3 => ?_)
  · refine zx_aload_n C 0 dX11_statement_148 rfl rfl ?_
    refine zx_dup C dX11_statement_149 rfl ?_
    refine zx_get C 19 (by decide) rfl rfl (by decide) inX11 q_671 rfl rfl dX11_statement_150 ?_
    refine zx_iconst (v := 1) C dX11_statement_153 (by decide) ?_
    refine zx_iadd C dX11_statement_154 ?_
    refine zx_put (ty := .int) C 19 (by decide) rfl rfl (by decide) inX11 tyX11 tyX11_ok nmX11 q_671 rfl rfl (by decide +kernel) rfl rfl (Nat.le_of_ble_eq_true rfl) (by rfl) dX11_statement_155 (fun t_4 => ?_)
    refine zx_iconst (v := 1) C dX11_statement_158 (by decide) ?_
    exact zx_zret C (by decide) dX11_statement_159
  · refine zx_iconst (v := 0) C dX11_statement_146 (by decide) ?_
    exact zx_zret C (by decide) dX11_statement_147
def bf_X11_statement_124 (N : Nat) (v2 : Int32) (v3 : Int32) (σ : zS) : zA := z_b (f_X11_readsNumber N (v2 + v3) (3 : Int32) σ) (fun r_5 t_6 => (if r_5 = (0 : Int32) then some ((0 : Int32), t_6) else (bf_X11_statement_137 N t_6)))
set_option maxHeartbeats 4000000 in
set_option maxRecDepth 100000 in
theorem b_X11_statement_124 {G : zG} {dC : Nat → ClassId} {dI : Nat → Nat → Nat} {A : Nat → Prop} {ad : Nat → Nat} {cI cC cW : ClassId} (C : zC G dC dI A 16 ad (cfM ad cI) (z_ty cI cC cW) cX11_statement RX11 5 2 (some .boolean)) (N : Nat) (v2 : Int32) (v3 : Int32) (σ : zS) : zW G dC dI A 16 ad (cfM ad cI) 5 true (bf_X11_statement_124 N  v2 v3 σ) σ 124 [(0, .ref (ad 0)), (2, .int v2), (3, .int v3)] [] := by
  unfold bf_X11_statement_124
  refine zx_aload_n C 0 dX11_statement_124 rfl rfl ?_
  refine zx_iload_n C 1 dX11_statement_125 rfl rfl ?_
  refine zx_iload_n C 2 dX11_statement_126 rfl rfl ?_
  refine zx_iadd C dX11_statement_127 ?_
  refine zx_iconst (v := 3) C dX11_statement_128 (by decide) ?_
  refine zx_callV (As := [.int (v2 + v3), .int (3 : Int32)]) (st := []) C yk_X11_readsNumber q_763 q_765 q_13 (by decide) rfl rfl (k_X11_readsNumber C.hO N (v2 + v3) (3 : Int32) σ) (by decide) rfl rfl (Nat.le_of_ble_eq_true rfl) dX11_statement_129 (fun _ r_5 t_6 => ?_) (fun h9 => nomatch h9)
  refine zx_if_ne (tgt := 137) C dX11_statement_132 (by decide) (fun h_7 => ?_) (fun h_7 => ?_)
  · exact zx_sub (L1 := [(0, .ref (ad 0))]) [0] rfl (b_X11_statement_137 C N t_6)
  · refine zx_iconst (v := 0) C dX11_statement_135 (by decide) ?_
    exact zx_zret C (by decide) dX11_statement_136
def bf_X11_statement_86 (N : Nat) (rec86 : Int32 → Int32 → Int32 → Int32 → zS → zA) (v1 : Int32) (v2 : Int32) (v3 : Int32) (v4 : Int32) (σ : zS) : zA := (if v3 ≤ v4 then (if v1 = (99 : Int32) then (bf_X11_statement_124 N v2 v3 σ) else (if v1 = (100 : Int32) then (bf_X11_statement_124 N v2 v3 σ) else (bf_X11_statement_137 N σ))) else z_b (f_X11_readsNumber N (v2 + v4) (1 : Int32) σ) (fun r_11 t_12 => (if r_11 = (0 : Int32) then some ((0 : Int32), t_12) else (rec86 v1 v2 v3 (v4 + (1 : Int32)) t_12))))
set_option maxHeartbeats 4000000 in
set_option maxRecDepth 100000 in
theorem b_X11_statement_86 {G : zG} {dC : Nat → ClassId} {dI : Nat → Nat → Nat} {A : Nat → Prop} {ad : Nat → Nat} {cI cC cW : ClassId} (C : zC G dC dI A 16 ad (cfM ad cI) (z_ty cI cC cW) cX11_statement RX11 5 2 (some .boolean)) (N : Nat) (rec86 : Int32 → Int32 → Int32 → Int32 → zS → zA) (hrec86 : ∀ (v1 : Int32) (v2 : Int32) (v3 : Int32) (v4 : Int32) (σ : zS), zW G dC dI A 16 ad (cfM ad cI) 5 true (rec86 v1 v2 v3 v4 σ) σ 86 [(0, .ref (ad 0)), (1, .int v1), (2, .int v2), (3, .int v3), (4, .int v4)] []) (v1 : Int32) (v2 : Int32) (v3 : Int32) (v4 : Int32) (σ : zS) : zW G dC dI A 16 ad (cfM ad cI) 5 true (bf_X11_statement_86 N rec86 v1 v2 v3 v4 σ) σ 86 [(0, .ref (ad 0)), (1, .int v1), (2, .int v2), (3, .int v3), (4, .int v4)] [] := by
  unfold bf_X11_statement_86
  refine zx_iload C 4 dX11_statement_86 rfl ?_
  refine zx_iload_n C 3 dX11_statement_88 rfl rfl ?_
  refine zx_icmp_ge (tgt := 112) C dX11_statement_89 (by decide) (fun h_8 => ?_) (fun h_8 => ?_)
  · refine zx_iload_n C 1 dX11_statement_112 rfl rfl ?_
    refine zx_bipush (v := 99) C dX11_statement_113 (by decide) ?_
    refine zx_icmp_eq (tgt := 124) C dX11_statement_115 (by decide) (fun h_9 => ?_) (fun h_9 => ?_)
    · exact zx_sub (L1 := [(0, .ref (ad 0)), (2, .int v2), (3, .int v3)]) [0, 2, 3] rfl (b_X11_statement_124 C N v2 v3 σ)
    · refine zx_iload_n C 1 dX11_statement_118 rfl rfl ?_
      refine zx_bipush (v := 100) C dX11_statement_119 (by decide) ?_
      refine zx_icmp_ne (tgt := 137) C dX11_statement_121 (by decide) (fun h_10 => ?_) (fun h_10 => ?_)
      · exact zx_sub (L1 := [(0, .ref (ad 0))]) [0] rfl (b_X11_statement_137 C N σ)
      · exact zx_sub (L1 := [(0, .ref (ad 0)), (2, .int v2), (3, .int v3)]) [0, 2, 3] rfl (b_X11_statement_124 C N v2 v3 σ)
  · refine zx_aload_n C 0 dX11_statement_92 rfl rfl ?_
    refine zx_iload_n C 2 dX11_statement_93 rfl rfl ?_
    refine zx_iload C 4 dX11_statement_94 rfl ?_
    refine zx_iadd C dX11_statement_96 ?_
    refine zx_iconst (v := 1) C dX11_statement_97 (by decide) ?_
    refine zx_callV (As := [.int (v2 + v4), .int (1 : Int32)]) (st := []) C yk_X11_readsNumber q_763 q_765 q_13 (by decide) rfl rfl (k_X11_readsNumber C.hO N (v2 + v4) (1 : Int32) σ) (by decide) rfl rfl (Nat.le_of_ble_eq_true rfl) dX11_statement_98 (fun _ r_11 t_12 => ?_) (fun h9 => nomatch h9)
    refine zx_if_ne (tgt := 106) C dX11_statement_101 (by decide) (fun h_13 => ?_) (fun h_13 => ?_)
    · refine zx_iinc (v := (v4 + (1 : Int32))) (L1 := [(4, .int (v4 + (1 : Int32))), (0, .ref (ad 0)), (1, .int v1), (2, .int v2), (3, .int v3)]) C 4 dX11_statement_106 rfl rfl (by decide) rfl ?_
      refine zx_goto (tgt := 86) C dX11_statement_109 (by decide) ?_
      exact zx_sub (L1 := [(0, .ref (ad 0)), (1, .int v1), (2, .int v2), (3, .int v3), (4, .int (v4 + (1 : Int32)))]) [1, 2, 3, 4, 0] rfl (hrec86 v1 v2 v3 (v4 + (1 : Int32)) t_12)
    · refine zx_iconst (v := 0) C dX11_statement_104 (by decide) ?_
      exact zx_zret C (by decide) dX11_statement_105
def lf_X11_statement_86 (N : Nat) : Nat → Int32 → Int32 → Int32 → Int32 → zS → zA
  | 0, _, _, _, _, _ => none
  | n + 1, v1, v2, v3, v4, σ => bf_X11_statement_86 N (lf_X11_statement_86 N  n) v1 v2 v3 v4 σ
theorem l_X11_statement_86 {G : zG} {dC : Nat → ClassId} {dI : Nat → Nat → Nat} {A : Nat → Prop} {ad : Nat → Nat} {cI cC cW : ClassId} (C : zC G dC dI A 16 ad (cfM ad cI) (z_ty cI cC cW) cX11_statement RX11 5 2 (some .boolean)) (N : Nat) : ∀ (n : Nat) (v1 : Int32) (v2 : Int32) (v3 : Int32) (v4 : Int32) (σ : zS), zW G dC dI A 16 ad (cfM ad cI) 5 true (lf_X11_statement_86 N  n v1 v2 v3 v4 σ) σ 86 [(0, .ref (ad 0)), (1, .int v1), (2, .int v2), (3, .int v3), (4, .int v4)] [] := by
  intro n
  induction n with
  | zero => intro v1 v2 v3 v4 σ; exact zx_none
  | succ n ih => intro v1 v2 v3 v4 σ; exact b_X11_statement_86 C N (lf_X11_statement_86 N  n) ih v1 v2 v3 v4 σ
def bf_X11_statement_82 (N : Nat) (v1 : Int32) (v2 : Int32) (u0 : Int32) (σ : zS) : zA := (lf_X11_statement_86 N N v1 v2 u0 (0 : Int32) σ)
set_option maxHeartbeats 4000000 in
set_option maxRecDepth 100000 in
theorem b_X11_statement_82 {G : zG} {dC : Nat → ClassId} {dI : Nat → Nat → Nat} {A : Nat → Prop} {ad : Nat → Nat} {cI cC cW : ClassId} (C : zC G dC dI A 16 ad (cfM ad cI) (z_ty cI cC cW) cX11_statement RX11 5 2 (some .boolean)) (N : Nat) (v1 : Int32) (v2 : Int32) (u0 : Int32) (σ : zS) : zW G dC dI A 16 ad (cfM ad cI) 5 true (bf_X11_statement_82 N  v1 v2 u0 σ) σ 82 [(0, .ref (ad 0)), (1, .int v1), (2, .int v2)] [.int u0] := by
  unfold bf_X11_statement_82
  refine zx_istore_n (L1 := [(3, .int u0), (0, .ref (ad 0)), (1, .int v1), (2, .int v2)]) C dX11_statement_82 rfl (by decide) rfl ?_
  refine zx_iconst (v := 0) C dX11_statement_83 (by decide) ?_
  refine zx_istore (L1 := [(4, .int (0 : Int32)), (3, .int u0), (0, .ref (ad 0)), (1, .int v1), (2, .int v2)]) C dX11_statement_84 (by decide) rfl ?_
  exact zx_sub (L1 := [(0, .ref (ad 0)), (1, .int v1), (2, .int v2), (3, .int u0), (4, .int (0 : Int32))]) [2, 3, 4, 1, 0] rfl (l_X11_statement_86 C N N v1 v2 u0 (0 : Int32) σ)
def bf_X11_statement_31 (N : Nat) (v1 : Int32) (σ : zS) : zA := z_g (z_in (σ 0 20) 40) (z_m (z_put σ 11 (σ 0 20).toNatClampNeg v1) (fun t_14 => z_g (z_in (t_14 0 20) 40) (z_m (z_put t_14 12 (t_14 0 20).toNatClampNeg (t_14 0 19)) (fun t_15 => z_m (z_put t_15 0 19 ((t_15 0 19) + (1 : Int32))) (fun t_16 => z_n ((4 : Int32) * (t_16 0 20)) (fun z_17 => (if v1 = (99 : Int32) then (bf_X11_statement_82 N v1 z_17 (3 : Int32) t_16) else (bf_X11_statement_82 N v1 z_17 (2 : Int32) t_16))))))))
set_option maxHeartbeats 4000000 in
set_option maxRecDepth 100000 in
theorem b_X11_statement_31 {G : zG} {dC : Nat → ClassId} {dI : Nat → Nat → Nat} {A : Nat → Prop} {ad : Nat → Nat} {cI cC cW : ClassId} (C : zC G dC dI A 16 ad (cfM ad cI) (z_ty cI cC cW) cX11_statement RX11 5 2 (some .boolean)) (N : Nat) (v1 : Int32) (σ : zS) : zW G dC dI A 16 ad (cfM ad cI) 5 true (bf_X11_statement_31 N  v1 σ) σ 31 [(0, .ref (ad 0)), (1, .int v1)] [] := by
  unfold bf_X11_statement_31
  refine zx_aload_n C 0 dX11_statement_31 rfl rfl ?_
  refine zx_get C 15 (by decide) rfl rfl (by decide) inX11 q_667 rfl rfl dX11_statement_32 ?_
  refine zx_aload_n C 0 dX11_statement_35 rfl rfl ?_
  refine zx_get C 20 (by decide) rfl rfl (by decide) inX11 q_672 rfl rfl dX11_statement_36 ?_
  refine zx_iload_n C 1 dX11_statement_39 rfl rfl ?_
  refine zx_iast C 0 (by decide) (fun _ => rfl) rfl dX11_statement_40 (fun t_14 => ?_)
  refine zx_aload_n C 0 dX11_statement_41 rfl rfl ?_
  refine zx_get C 16 (by decide) rfl rfl (by decide) inX11 q_668 rfl rfl dX11_statement_42 ?_
  refine zx_aload_n C 0 dX11_statement_45 rfl rfl ?_
  refine zx_get C 20 (by decide) rfl rfl (by decide) inX11 q_672 rfl rfl dX11_statement_46 ?_
  refine zx_aload_n C 0 dX11_statement_49 rfl rfl ?_
  refine zx_get C 19 (by decide) rfl rfl (by decide) inX11 q_671 rfl rfl dX11_statement_50 ?_
  refine zx_iast C 0 (by decide) (fun _ => rfl) rfl dX11_statement_53 (fun t_15 => ?_)
  refine zx_aload_n C 0 dX11_statement_54 rfl rfl ?_
  refine zx_dup C dX11_statement_55 rfl ?_
  refine zx_get C 19 (by decide) rfl rfl (by decide) inX11 q_671 rfl rfl dX11_statement_56 ?_
  refine zx_iconst (v := 1) C dX11_statement_59 (by decide) ?_
  refine zx_iadd C dX11_statement_60 ?_
  refine zx_put (ty := .int) C 19 (by decide) rfl rfl (by decide) inX11 tyX11 tyX11_ok nmX11 q_671 rfl rfl (by decide +kernel) rfl rfl (Nat.le_of_ble_eq_true rfl) (by rfl) dX11_statement_61 (fun t_16 => ?_)
  refine zx_iconst (v := 4) C dX11_statement_64 (by decide) ?_
  refine zx_aload_n C 0 dX11_statement_65 rfl rfl ?_
  refine zx_get C 20 (by decide) rfl rfl (by decide) inX11 q_672 rfl rfl dX11_statement_66 ?_
  refine zx_imul C dX11_statement_69 ?_
  refine zx_n (fun z_17 => ?_)
  refine zx_istore_n (L1 := [(2, .int z_17), (0, .ref (ad 0)), (1, .int v1)]) C dX11_statement_70 rfl (by decide) rfl ?_
  refine zx_iload_n C 2 dX11_statement_71 rfl rfl ?_
  refine zx_bipush (v := 99) C dX11_statement_72 (by decide) ?_
  refine zx_icmp_ne (tgt := 81) C dX11_statement_74 (by decide) (fun h_18 => ?_) (fun h_18 => ?_)
  · refine zx_iconst (v := 2) C dX11_statement_81 (by decide) ?_
    exact zx_sub (L1 := [(0, .ref (ad 0)), (1, .int v1), (2, .int z_17)]) [1, 2, 0] rfl (b_X11_statement_82 C N v1 z_17 (2 : Int32) t_16)
  · refine zx_iconst (v := 3) C dX11_statement_77 (by decide) ?_
    refine zx_goto (tgt := 82) C dX11_statement_78 (by decide) ?_
    exact zx_sub (L1 := [(0, .ref (ad 0)), (1, .int v1), (2, .int z_17)]) [1, 2, 0] rfl (b_X11_statement_82 C N v1 z_17 (3 : Int32) t_16)
def f_X11_statement (N : Nat) (σ : zS) : zA := z_b (f_X11_next N σ) (fun r_19 t_20 => (if r_19 = (99 : Int32) then (bf_X11_statement_31 N r_19 t_20) else (if r_19 = (100 : Int32) then (bf_X11_statement_31 N r_19 t_20) else (if r_19 = (114 : Int32) then (bf_X11_statement_31 N r_19 t_20) else (if r_19 = (112 : Int32) then (bf_X11_statement_31 N r_19 t_20) else some ((0 : Int32), t_20))))))
set_option maxHeartbeats 4000000 in
set_option maxRecDepth 100000 in
theorem k_X11_statement {l : Launch} {dC : Nat → ClassId} {dI : Nat → Nat → Nat} {A : Nat → Prop} {ad : Nat → Nat} {cI cC cW : ClassId} (hO : zO A 16 ad (cfM ad cI)) (N : Nat) (σ : zS) : zM l dC dI A 16 ad (cfM ad cI) (z_ty cI cC cW) true yX11_statement cX11_statement 5 (some .boolean) 2 [.ref (ad 0)] σ (f_X11_statement N  σ) := by
  refine zM_of hO (by decide) (Nat.le_of_ble_eq_true rfl) (fun G hG C => ?_)
  subst hG
  unfold f_X11_statement
  refine zx_sub (L1 := [(0, .ref (ad 0))]) [0] rfl ?_
  refine zx_aload_n C 0 dX11_statement_0 rfl rfl ?_
  refine zx_callV (As := []) (st := []) C yk_X11_next q_759 q_761 q_12 (by decide) rfl rfl (k_X11_next C.hO N σ) (by decide) rfl rfl (Nat.le_of_ble_eq_true rfl) dX11_statement_1 (fun _ r_19 t_20 => ?_) (fun h9 => nomatch h9)
  refine zx_istore_n (L1 := [(1, .int r_19), (0, .ref (ad 0))]) C dX11_statement_4 rfl (by decide) rfl ?_
  refine zx_iload_n C 0 dX11_statement_5 rfl rfl ?_
  refine zx_bipush (v := 99) C dX11_statement_6 (by decide) ?_
  refine zx_icmp_eq (tgt := 31) C dX11_statement_8 (by decide) (fun h_21 => ?_) (fun h_21 => ?_)
  · exact zx_sub (L1 := [(0, .ref (ad 0)), (1, .int r_19)]) [1, 0] rfl (b_X11_statement_31 C N r_19 t_20)
  · refine zx_iload_n C 0 dX11_statement_11 rfl rfl ?_
    refine zx_bipush (v := 100) C dX11_statement_12 (by decide) ?_
    refine zx_icmp_eq (tgt := 31) C dX11_statement_14 (by decide) (fun h_22 => ?_) (fun h_22 => ?_)
    · exact zx_sub (L1 := [(0, .ref (ad 0)), (1, .int r_19)]) [1, 0] rfl (b_X11_statement_31 C N r_19 t_20)
    · refine zx_iload_n C 0 dX11_statement_17 rfl rfl ?_
      refine zx_bipush (v := 114) C dX11_statement_18 (by decide) ?_
      refine zx_icmp_eq (tgt := 31) C dX11_statement_20 (by decide) (fun h_23 => ?_) (fun h_23 => ?_)
      · exact zx_sub (L1 := [(0, .ref (ad 0)), (1, .int r_19)]) [1, 0] rfl (b_X11_statement_31 C N r_19 t_20)
      · refine zx_iload_n C 0 dX11_statement_23 rfl rfl ?_
        refine zx_bipush (v := 112) C dX11_statement_24 (by decide) ?_
        refine zx_icmp_eq (tgt := 31) C dX11_statement_26 (by decide) (fun h_24 => ?_) (fun h_24 => ?_)
        · exact zx_sub (L1 := [(0, .ref (ad 0)), (1, .int r_19)]) [1, 0] rfl (b_X11_statement_31 C N r_19 t_20)
        · refine zx_iconst (v := 0) C dX11_statement_29 (by decide) ?_
          exact zx_zret C (by decide) dX11_statement_30
def f_X11_comesCandle (N : Nat) (v1 : Int32) (σ : zS) : zA := z_g (z_in v1 160) ((if (5 : Int32) < (σ 13 v1.toNatClampNeg) then some ((0 : Int32), σ) else z_g (z_in (v1 + (2 : Int32)) 160) (z_b (f_X11_isOne N (σ 13 (v1 + (2 : Int32)).toNatClampNeg) σ) (fun r_2 t_3 => (if r_2 = (0 : Int32) then some ((0 : Int32), t_3) else (if (t_3 0 9) = (6 : Int32) then some ((0 : Int32), t_3) else z_g (z_in v1 160) (z_g (z_in (t_3 0 9) 6) (z_m (z_put t_3 1 (t_3 0 9).toNatClampNeg (t_3 13 v1.toNatClampNeg)) (fun t_6 => z_g (z_in (v1 + (1 : Int32)) 160) (z_g (z_in (t_6 0 9) 6) (z_m (z_put t_6 2 (t_6 0 9).toNatClampNeg (t_6 13 (v1 + (1 : Int32)).toNatClampNeg)) (fun t_7 => z_g (z_in (v1 + (2 : Int32)) 160) (z_g (z_in (t_7 0 9) 6) (z_m (z_put t_7 4 (t_7 0 9).toNatClampNeg (t_7 13 (v1 + (2 : Int32)).toNatClampNeg)) (fun t_8 => z_g (z_in (v1 + (2 : Int32)) 160) (z_g (z_in (t_8 0 9) 6) (z_m (z_put t_8 5 (t_8 0 9).toNatClampNeg (t_8 13 (v1 + (2 : Int32)).toNatClampNeg)) (fun t_9 => z_g (z_in (v1 + (3 : Int32)) 160) (z_g (z_in (t_9 0 9) 6) (z_m (z_put t_9 3 (t_9 0 9).toNatClampNeg (t_9 13 (v1 + (3 : Int32)).toNatClampNeg)) (fun t_10 => z_g (z_in (t_10 0 9) 6) (z_m (z_put t_10 6 (t_10 0 9).toNatClampNeg (0 : Int32)) (fun t_11 => z_m (z_put t_11 0 9 ((t_11 0 9) + (1 : Int32))) (fun t_12 => some ((1 : Int32), t_12)))))))))))))))))))))))))
set_option maxHeartbeats 4000000 in
set_option maxRecDepth 100000 in
theorem k_X11_comesCandle {l : Launch} {dC : Nat → ClassId} {dI : Nat → Nat → Nat} {A : Nat → Prop} {ad : Nat → Nat} {cI cC cW : ClassId} (hO : zO A 16 ad (cfM ad cI)) (N : Nat) (v1 : Int32) (σ : zS) : zM l dC dI A 16 ad (cfM ad cI) (z_ty cI cC cW) true yX11_comesCandle cX11_comesCandle 2 (some .boolean) 1 [.ref (ad 0), .int v1] σ (f_X11_comesCandle N v1 σ) := by
  refine zM_of hO (by decide) (Nat.le_of_ble_eq_true rfl) (fun G hG C => ?_)
  subst hG
  unfold f_X11_comesCandle
  refine zx_sub (L1 := [(0, .ref (ad 0)), (1, .int v1)]) [0, 1] rfl ?_
  refine zx_aload_n C 0 dX11_comesCandle_0 rfl rfl ?_
  refine zx_get C 17 (by decide) rfl rfl (by decide) inX11 q_669 rfl rfl dX11_comesCandle_1 ?_
  refine zx_iload_n C 1 dX11_comesCandle_4 rfl rfl ?_
  refine zx_iald C 0 (by decide) rfl rfl dX11_comesCandle_5 ?_
  refine zx_iconst (v := 5) C dX11_comesCandle_6 (by decide) ?_
  refine zx_icmp_gt (tgt := 33) C dX11_comesCandle_7 (by decide) (fun h_1 => ?_) (fun h_1 => ?_)
  · refine zx_iconst (v := 0) C dX11_comesCandle_33 (by decide) ?_
    exact zx_zret C (by decide) dX11_comesCandle_34
  · refine zx_aload_n C 0 dX11_comesCandle_10 rfl rfl ?_
    refine zx_get C 17 (by decide) rfl rfl (by decide) inX11 q_669 rfl rfl dX11_comesCandle_11 ?_
    refine zx_iload_n C 1 dX11_comesCandle_14 rfl rfl ?_
    refine zx_iconst (v := 2) C dX11_comesCandle_15 (by decide) ?_
    refine zx_iadd C dX11_comesCandle_16 ?_
    refine zx_iald C 0 (by decide) rfl rfl dX11_comesCandle_17 ?_
    refine zx_callS (av := [.int (σ 13 (v1 + (2 : Int32)).toNatClampNeg)]) (st := []) C yk_X11_isOne q_790 q_791 (k_X11_isOne C.hO N (σ 13 (v1 + (2 : Int32)).toNatClampNeg) σ) (by decide) rfl rfl (Nat.le_of_ble_eq_true rfl) dX11_comesCandle_18 (fun _ r_2 t_3 => ?_) (fun h9 => nomatch h9)
    refine zx_if_eq (tgt := 33) C dX11_comesCandle_21 (by decide) (fun h_4 => ?_) (fun h_4 => ?_)
    · refine zx_iconst (v := 0) C dX11_comesCandle_33 (by decide) ?_
      exact zx_zret C (by decide) dX11_comesCandle_34
    · refine zx_aload_n C 0 dX11_comesCandle_24 rfl rfl ?_
      refine zx_get C 9 (by decide) rfl rfl (by decide) inX11 q_661 rfl rfl dX11_comesCandle_25 ?_
      refine zx_bipush (v := 6) C dX11_comesCandle_28 (by decide) ?_
      refine zx_icmp_ne (tgt := 35) C dX11_comesCandle_30 (by decide) (fun h_5 => ?_) (fun h_5 => ?_)
      · refine zx_aload_n C 0 dX11_comesCandle_35 rfl rfl ?_
        refine zx_get C 1 (by decide) rfl rfl (by decide) inX11 q_653 rfl rfl dX11_comesCandle_36 ?_
        refine zx_aload_n C 0 dX11_comesCandle_39 rfl rfl ?_
        refine zx_get C 9 (by decide) rfl rfl (by decide) inX11 q_661 rfl rfl dX11_comesCandle_40 ?_
        refine zx_aload_n C 0 dX11_comesCandle_43 rfl rfl ?_
        refine zx_get C 17 (by decide) rfl rfl (by decide) inX11 q_669 rfl rfl dX11_comesCandle_44 ?_
        refine zx_iload_n C 1 dX11_comesCandle_47 rfl rfl ?_
        refine zx_iald C 0 (by decide) rfl rfl dX11_comesCandle_48 ?_
        refine zx_iast C 0 (by decide) (fun _ => rfl) rfl dX11_comesCandle_49 (fun t_6 => ?_)
        refine zx_aload_n C 0 dX11_comesCandle_50 rfl rfl ?_
        refine zx_get C 2 (by decide) rfl rfl (by decide) inX11 q_654 rfl rfl dX11_comesCandle_51 ?_
        refine zx_aload_n C 0 dX11_comesCandle_54 rfl rfl ?_
        refine zx_get C 9 (by decide) rfl rfl (by decide) inX11 q_661 rfl rfl dX11_comesCandle_55 ?_
        refine zx_aload_n C 0 dX11_comesCandle_58 rfl rfl ?_
        refine zx_get C 17 (by decide) rfl rfl (by decide) inX11 q_669 rfl rfl dX11_comesCandle_59 ?_
        refine zx_iload_n C 1 dX11_comesCandle_62 rfl rfl ?_
        refine zx_iconst (v := 1) C dX11_comesCandle_63 (by decide) ?_
        refine zx_iadd C dX11_comesCandle_64 ?_
        refine zx_iald C 0 (by decide) rfl rfl dX11_comesCandle_65 ?_
        refine zx_iast C 0 (by decide) (fun _ => rfl) rfl dX11_comesCandle_66 (fun t_7 => ?_)
        refine zx_aload_n C 0 dX11_comesCandle_67 rfl rfl ?_
        refine zx_get C 4 (by decide) rfl rfl (by decide) inX11 q_656 rfl rfl dX11_comesCandle_68 ?_
        refine zx_aload_n C 0 dX11_comesCandle_71 rfl rfl ?_
        refine zx_get C 9 (by decide) rfl rfl (by decide) inX11 q_661 rfl rfl dX11_comesCandle_72 ?_
        refine zx_aload_n C 0 dX11_comesCandle_75 rfl rfl ?_
        refine zx_get C 17 (by decide) rfl rfl (by decide) inX11 q_669 rfl rfl dX11_comesCandle_76 ?_
        refine zx_iload_n C 1 dX11_comesCandle_79 rfl rfl ?_
        refine zx_iconst (v := 2) C dX11_comesCandle_80 (by decide) ?_
        refine zx_iadd C dX11_comesCandle_81 ?_
        refine zx_iald C 0 (by decide) rfl rfl dX11_comesCandle_82 ?_
        refine zx_iast C 0 (by decide) (fun _ => rfl) rfl dX11_comesCandle_83 (fun t_8 => ?_)
        refine zx_aload_n C 0 dX11_comesCandle_84 rfl rfl ?_
        refine zx_get C 5 (by decide) rfl rfl (by decide) inX11 q_657 rfl rfl dX11_comesCandle_85 ?_
        refine zx_aload_n C 0 dX11_comesCandle_88 rfl rfl ?_
        refine zx_get C 9 (by decide) rfl rfl (by decide) inX11 q_661 rfl rfl dX11_comesCandle_89 ?_
        refine zx_aload_n C 0 dX11_comesCandle_92 rfl rfl ?_
        refine zx_get C 17 (by decide) rfl rfl (by decide) inX11 q_669 rfl rfl dX11_comesCandle_93 ?_
        refine zx_iload_n C 1 dX11_comesCandle_96 rfl rfl ?_
        refine zx_iconst (v := 2) C dX11_comesCandle_97 (by decide) ?_
        refine zx_iadd C dX11_comesCandle_98 ?_
        refine zx_iald C 0 (by decide) rfl rfl dX11_comesCandle_99 ?_
        refine zx_iast C 0 (by decide) (fun _ => rfl) rfl dX11_comesCandle_100 (fun t_9 => ?_)
        refine zx_aload_n C 0 dX11_comesCandle_101 rfl rfl ?_
        refine zx_get C 3 (by decide) rfl rfl (by decide) inX11 q_655 rfl rfl dX11_comesCandle_102 ?_
        refine zx_aload_n C 0 dX11_comesCandle_105 rfl rfl ?_
        refine zx_get C 9 (by decide) rfl rfl (by decide) inX11 q_661 rfl rfl dX11_comesCandle_106 ?_
        refine zx_aload_n C 0 dX11_comesCandle_109 rfl rfl ?_
        refine zx_get C 17 (by decide) rfl rfl (by decide) inX11 q_669 rfl rfl dX11_comesCandle_110 ?_
        refine zx_iload_n C 1 dX11_comesCandle_113 rfl rfl ?_
        refine zx_iconst (v := 3) C dX11_comesCandle_114 (by decide) ?_
        refine zx_iadd C dX11_comesCandle_115 ?_
        refine zx_iald C 0 (by decide) rfl rfl dX11_comesCandle_116 ?_
        refine zx_iast C 0 (by decide) (fun _ => rfl) rfl dX11_comesCandle_117 (fun t_10 => ?_)
        refine zx_aload_n C 0 dX11_comesCandle_118 rfl rfl ?_
        refine zx_get C 6 (by decide) rfl rfl (by decide) inX11 q_658 rfl rfl dX11_comesCandle_119 ?_
        refine zx_aload_n C 0 dX11_comesCandle_122 rfl rfl ?_
        refine zx_get C 9 (by decide) rfl rfl (by decide) inX11 q_661 rfl rfl dX11_comesCandle_123 ?_
        refine zx_iconst (v := 0) C dX11_comesCandle_126 (by decide) ?_
        refine zx_iast C 0 (by decide) (fun _ => rfl) rfl dX11_comesCandle_127 (fun t_11 => ?_)
        refine zx_aload_n C 0 dX11_comesCandle_128 rfl rfl ?_
        refine zx_dup C dX11_comesCandle_129 rfl ?_
        refine zx_get C 9 (by decide) rfl rfl (by decide) inX11 q_661 rfl rfl dX11_comesCandle_130 ?_
        refine zx_iconst (v := 1) C dX11_comesCandle_133 (by decide) ?_
        refine zx_iadd C dX11_comesCandle_134 ?_
        refine zx_put (ty := .int) C 9 (by decide) rfl rfl (by decide) inX11 tyX11 tyX11_ok nmX11 q_661 rfl rfl (by decide +kernel) rfl rfl (Nat.le_of_ble_eq_true rfl) (by rfl) dX11_comesCandle_135 (fun t_12 => ?_)
        refine zx_iconst (v := 1) C dX11_comesCandle_138 (by decide) ?_
        exact zx_zret C (by decide) dX11_comesCandle_139
      · refine zx_iconst (v := 0) C dX11_comesCandle_33 (by decide) ?_
        exact zx_zret C (by decide) dX11_comesCandle_34
def f_X11_comes (N : Nat) (v1 : Int32) (σ : zS) : zA := z_n ((4 : Int32) * v1) (fun z_1 => z_g (z_in v1 40) ((if (σ 11 v1.toNatClampNeg) = (99 : Int32) then z_b (f_X11_comesCandle N z_1 σ) (fun r_3 t_4 => z_g (z_bo r_3) (some (r_3, t_4))) else (if (σ 11 v1.toNatClampNeg) = (100 : Int32) then z_g (z_in z_1 160) (z_g (z_in (z_1 + (1 : Int32)) 160) (z_b (f_X11_areTwo N (σ 13 z_1.toNatClampNeg) (σ 13 (z_1 + (1 : Int32)).toNatClampNeg) σ) (fun r_6 t_7 => (if r_6 = (0 : Int32) then some ((0 : Int32), t_7) else z_g (z_in z_1 160) (z_g (z_in (z_1 + (1 : Int32)) 160) (z_g (z_in (z_1 + (2 : Int32)) 160) (z_g (z_in (((4 : Int32) * (t_7 13 z_1.toNatClampNeg)) + (t_7 13 (z_1 + (1 : Int32)).toNatClampNeg)) 16) (z_m (z_put t_7 8 (((4 : Int32) * (t_7 13 z_1.toNatClampNeg)) + (t_7 13 (z_1 + (1 : Int32)).toNatClampNeg)).toNatClampNeg (t_7 13 (z_1 + (2 : Int32)).toNatClampNeg)) (fun t_9 => some ((1 : Int32), t_9)))))))))) else (if (σ 11 v1.toNatClampNeg) = (114 : Int32) then z_g (z_in z_1 160) (z_b (f_X11_isOne N (σ 13 z_1.toNatClampNeg) σ) (fun r_11 t_12 => (if r_11 = (0 : Int32) then some ((0 : Int32), t_12) else z_g (z_in z_1 160) (z_g (z_in (z_1 + (1 : Int32)) 160) (z_g (z_in (t_12 13 z_1.toNatClampNeg) 4) (z_m (z_put t_12 7 (t_12 13 z_1.toNatClampNeg).toNatClampNeg (t_12 13 (z_1 + (1 : Int32)).toNatClampNeg)) (fun t_14 => some ((1 : Int32), t_14)))))))) else z_g (z_in z_1 160) (z_b (f_X11_isCandle N (σ 13 z_1.toNatClampNeg) σ) (fun r_15 t_16 => (if r_15 = (0 : Int32) then some ((0 : Int32), t_16) else z_g (z_in (z_1 + (1 : Int32)) 160) (z_b (f_X11_isOne N (t_16 13 (z_1 + (1 : Int32)).toNatClampNeg) t_16) (fun r_18 t_19 => (if r_18 = (0 : Int32) then some ((0 : Int32), t_19) else z_g (z_in z_1 160) (z_g (z_in (z_1 + (1 : Int32)) 160) (z_g (z_in (t_19 13 z_1.toNatClampNeg) 6) (z_m (z_put t_19 5 (t_19 13 z_1.toNatClampNeg).toNatClampNeg (t_19 13 (z_1 + (1 : Int32)).toNatClampNeg)) (fun t_21 => z_g (z_in z_1 160) (z_g (z_in (t_21 13 z_1.toNatClampNeg) 6) ((if (t_21 3 (t_21 13 z_1.toNatClampNeg).toNatClampNeg) ≤ (0 : Int32) then some ((1 : Int32), t_21) else z_g (z_in z_1 160) (z_g (z_in (t_21 13 z_1.toNatClampNeg) 6) (z_m (z_put t_21 6 (t_21 13 z_1.toNatClampNeg).toNatClampNeg (1 : Int32)) (fun t_23 => some ((1 : Int32), t_23))))))))))))))))))))))
set_option maxHeartbeats 4000000 in
set_option maxRecDepth 100000 in
theorem k_X11_comes {l : Launch} {dC : Nat → ClassId} {dI : Nat → Nat → Nat} {A : Nat → Prop} {ad : Nat → Nat} {cI cC cW : ClassId} (hO : zO A 16 ad (cfM ad cI)) (N : Nat) (v1 : Int32) (σ : zS) : zM l dC dI A 16 ad (cfM ad cI) (z_ty cI cC cW) true yX11_comes cX11_comes 3 (some .boolean) 2 [.ref (ad 0), .int v1] σ (f_X11_comes N v1 σ) := by
  refine zM_of hO (by decide) (Nat.le_of_ble_eq_true rfl) (fun G hG C => ?_)
  subst hG
  unfold f_X11_comes
  refine zx_sub (L1 := [(0, .ref (ad 0)), (1, .int v1)]) [0, 1] rfl ?_
  refine zx_iconst (v := 4) C dX11_comes_0 (by decide) ?_
  refine zx_iload_n C 1 dX11_comes_1 rfl rfl ?_
  refine zx_imul C dX11_comes_2 ?_
  refine zx_n (fun z_1 => ?_)
  refine zx_istore_n (L1 := [(2, .int z_1), (0, .ref (ad 0)), (1, .int v1)]) C dX11_comes_3 rfl (by decide) rfl ?_
  refine zx_aload_n C 1 dX11_comes_4 rfl rfl ?_
  refine zx_get C 15 (by decide) rfl rfl (by decide) inX11 q_667 rfl rfl dX11_comes_5 ?_
  refine zx_iload_n C 2 dX11_comes_8 rfl rfl ?_
  refine zx_iald C 0 (by decide) rfl rfl dX11_comes_9 ?_
  refine zx_ite (fun h_2 => ?_) (fun h_2 => ?_)
  · refine zx_lookup (tgt := 44) C dX11_comes_10 (by decide) (by rw [h_2] <;> rfl) (by decide) ?_
    refine zx_aload_n C 1 dX11_comes_44 rfl rfl ?_
    refine zx_iload_n C 0 dX11_comes_45 rfl rfl ?_
    refine zx_callV (As := [.int z_1]) (st := []) C yk_X11_comesCandle q_786 q_788 q_18 (by decide) rfl rfl (k_X11_comesCandle C.hO N z_1 σ) (by decide) rfl rfl (Nat.le_of_ble_eq_true rfl) dX11_comes_46 (fun _ r_3 t_4 => ?_) (fun h9 => nomatch h9)
    exact zx_zretg C dX11_comes_49
  · refine zx_ite (fun h_5 => ?_) (fun h_5 => ?_)
    · refine zx_lookup (tgt := 50) C dX11_comes_10 (by decide) (by rw [h_5] <;> rfl) (by decide) ?_
      refine zx_aload_n C 1 dX11_comes_50 rfl rfl ?_
      refine zx_get C 17 (by decide) rfl rfl (by decide) inX11 q_669 rfl rfl dX11_comes_51 ?_
      refine zx_iload_n C 0 dX11_comes_54 rfl rfl ?_
      refine zx_iald C 0 (by decide) rfl rfl dX11_comes_55 ?_
      refine zx_aload_n C 1 dX11_comes_56 rfl rfl ?_
      refine zx_get C 17 (by decide) rfl rfl (by decide) inX11 q_669 rfl rfl dX11_comes_57 ?_
      refine zx_iload_n C 0 dX11_comes_60 rfl rfl ?_
      refine zx_iconst (v := 1) C dX11_comes_61 (by decide) ?_
      refine zx_iadd C dX11_comes_62 ?_
      refine zx_iald C 0 (by decide) rfl rfl dX11_comes_63 ?_
      refine zx_callS (av := [.int (σ 13 z_1.toNatClampNeg), .int (σ 13 (z_1 + (1 : Int32)).toNatClampNeg)]) (st := []) C yk_X11_areTwo q_793 q_794 (k_X11_areTwo C.hO N (σ 13 z_1.toNatClampNeg) (σ 13 (z_1 + (1 : Int32)).toNatClampNeg) σ) (by decide) rfl rfl (Nat.le_of_ble_eq_true rfl) dX11_comes_64 (fun _ r_6 t_7 => ?_) (fun h9 => nomatch h9)
      refine zx_if_ne (tgt := 72) C dX11_comes_67 (by decide) (fun h_8 => ?_) (fun h_8 => ?_)
      · refine zx_aload_n C 1 dX11_comes_72 rfl rfl ?_
        refine zx_get C 8 (by decide) rfl rfl (by decide) inX11 q_660 rfl rfl dX11_comes_73 ?_
        refine zx_iconst (v := 4) C dX11_comes_76 (by decide) ?_
        refine zx_aload_n C 1 dX11_comes_77 rfl rfl ?_
        refine zx_get C 17 (by decide) rfl rfl (by decide) inX11 q_669 rfl rfl dX11_comes_78 ?_
        refine zx_iload_n C 0 dX11_comes_81 rfl rfl ?_
        refine zx_iald C 0 (by decide) rfl rfl dX11_comes_82 ?_
        refine zx_imul C dX11_comes_83 ?_
        refine zx_aload_n C 1 dX11_comes_84 rfl rfl ?_
        refine zx_get C 17 (by decide) rfl rfl (by decide) inX11 q_669 rfl rfl dX11_comes_85 ?_
        refine zx_iload_n C 0 dX11_comes_88 rfl rfl ?_
        refine zx_iconst (v := 1) C dX11_comes_89 (by decide) ?_
        refine zx_iadd C dX11_comes_90 ?_
        refine zx_iald C 0 (by decide) rfl rfl dX11_comes_91 ?_
        refine zx_iadd C dX11_comes_92 ?_
        refine zx_aload_n C 1 dX11_comes_93 rfl rfl ?_
        refine zx_get C 17 (by decide) rfl rfl (by decide) inX11 q_669 rfl rfl dX11_comes_94 ?_
        refine zx_iload_n C 0 dX11_comes_97 rfl rfl ?_
        refine zx_iconst (v := 2) C dX11_comes_98 (by decide) ?_
        refine zx_iadd C dX11_comes_99 ?_
        refine zx_iald C 0 (by decide) rfl rfl dX11_comes_100 ?_
        refine zx_iast C 0 (by decide) (fun _ => rfl) rfl dX11_comes_101 (fun t_9 => ?_)
        refine zx_iconst (v := 1) C dX11_comes_102 (by decide) ?_
        exact zx_zret C (by decide) dX11_comes_103
      · refine zx_iconst (v := 0) C dX11_comes_70 (by decide) ?_
        exact zx_zret C (by decide) dX11_comes_71
    · refine zx_ite (fun h_10 => ?_) (fun h_10 => ?_)
      · refine zx_lookup (tgt := 104) C dX11_comes_10 (by decide) (by rw [h_10] <;> rfl) (by decide) ?_
        refine zx_aload_n C 1 dX11_comes_104 rfl rfl ?_
        refine zx_get C 17 (by decide) rfl rfl (by decide) inX11 q_669 rfl rfl dX11_comes_105 ?_
        refine zx_iload_n C 0 dX11_comes_108 rfl rfl ?_
        refine zx_iald C 0 (by decide) rfl rfl dX11_comes_109 ?_
        refine zx_callS (av := [.int (σ 13 z_1.toNatClampNeg)]) (st := []) C yk_X11_isOne q_790 q_791 (k_X11_isOne C.hO N (σ 13 z_1.toNatClampNeg) σ) (by decide) rfl rfl (Nat.le_of_ble_eq_true rfl) dX11_comes_110 (fun _ r_11 t_12 => ?_) (fun h9 => nomatch h9)
        refine zx_if_ne (tgt := 118) C dX11_comes_113 (by decide) (fun h_13 => ?_) (fun h_13 => ?_)
        · refine zx_aload_n C 1 dX11_comes_118 rfl rfl ?_
          refine zx_get C 7 (by decide) rfl rfl (by decide) inX11 q_659 rfl rfl dX11_comes_119 ?_
          refine zx_aload_n C 1 dX11_comes_122 rfl rfl ?_
          refine zx_get C 17 (by decide) rfl rfl (by decide) inX11 q_669 rfl rfl dX11_comes_123 ?_
          refine zx_iload_n C 0 dX11_comes_126 rfl rfl ?_
          refine zx_iald C 0 (by decide) rfl rfl dX11_comes_127 ?_
          refine zx_aload_n C 1 dX11_comes_128 rfl rfl ?_
          refine zx_get C 17 (by decide) rfl rfl (by decide) inX11 q_669 rfl rfl dX11_comes_129 ?_
          refine zx_iload_n C 0 dX11_comes_132 rfl rfl ?_
          refine zx_iconst (v := 1) C dX11_comes_133 (by decide) ?_
          refine zx_iadd C dX11_comes_134 ?_
          refine zx_iald C 0 (by decide) rfl rfl dX11_comes_135 ?_
          refine zx_iast C 0 (by decide) (fun _ => rfl) rfl dX11_comes_136 (fun t_14 => ?_)
          refine zx_iconst (v := 1) C dX11_comes_137 (by decide) ?_
          exact zx_zret C (by decide) dX11_comes_138
        · refine zx_iconst (v := 0) C dX11_comes_116 (by decide) ?_
          exact zx_zret C (by decide) dX11_comes_117
      · refine zx_lookup (tgt := 139) C dX11_comes_10 (by decide) (lk_out (fun c hc hx => by simp at hc; rcases hc with rfl | rfl | rfl <;> first | exact h_2 hx | exact h_5 hx | exact h_10 hx)) (by decide) ?_
        refine zx_aload_n C 1 dX11_comes_139 rfl rfl ?_
        refine zx_aload_n C 1 dX11_comes_140 rfl rfl ?_
        refine zx_get C 17 (by decide) rfl rfl (by decide) inX11 q_669 rfl rfl dX11_comes_141 ?_
        refine zx_iload_n C 0 dX11_comes_144 rfl rfl ?_
        refine zx_iald C 0 (by decide) rfl rfl dX11_comes_145 ?_
        refine zx_callV (As := [.int (σ 13 z_1.toNatClampNeg)]) (st := []) C yk_X11_isCandle q_796 q_798 q_19 (by decide) rfl rfl (k_X11_isCandle C.hO N (σ 13 z_1.toNatClampNeg) σ) (by decide) rfl rfl (Nat.le_of_ble_eq_true rfl) dX11_comes_146 (fun _ r_15 t_16 => ?_) (fun h9 => nomatch h9)
        refine zx_if_eq (tgt := 166) C dX11_comes_149 (by decide) (fun h_17 => ?_) (fun h_17 => ?_)
        · refine zx_iconst (v := 0) C dX11_comes_166 (by decide) ?_
          exact zx_zret C (by decide) dX11_comes_167
        · refine zx_aload_n C 1 dX11_comes_152 rfl rfl ?_
          refine zx_get C 17 (by decide) rfl rfl (by decide) inX11 q_669 rfl rfl dX11_comes_153 ?_
          refine zx_iload_n C 0 dX11_comes_156 rfl rfl ?_
          refine zx_iconst (v := 1) C dX11_comes_157 (by decide) ?_
          refine zx_iadd C dX11_comes_158 ?_
          refine zx_iald C 0 (by decide) rfl rfl dX11_comes_159 ?_
          refine zx_callS (av := [.int (t_16 13 (z_1 + (1 : Int32)).toNatClampNeg)]) (st := []) C yk_X11_isOne q_790 q_791 (k_X11_isOne C.hO N (t_16 13 (z_1 + (1 : Int32)).toNatClampNeg) t_16) (by decide) rfl rfl (Nat.le_of_ble_eq_true rfl) dX11_comes_160 (fun _ r_18 t_19 => ?_) (fun h9 => nomatch h9)
          refine zx_if_ne (tgt := 168) C dX11_comes_163 (by decide) (fun h_20 => ?_) (fun h_20 => ?_)
          · refine zx_aload_n C 1 dX11_comes_168 rfl rfl ?_
            refine zx_get C 5 (by decide) rfl rfl (by decide) inX11 q_657 rfl rfl dX11_comes_169 ?_
            refine zx_aload_n C 1 dX11_comes_172 rfl rfl ?_
            refine zx_get C 17 (by decide) rfl rfl (by decide) inX11 q_669 rfl rfl dX11_comes_173 ?_
            refine zx_iload_n C 0 dX11_comes_176 rfl rfl ?_
            refine zx_iald C 0 (by decide) rfl rfl dX11_comes_177 ?_
            refine zx_aload_n C 1 dX11_comes_178 rfl rfl ?_
            refine zx_get C 17 (by decide) rfl rfl (by decide) inX11 q_669 rfl rfl dX11_comes_179 ?_
            refine zx_iload_n C 0 dX11_comes_182 rfl rfl ?_
            refine zx_iconst (v := 1) C dX11_comes_183 (by decide) ?_
            refine zx_iadd C dX11_comes_184 ?_
            refine zx_iald C 0 (by decide) rfl rfl dX11_comes_185 ?_
            refine zx_iast C 0 (by decide) (fun _ => rfl) rfl dX11_comes_186 (fun t_21 => ?_)
            refine zx_aload_n C 1 dX11_comes_187 rfl rfl ?_
            refine zx_get C 3 (by decide) rfl rfl (by decide) inX11 q_655 rfl rfl dX11_comes_188 ?_
            refine zx_aload_n C 1 dX11_comes_191 rfl rfl ?_
            refine zx_get C 17 (by decide) rfl rfl (by decide) inX11 q_669 rfl rfl dX11_comes_192 ?_
            refine zx_iload_n C 0 dX11_comes_195 rfl rfl ?_
            refine zx_iald C 0 (by decide) rfl rfl dX11_comes_196 ?_
            refine zx_iald C 0 (by decide) rfl rfl dX11_comes_197 ?_
            refine zx_if_le (tgt := 213) C dX11_comes_198 (by decide) (fun h_22 => ?_) (fun h_22 => ?_)
            · refine zx_iconst (v := 1) C dX11_comes_213 (by decide) ?_
              exact zx_zret C (by decide) dX11_comes_214
            · refine zx_aload_n C 1 dX11_comes_201 rfl rfl ?_
              refine zx_get C 6 (by decide) rfl rfl (by decide) inX11 q_658 rfl rfl dX11_comes_202 ?_
              refine zx_aload_n C 1 dX11_comes_205 rfl rfl ?_
              refine zx_get C 17 (by decide) rfl rfl (by decide) inX11 q_669 rfl rfl dX11_comes_206 ?_
              refine zx_iload_n C 0 dX11_comes_209 rfl rfl ?_
              refine zx_iald C 0 (by decide) rfl rfl dX11_comes_210 ?_
              refine zx_iconst (v := 1) C dX11_comes_211 (by decide) ?_
              refine zx_iast C 0 (by decide) (fun _ => rfl) rfl dX11_comes_212 (fun t_23 => ?_)
              refine zx_iconst (v := 1) C dX11_comes_213 (by decide) ?_
              exact zx_zret C (by decide) dX11_comes_214
          · refine zx_iconst (v := 0) C dX11_comes_166 (by decide) ?_
            exact zx_zret C (by decide) dX11_comes_167
def bf_X11_passes_42 (N : Nat) (rec2 : Nat → Int32 → zS → zA) (a1 : Nat) (v2 : Int32) (σ : zS) : zA := z_m (z_put σ 0 24 ((σ 0 24) + (1 : Int32))) (fun t_1 => (rec2 a1 (v2 + (1 : Int32)) t_1))
set_option maxHeartbeats 4000000 in
set_option maxRecDepth 100000 in
theorem b_X11_passes_42 {G : zG} {dC : Nat → ClassId} {dI : Nat → Nat → Nat} {A : Nat → Prop} {ad : Nat → Nat} {cI cC cW : ClassId} (C : zC G dC dI A 16 ad (cfM ad cI) (z_ty cI cC cW) cX11_passes RX11 3 0 none) (N : Nat) (rec2 : Nat → Int32 → zS → zA) (hrec2 : ∀ (a1 : Nat) (ha1 : 0 < a1 ∧ a1 < 16) (v2 : Int32) (σ : zS), zW G dC dI A 16 ad (cfM ad cI) 3 false (rec2 a1 v2 σ) σ 2 [(0, .ref (ad 0)), (1, .ref (ad a1)), (2, .int v2)] []) (a1 : Nat) (ha1 : 0 < a1 ∧ a1 < 16) (v2 : Int32) (σ : zS) : zW G dC dI A 16 ad (cfM ad cI) 3 false (bf_X11_passes_42 N rec2 a1 v2 σ) σ 42 [(0, .ref (ad 0)), (1, .ref (ad a1)), (2, .int v2)] [] := by
  unfold bf_X11_passes_42
  refine zx_aload_n C 0 dX11_passes_42 rfl rfl ?_
  refine zx_dup C dX11_passes_43 rfl ?_
  refine zx_get C 24 (by decide) rfl rfl (by decide) inX11 q_676 rfl rfl dX11_passes_44 ?_
  refine zx_iconst (v := 1) C dX11_passes_47 (by decide) ?_
  refine zx_iadd C dX11_passes_48 ?_
  refine zx_put (ty := .int) C 24 (by decide) rfl rfl (by decide) inX11 tyX11 tyX11_ok nmX11 q_676 rfl rfl (by decide +kernel) rfl rfl (Nat.le_of_ble_eq_true rfl) (by rfl) dX11_passes_49 (fun t_1 => ?_)
  refine zx_iinc (v := (v2 + (1 : Int32))) (L1 := [(2, .int (v2 + (1 : Int32))), (0, .ref (ad 0)), (1, .ref (ad a1))]) C 2 dX11_passes_52 rfl rfl (by decide) rfl ?_
  refine zx_goto (tgt := 2) C dX11_passes_55 (by decide) ?_
  exact zx_sub (L1 := [(0, .ref (ad 0)), (1, .ref (ad a1)), (2, .int (v2 + (1 : Int32)))]) [1, 2, 0] rfl (hrec2 a1 ha1 (v2 + (1 : Int32)) t_1)
def bf_X11_passes_2 (N : Nat) (rec2 : Nat → Int32 → zS → zA) (a1 : Nat) (v2 : Int32) (σ : zS) : zA := (if (Int32.ofNat (lenM a1)) ≤ v2 then some (0, σ) else (if (σ 0 23) = (0 : Int32) then z_g (z_in (σ 0 24) 140) (z_g (z_in v2 (lenM a1)) (z_m (z_put σ a1 v2.toNatClampNeg (σ 14 (σ 0 24).toNatClampNeg)) (fun t_4 => (bf_X11_passes_42 N rec2 a1 v2 t_4)))) else z_g (z_in v2 (lenM a1)) (z_g (z_in (σ 0 24) 140) (z_m (z_put σ 14 (σ 0 24).toNatClampNeg (σ a1 v2.toNatClampNeg)) (fun t_5 => (bf_X11_passes_42 N rec2 a1 v2 t_5))))))
set_option maxHeartbeats 4000000 in
set_option maxRecDepth 100000 in
theorem b_X11_passes_2 {G : zG} {dC : Nat → ClassId} {dI : Nat → Nat → Nat} {A : Nat → Prop} {ad : Nat → Nat} {cI cC cW : ClassId} (C : zC G dC dI A 16 ad (cfM ad cI) (z_ty cI cC cW) cX11_passes RX11 3 0 none) (N : Nat) (rec2 : Nat → Int32 → zS → zA) (hrec2 : ∀ (a1 : Nat) (ha1 : 0 < a1 ∧ a1 < 16) (v2 : Int32) (σ : zS), zW G dC dI A 16 ad (cfM ad cI) 3 false (rec2 a1 v2 σ) σ 2 [(0, .ref (ad 0)), (1, .ref (ad a1)), (2, .int v2)] []) (a1 : Nat) (ha1 : 0 < a1 ∧ a1 < 16) (v2 : Int32) (σ : zS) : zW G dC dI A 16 ad (cfM ad cI) 3 false (bf_X11_passes_2 N rec2 a1 v2 σ) σ 2 [(0, .ref (ad 0)), (1, .ref (ad a1)), (2, .int v2)] [] := by
  unfold bf_X11_passes_2
  refine zx_iload_n C 2 dX11_passes_2 rfl rfl ?_
  refine zx_aload_n C 1 dX11_passes_3 rfl rfl ?_
  refine zx_alen (v := (Int32.ofNat (lenM a1))) C 0 ha1.2 (m_arr ha1.1 _) rfl rfl dX11_passes_4 ?_
  refine zx_icmp_ge (tgt := 58) C dX11_passes_5 (by decide) (fun h_2 => ?_) (fun h_2 => ?_)
  · exact zx_vret C dX11_passes_58
  · refine zx_aload_n C 0 dX11_passes_8 rfl rfl ?_
    refine zx_get C 23 (by decide) rfl rfl (by decide) inX11 q_675 rfl rfl dX11_passes_9 ?_
    refine zx_if_eq (tgt := 30) C dX11_passes_12 (by decide) (fun h_3 => ?_) (fun h_3 => ?_)
    · refine zx_aload_n C 1 dX11_passes_30 rfl rfl ?_
      refine zx_iload_n C 2 dX11_passes_31 rfl rfl ?_
      refine zx_aload_n C 0 dX11_passes_32 rfl rfl ?_
      refine zx_get C 21 (by decide) rfl rfl (by decide) inX11 q_673 rfl rfl dX11_passes_33 ?_
      refine zx_aload_n C 0 dX11_passes_36 rfl rfl ?_
      refine zx_get C 24 (by decide) rfl rfl (by decide) inX11 q_676 rfl rfl dX11_passes_37 ?_
      refine zx_iald C 0 (by decide) rfl rfl dX11_passes_40 ?_
      refine zx_iast C 0 ha1.2 (m_arr ha1.1) rfl dX11_passes_41 (fun t_4 => ?_)
      exact zx_sub (L1 := [(0, .ref (ad 0)), (1, .ref (ad a1)), (2, .int v2)]) [0, 1, 2] rfl (b_X11_passes_42 C N rec2 hrec2 a1 ha1 v2 t_4)
    · refine zx_aload_n C 0 dX11_passes_15 rfl rfl ?_
      refine zx_get C 21 (by decide) rfl rfl (by decide) inX11 q_673 rfl rfl dX11_passes_16 ?_
      refine zx_aload_n C 0 dX11_passes_19 rfl rfl ?_
      refine zx_get C 24 (by decide) rfl rfl (by decide) inX11 q_676 rfl rfl dX11_passes_20 ?_
      refine zx_aload_n C 1 dX11_passes_23 rfl rfl ?_
      refine zx_iload_n C 2 dX11_passes_24 rfl rfl ?_
      refine zx_iald C 0 ha1.2 (m_arr ha1.1 _) rfl dX11_passes_25 ?_
      refine zx_iast C 0 (by decide) (fun _ => rfl) rfl dX11_passes_26 (fun t_5 => ?_)
      refine zx_goto (tgt := 42) C dX11_passes_27 (by decide) ?_
      exact zx_sub (L1 := [(0, .ref (ad 0)), (1, .ref (ad a1)), (2, .int v2)]) [0, 1, 2] rfl (b_X11_passes_42 C N rec2 hrec2 a1 ha1 v2 t_5)
def lf_X11_passes_2 (N : Nat) : Nat → Nat → Int32 → zS → zA
  | 0, _, _, _ => none
  | n + 1, a1, v2, σ => bf_X11_passes_2 N (lf_X11_passes_2 N  n) a1 v2 σ
theorem l_X11_passes_2 {G : zG} {dC : Nat → ClassId} {dI : Nat → Nat → Nat} {A : Nat → Prop} {ad : Nat → Nat} {cI cC cW : ClassId} (C : zC G dC dI A 16 ad (cfM ad cI) (z_ty cI cC cW) cX11_passes RX11 3 0 none) (N : Nat) : ∀ (n : Nat) (a1 : Nat) (ha1 : 0 < a1 ∧ a1 < 16) (v2 : Int32) (σ : zS), zW G dC dI A 16 ad (cfM ad cI) 3 false (lf_X11_passes_2 N  n a1 v2 σ) σ 2 [(0, .ref (ad 0)), (1, .ref (ad a1)), (2, .int v2)] [] := by
  intro n
  induction n with
  | zero => intro a1 ha1 v2 σ; exact zx_none
  | succ n ih => intro a1 ha1 v2 σ; exact b_X11_passes_2 C N (lf_X11_passes_2 N  n) ih a1 ha1 v2 σ
def f_X11_passes (N : Nat) (a1 : Nat) (σ : zS) : zA := (lf_X11_passes_2 N N a1 (0 : Int32) σ)
set_option maxHeartbeats 4000000 in
set_option maxRecDepth 100000 in
theorem k_X11_passes {l : Launch} {dC : Nat → ClassId} {dI : Nat → Nat → Nat} {A : Nat → Prop} {ad : Nat → Nat} {cI cC cW : ClassId} (hO : zO A 16 ad (cfM ad cI)) (N : Nat) (a1 : Nat) (ha1 : 0 < a1 ∧ a1 < 16) (σ : zS) : zM l dC dI A 16 ad (cfM ad cI) (z_ty cI cC cW) false yX11_passes cX11_passes 3 none 0 [.ref (ad 0), .ref (ad a1)] σ (f_X11_passes N a1 σ) := by
  refine zM_of hO (by decide) (Nat.le_of_ble_eq_true rfl) (fun G hG C => ?_)
  subst hG
  unfold f_X11_passes
  refine zx_sub (L1 := [(0, .ref (ad 0)), (1, .ref (ad a1))]) [0, 1] rfl ?_
  refine zx_iconst (v := 0) C dX11_passes_0 (by decide) ?_
  refine zx_istore_n (L1 := [(2, .int (0 : Int32)), (0, .ref (ad 0)), (1, .ref (ad a1))]) C dX11_passes_1 rfl (by decide) rfl ?_
  exact zx_sub (L1 := [(0, .ref (ad 0)), (1, .ref (ad a1)), (2, .int (0 : Int32))]) [1, 2, 0] rfl (l_X11_passes_2 C N N a1 ha1 (0 : Int32) σ)
def bf_X11_passOne_38 (N : Nat) (v2 : Int32) (σ : zS) : zA := z_m (z_put σ 0 24 ((σ 0 24) + (1 : Int32))) (fun t_1 => some (v2, t_1))
set_option maxHeartbeats 4000000 in
set_option maxRecDepth 100000 in
theorem b_X11_passOne_38 {G : zG} {dC : Nat → ClassId} {dI : Nat → Nat → Nat} {A : Nat → Prop} {ad : Nat → Nat} {cI cC cW : ClassId} (C : zC G dC dI A 16 ad (cfM ad cI) (z_ty cI cC cW) cX11_passOne RX11 3 0 (some .int)) (N : Nat) (v2 : Int32) (σ : zS) : zW G dC dI A 16 ad (cfM ad cI) 3 true (bf_X11_passOne_38 N  v2 σ) σ 38 [(0, .ref (ad 0)), (2, .int v2)] [] := by
  unfold bf_X11_passOne_38
  refine zx_aload_n C 0 dX11_passOne_38 rfl rfl ?_
  refine zx_dup C dX11_passOne_39 rfl ?_
  refine zx_get C 24 (by decide) rfl rfl (by decide) inX11 q_676 rfl rfl dX11_passOne_40 ?_
  refine zx_iconst (v := 1) C dX11_passOne_43 (by decide) ?_
  refine zx_iadd C dX11_passOne_44 ?_
  refine zx_put (ty := .int) C 24 (by decide) rfl rfl (by decide) inX11 tyX11 tyX11_ok nmX11 q_676 rfl rfl (by decide +kernel) rfl rfl (Nat.le_of_ble_eq_true rfl) (by rfl) dX11_passOne_45 (fun t_1 => ?_)
  refine zx_iload_n C 1 dX11_passOne_48 rfl rfl ?_
  exact zx_iret C dX11_passOne_49
def bf_X11_passOne_20 (N : Nat) (v1 : Int32) (u0 : Int32) (σ : zS) : zA := (if (σ 0 23) = (0 : Int32) then (bf_X11_passOne_38 N u0 σ) else z_g (z_in (σ 0 24) 140) (z_m (z_put σ 14 (σ 0 24).toNatClampNeg v1) (fun t_3 => (bf_X11_passOne_38 N u0 t_3))))
set_option maxHeartbeats 4000000 in
set_option maxRecDepth 100000 in
theorem b_X11_passOne_20 {G : zG} {dC : Nat → ClassId} {dI : Nat → Nat → Nat} {A : Nat → Prop} {ad : Nat → Nat} {cI cC cW : ClassId} (C : zC G dC dI A 16 ad (cfM ad cI) (z_ty cI cC cW) cX11_passOne RX11 3 0 (some .int)) (N : Nat) (v1 : Int32) (u0 : Int32) (σ : zS) : zW G dC dI A 16 ad (cfM ad cI) 3 true (bf_X11_passOne_20 N  v1 u0 σ) σ 20 [(0, .ref (ad 0)), (1, .int v1)] [.int u0] := by
  unfold bf_X11_passOne_20
  refine zx_istore_n (L1 := [(2, .int u0), (0, .ref (ad 0)), (1, .int v1)]) C dX11_passOne_20 rfl (by decide) rfl ?_
  refine zx_aload_n C 1 dX11_passOne_21 rfl rfl ?_
  refine zx_get C 23 (by decide) rfl rfl (by decide) inX11 q_675 rfl rfl dX11_passOne_22 ?_
  refine zx_if_eq (tgt := 38) C dX11_passOne_25 (by decide) (fun h_2 => ?_) (fun h_2 => ?_)
  · exact zx_sub (L1 := [(0, .ref (ad 0)), (2, .int u0)]) [1, 0] rfl (b_X11_passOne_38 C N u0 σ)
  · refine zx_aload_n C 1 dX11_passOne_28 rfl rfl ?_
    refine zx_get C 21 (by decide) rfl rfl (by decide) inX11 q_673 rfl rfl dX11_passOne_29 ?_
    refine zx_aload_n C 1 dX11_passOne_32 rfl rfl ?_
    refine zx_get C 24 (by decide) rfl rfl (by decide) inX11 q_676 rfl rfl dX11_passOne_33 ?_
    refine zx_iload_n C 2 dX11_passOne_36 rfl rfl ?_
    refine zx_iast C 0 (by decide) (fun _ => rfl) rfl dX11_passOne_37 (fun t_3 => ?_)
    exact zx_sub (L1 := [(0, .ref (ad 0)), (2, .int u0)]) [1, 0] rfl (b_X11_passOne_38 C N u0 t_3)
def f_X11_passOne (N : Nat) (v1 : Int32) (σ : zS) : zA := (if (σ 0 23) = (0 : Int32) then z_g (z_in (σ 0 24) 140) ((bf_X11_passOne_20 N v1 (σ 14 (σ 0 24).toNatClampNeg) σ)) else (bf_X11_passOne_20 N v1 v1 σ))
set_option maxHeartbeats 4000000 in
set_option maxRecDepth 100000 in
theorem k_X11_passOne {l : Launch} {dC : Nat → ClassId} {dI : Nat → Nat → Nat} {A : Nat → Prop} {ad : Nat → Nat} {cI cC cW : ClassId} (hO : zO A 16 ad (cfM ad cI)) (N : Nat) (v1 : Int32) (σ : zS) : zM l dC dI A 16 ad (cfM ad cI) (z_ty cI cC cW) true yX11_passOne cX11_passOne 3 (some .int) 0 [.ref (ad 0), .int v1] σ (f_X11_passOne N v1 σ) := by
  refine zM_of hO (by decide) (Nat.le_of_ble_eq_true rfl) (fun G hG C => ?_)
  subst hG
  unfold f_X11_passOne
  refine zx_sub (L1 := [(0, .ref (ad 0)), (1, .int v1)]) [0, 1] rfl ?_
  refine zx_aload_n C 0 dX11_passOne_0 rfl rfl ?_
  refine zx_get C 23 (by decide) rfl rfl (by decide) inX11 q_675 rfl rfl dX11_passOne_1 ?_
  refine zx_if_eq (tgt := 11) C dX11_passOne_4 (by decide) (fun h_4 => ?_) (fun h_4 => ?_)
  · refine zx_aload_n C 0 dX11_passOne_11 rfl rfl ?_
    refine zx_get C 21 (by decide) rfl rfl (by decide) inX11 q_673 rfl rfl dX11_passOne_12 ?_
    refine zx_aload_n C 0 dX11_passOne_15 rfl rfl ?_
    refine zx_get C 24 (by decide) rfl rfl (by decide) inX11 q_676 rfl rfl dX11_passOne_16 ?_
    refine zx_iald C 0 (by decide) rfl rfl dX11_passOne_19 ?_
    exact zx_sub (L1 := [(0, .ref (ad 0)), (1, .int v1)]) [0, 1] rfl (b_X11_passOne_20 C N v1 (σ 14 (σ 0 24).toNatClampNeg) σ)
  · refine zx_iload_n C 1 dX11_passOne_7 rfl rfl ?_
    refine zx_goto (tgt := 20) C dX11_passOne_8 (by decide) ?_
    exact zx_sub (L1 := [(0, .ref (ad 0)), (1, .int v1)]) [0, 1] rfl (b_X11_passOne_20 C N v1 v1 σ)
def f_X11_passesAll (N : Nat) (v1 : Int32) (v2 : Int32) (σ : zS) : zA := z_m (z_put σ 0 24 ((70 : Int32) * v1)) (fun t_1 => z_g (z_bo v2) (z_m (z_put t_1 0 23 v2) (fun t_2 => z_b (f_X11_passes N 1 t_2) (fun r_4 t_5 => z_b (f_X11_passes N 2 t_5) (fun r_6 t_7 => z_b (f_X11_passes N 3 t_7) (fun r_8 t_9 => z_b (f_X11_passes N 4 t_9) (fun r_10 t_11 => z_b (f_X11_passes N 5 t_11) (fun r_12 t_13 => z_b (f_X11_passes N 6 t_13) (fun r_14 t_15 => z_b (f_X11_passes N 7 t_15) (fun r_16 t_17 => z_b (f_X11_passes N 8 t_17) (fun r_18 t_19 => z_b (f_X11_passOne N (t_19 0 9) t_19) (fun r_20 t_21 => z_m (z_put t_21 0 9 r_20) (fun t_22 => z_b (f_X11_passOne N (t_22 0 10) t_22) (fun r_23 t_24 => z_m (z_put t_24 0 10 r_23) (fun t_25 => z_b (f_X11_passOne N (t_25 0 11) t_25) (fun r_26 t_27 => z_m (z_put t_27 0 11 r_26) (fun t_28 => z_b (f_X11_passOne N (t_28 0 12) t_28) (fun r_29 t_30 => z_m (z_put t_30 0 12 r_29) (fun t_31 => z_b (f_X11_passOne N (t_31 0 13) t_31) (fun r_32 t_33 => z_m (z_put t_33 0 13 r_32) (fun t_34 => some (0, t_34))))))))))))))))))))))
set_option maxHeartbeats 4000000 in
set_option maxRecDepth 100000 in
theorem k_X11_passesAll {l : Launch} {dC : Nat → ClassId} {dI : Nat → Nat → Nat} {A : Nat → Prop} {ad : Nat → Nat} {cI cC cW : ClassId} (hO : zO A 16 ad (cfM ad cI)) (N : Nat) (v1 : Int32) (v2 : Int32) (σ : zS) : zM l dC dI A 16 ad (cfM ad cI) (z_ty cI cC cW) false yX11_passesAll cX11_passesAll 3 none 1 [.ref (ad 0), .int v1, .int v2] σ (f_X11_passesAll N v1 v2 σ) := by
  refine zM_of hO (by decide) (Nat.le_of_ble_eq_true rfl) (fun G hG C => ?_)
  subst hG
  unfold f_X11_passesAll
  refine zx_sub (L1 := [(0, .ref (ad 0)), (1, .int v1), (2, .int v2)]) [0, 1, 2] rfl ?_
  refine zx_aload_n C 0 dX11_passesAll_0 rfl rfl ?_
  refine zx_bipush (v := 70) C dX11_passesAll_1 (by decide) ?_
  refine zx_iload_n C 1 dX11_passesAll_3 rfl rfl ?_
  refine zx_imul C dX11_passesAll_4 ?_
  refine zx_put (ty := .int) C 24 (by decide) rfl rfl (by decide) inX11 tyX11 tyX11_ok nmX11 q_676 rfl rfl (by decide +kernel) rfl rfl (Nat.le_of_ble_eq_true rfl) (by rfl) dX11_passesAll_5 (fun t_1 => ?_)
  refine zx_aload_n C 0 dX11_passesAll_8 rfl rfl ?_
  refine zx_iload_n C 2 dX11_passesAll_9 rfl rfl ?_
  refine zx_g (fun h_3 => ?_)
  refine zx_put (ty := .boolean) C 23 (by decide) rfl rfl (by decide) inX11 tyX11 tyX11_ok nmX11 q_675 rfl rfl (by decide +kernel) (z_bo_n h_3) (z_bo_f h_3) (Nat.le_of_ble_eq_true rfl) (by rfl) dX11_passesAll_10 (fun t_2 => ?_)
  refine zx_aload_n C 0 dX11_passesAll_13 rfl rfl ?_
  refine zx_aload_n C 0 dX11_passesAll_14 rfl rfl ?_
  refine zx_get C 1 (by decide) rfl rfl (by decide) inX11 q_653 rfl rfl dX11_passesAll_15 ?_
  refine zx_callV (As := [.ref (ad 1)]) (st := []) C yk_X11_passes q_774 q_776 q_15 (by decide) rfl rfl (k_X11_passes C.hO N 1 ⟨by decide, by decide⟩ t_2) (by decide) rfl rfl (Nat.le_of_ble_eq_true rfl) dX11_passesAll_18 (fun h9 => nomatch h9) (fun _ r_4 t_5 => ?_)
  refine zx_aload_n C 0 dX11_passesAll_21 rfl rfl ?_
  refine zx_aload_n C 0 dX11_passesAll_22 rfl rfl ?_
  refine zx_get C 2 (by decide) rfl rfl (by decide) inX11 q_654 rfl rfl dX11_passesAll_23 ?_
  refine zx_callV (As := [.ref (ad 2)]) (st := []) C yk_X11_passes q_774 q_776 q_15 (by decide) rfl rfl (k_X11_passes C.hO N 2 ⟨by decide, by decide⟩ t_5) (by decide) rfl rfl (Nat.le_of_ble_eq_true rfl) dX11_passesAll_26 (fun h9 => nomatch h9) (fun _ r_6 t_7 => ?_)
  refine zx_aload_n C 0 dX11_passesAll_29 rfl rfl ?_
  refine zx_aload_n C 0 dX11_passesAll_30 rfl rfl ?_
  refine zx_get C 3 (by decide) rfl rfl (by decide) inX11 q_655 rfl rfl dX11_passesAll_31 ?_
  refine zx_callV (As := [.ref (ad 3)]) (st := []) C yk_X11_passes q_774 q_776 q_15 (by decide) rfl rfl (k_X11_passes C.hO N 3 ⟨by decide, by decide⟩ t_7) (by decide) rfl rfl (Nat.le_of_ble_eq_true rfl) dX11_passesAll_34 (fun h9 => nomatch h9) (fun _ r_8 t_9 => ?_)
  refine zx_aload_n C 0 dX11_passesAll_37 rfl rfl ?_
  refine zx_aload_n C 0 dX11_passesAll_38 rfl rfl ?_
  refine zx_get C 4 (by decide) rfl rfl (by decide) inX11 q_656 rfl rfl dX11_passesAll_39 ?_
  refine zx_callV (As := [.ref (ad 4)]) (st := []) C yk_X11_passes q_774 q_776 q_15 (by decide) rfl rfl (k_X11_passes C.hO N 4 ⟨by decide, by decide⟩ t_9) (by decide) rfl rfl (Nat.le_of_ble_eq_true rfl) dX11_passesAll_42 (fun h9 => nomatch h9) (fun _ r_10 t_11 => ?_)
  refine zx_aload_n C 0 dX11_passesAll_45 rfl rfl ?_
  refine zx_aload_n C 0 dX11_passesAll_46 rfl rfl ?_
  refine zx_get C 5 (by decide) rfl rfl (by decide) inX11 q_657 rfl rfl dX11_passesAll_47 ?_
  refine zx_callV (As := [.ref (ad 5)]) (st := []) C yk_X11_passes q_774 q_776 q_15 (by decide) rfl rfl (k_X11_passes C.hO N 5 ⟨by decide, by decide⟩ t_11) (by decide) rfl rfl (Nat.le_of_ble_eq_true rfl) dX11_passesAll_50 (fun h9 => nomatch h9) (fun _ r_12 t_13 => ?_)
  refine zx_aload_n C 0 dX11_passesAll_53 rfl rfl ?_
  refine zx_aload_n C 0 dX11_passesAll_54 rfl rfl ?_
  refine zx_get C 6 (by decide) rfl rfl (by decide) inX11 q_658 rfl rfl dX11_passesAll_55 ?_
  refine zx_callV (As := [.ref (ad 6)]) (st := []) C yk_X11_passes q_774 q_776 q_15 (by decide) rfl rfl (k_X11_passes C.hO N 6 ⟨by decide, by decide⟩ t_13) (by decide) rfl rfl (Nat.le_of_ble_eq_true rfl) dX11_passesAll_58 (fun h9 => nomatch h9) (fun _ r_14 t_15 => ?_)
  refine zx_aload_n C 0 dX11_passesAll_61 rfl rfl ?_
  refine zx_aload_n C 0 dX11_passesAll_62 rfl rfl ?_
  refine zx_get C 7 (by decide) rfl rfl (by decide) inX11 q_659 rfl rfl dX11_passesAll_63 ?_
  refine zx_callV (As := [.ref (ad 7)]) (st := []) C yk_X11_passes q_774 q_776 q_15 (by decide) rfl rfl (k_X11_passes C.hO N 7 ⟨by decide, by decide⟩ t_15) (by decide) rfl rfl (Nat.le_of_ble_eq_true rfl) dX11_passesAll_66 (fun h9 => nomatch h9) (fun _ r_16 t_17 => ?_)
  refine zx_aload_n C 0 dX11_passesAll_69 rfl rfl ?_
  refine zx_aload_n C 0 dX11_passesAll_70 rfl rfl ?_
  refine zx_get C 8 (by decide) rfl rfl (by decide) inX11 q_660 rfl rfl dX11_passesAll_71 ?_
  refine zx_callV (As := [.ref (ad 8)]) (st := []) C yk_X11_passes q_774 q_776 q_15 (by decide) rfl rfl (k_X11_passes C.hO N 8 ⟨by decide, by decide⟩ t_17) (by decide) rfl rfl (Nat.le_of_ble_eq_true rfl) dX11_passesAll_74 (fun h9 => nomatch h9) (fun _ r_18 t_19 => ?_)
  refine zx_aload_n C 0 dX11_passesAll_77 rfl rfl ?_
  refine zx_aload_n C 0 dX11_passesAll_78 rfl rfl ?_
  refine zx_aload_n C 0 dX11_passesAll_79 rfl rfl ?_
  refine zx_get C 9 (by decide) rfl rfl (by decide) inX11 q_661 rfl rfl dX11_passesAll_80 ?_
  refine zx_callV (As := [.int (t_19 0 9)]) (st := [.ref (ad 0)]) C yk_X11_passOne q_778 q_780 q_16 (by decide) rfl rfl (k_X11_passOne C.hO N (t_19 0 9) t_19) (by decide) rfl rfl (Nat.le_of_ble_eq_true rfl) dX11_passesAll_83 (fun _ r_20 t_21 => ?_) (fun h9 => nomatch h9)
  refine zx_put (ty := .int) C 9 (by decide) rfl rfl (by decide) inX11 tyX11 tyX11_ok nmX11 q_661 rfl rfl (by decide +kernel) rfl rfl (Nat.le_of_ble_eq_true rfl) (by rfl) dX11_passesAll_86 (fun t_22 => ?_)
  refine zx_aload_n C 0 dX11_passesAll_89 rfl rfl ?_
  refine zx_aload_n C 0 dX11_passesAll_90 rfl rfl ?_
  refine zx_aload_n C 0 dX11_passesAll_91 rfl rfl ?_
  refine zx_get C 10 (by decide) rfl rfl (by decide) inX11 q_662 rfl rfl dX11_passesAll_92 ?_
  refine zx_callV (As := [.int (t_22 0 10)]) (st := [.ref (ad 0)]) C yk_X11_passOne q_778 q_780 q_16 (by decide) rfl rfl (k_X11_passOne C.hO N (t_22 0 10) t_22) (by decide) rfl rfl (Nat.le_of_ble_eq_true rfl) dX11_passesAll_95 (fun _ r_23 t_24 => ?_) (fun h9 => nomatch h9)
  refine zx_put (ty := .int) C 10 (by decide) rfl rfl (by decide) inX11 tyX11 tyX11_ok nmX11 q_662 rfl rfl (by decide +kernel) rfl rfl (Nat.le_of_ble_eq_true rfl) (by rfl) dX11_passesAll_98 (fun t_25 => ?_)
  refine zx_aload_n C 0 dX11_passesAll_101 rfl rfl ?_
  refine zx_aload_n C 0 dX11_passesAll_102 rfl rfl ?_
  refine zx_aload_n C 0 dX11_passesAll_103 rfl rfl ?_
  refine zx_get C 11 (by decide) rfl rfl (by decide) inX11 q_663 rfl rfl dX11_passesAll_104 ?_
  refine zx_callV (As := [.int (t_25 0 11)]) (st := [.ref (ad 0)]) C yk_X11_passOne q_778 q_780 q_16 (by decide) rfl rfl (k_X11_passOne C.hO N (t_25 0 11) t_25) (by decide) rfl rfl (Nat.le_of_ble_eq_true rfl) dX11_passesAll_107 (fun _ r_26 t_27 => ?_) (fun h9 => nomatch h9)
  refine zx_put (ty := .int) C 11 (by decide) rfl rfl (by decide) inX11 tyX11 tyX11_ok nmX11 q_663 rfl rfl (by decide +kernel) rfl rfl (Nat.le_of_ble_eq_true rfl) (by rfl) dX11_passesAll_110 (fun t_28 => ?_)
  refine zx_aload_n C 0 dX11_passesAll_113 rfl rfl ?_
  refine zx_aload_n C 0 dX11_passesAll_114 rfl rfl ?_
  refine zx_aload_n C 0 dX11_passesAll_115 rfl rfl ?_
  refine zx_get C 12 (by decide) rfl rfl (by decide) inX11 q_664 rfl rfl dX11_passesAll_116 ?_
  refine zx_callV (As := [.int (t_28 0 12)]) (st := [.ref (ad 0)]) C yk_X11_passOne q_778 q_780 q_16 (by decide) rfl rfl (k_X11_passOne C.hO N (t_28 0 12) t_28) (by decide) rfl rfl (Nat.le_of_ble_eq_true rfl) dX11_passesAll_119 (fun _ r_29 t_30 => ?_) (fun h9 => nomatch h9)
  refine zx_put (ty := .int) C 12 (by decide) rfl rfl (by decide) inX11 tyX11 tyX11_ok nmX11 q_664 rfl rfl (by decide +kernel) rfl rfl (Nat.le_of_ble_eq_true rfl) (by rfl) dX11_passesAll_122 (fun t_31 => ?_)
  refine zx_aload_n C 0 dX11_passesAll_125 rfl rfl ?_
  refine zx_aload_n C 0 dX11_passesAll_126 rfl rfl ?_
  refine zx_aload_n C 0 dX11_passesAll_127 rfl rfl ?_
  refine zx_get C 13 (by decide) rfl rfl (by decide) inX11 q_665 rfl rfl dX11_passesAll_128 ?_
  refine zx_callV (As := [.int (t_31 0 13)]) (st := [.ref (ad 0)]) C yk_X11_passOne q_778 q_780 q_16 (by decide) rfl rfl (k_X11_passOne C.hO N (t_31 0 13) t_31) (by decide) rfl rfl (Nat.le_of_ble_eq_true rfl) dX11_passesAll_131 (fun _ r_32 t_33 => ?_) (fun h9 => nomatch h9)
  refine zx_put (ty := .int) C 13 (by decide) rfl rfl (by decide) inX11 tyX11 tyX11_ok nmX11 q_665 rfl rfl (by decide +kernel) rfl rfl (Nat.le_of_ble_eq_true rfl) (by rfl) dX11_passesAll_134 (fun t_34 => ?_)
  exact zx_vret C dX11_passesAll_137
def bf_X11_night_86 (N : Nat) (rec86 : Int32 → zS → zA) (v2 : Int32) (σ : zS) : zA := (if (σ 0 20) ≤ v2 then some ((σ 0 20), σ) else z_b (f_X11_comes N v2 σ) (fun r_2 t_3 => (if r_2 = (0 : Int32) then z_b (f_X11_passesAll N (1 : Int32) (0 : Int32) t_3) (fun r_5 t_6 => z_g (z_in v2 40) (some (((-2000 : Int32) - (t_6 12 v2.toNatClampNeg)), t_6))) else (rec86 (v2 + (1 : Int32)) t_3))))
set_option maxHeartbeats 4000000 in
set_option maxRecDepth 100000 in
theorem b_X11_night_86 {G : zG} {dC : Nat → ClassId} {dI : Nat → Nat → Nat} {A : Nat → Prop} {ad : Nat → Nat} {cI cC cW : ClassId} (C : zC G dC dI A 16 ad (cfM ad cI) (z_ty cI cC cW) cX11_night RX11 3 3 (some .int)) (N : Nat) (rec86 : Int32 → zS → zA) (hrec86 : ∀ (v2 : Int32) (σ : zS), zW G dC dI A 16 ad (cfM ad cI) 3 true (rec86 v2 σ) σ 86 [(0, .ref (ad 0)), (2, .int v2)] []) (v2 : Int32) (σ : zS) : zW G dC dI A 16 ad (cfM ad cI) 3 true (bf_X11_night_86 N rec86 v2 σ) σ 86 [(0, .ref (ad 0)), (2, .int v2)] [] := by
  unfold bf_X11_night_86
  refine zx_iload_n C 1 dX11_night_86 rfl rfl ?_
  refine zx_aload_n C 0 dX11_night_87 rfl rfl ?_
  refine zx_get C 20 (by decide) rfl rfl (by decide) inX11 q_672 rfl rfl dX11_night_88 ?_
  refine zx_icmp_ge (tgt := 128) C dX11_night_91 (by decide) (fun h_1 => ?_) (fun h_1 => ?_)
  · refine zx_aload_n C 0 dX11_night_128 rfl rfl ?_
    refine zx_get C 20 (by decide) rfl rfl (by decide) inX11 q_672 rfl rfl dX11_night_129 ?_
    exact zx_iret C dX11_night_132
  · refine zx_aload_n C 0 dX11_night_94 rfl rfl ?_
    refine zx_iload_n C 1 dX11_night_95 rfl rfl ?_
    refine zx_callV (As := [.int v2]) (st := []) C yk_X11_comes q_782 q_784 q_17 (by decide) rfl rfl (k_X11_comes C.hO N v2 σ) (by decide) rfl rfl (Nat.le_of_ble_eq_true rfl) dX11_night_96 (fun _ r_2 t_3 => ?_) (fun h9 => nomatch h9)
    refine zx_if_eq (tgt := 105) C dX11_night_99 (by decide) (fun h_4 => ?_) (fun h_4 => ?_)
    · refine zx_aload_n C 0 dX11_night_105 rfl rfl ?_
      refine zx_iconst (v := 1) C dX11_night_106 (by decide) ?_
      refine zx_iconst (v := 0) C dX11_night_107 (by decide) ?_
      refine zx_callV (As := [.int (1 : Int32), .int (0 : Int32)]) (st := []) C yk_X11_passesAll q_770 q_772 q_14 (by decide) rfl rfl (k_X11_passesAll C.hO N (1 : Int32) (0 : Int32) t_3) (by decide) rfl rfl (Nat.le_of_ble_eq_true rfl) dX11_night_108 (fun h9 => nomatch h9) (fun _ r_5 t_6 => ?_)
      refine zx_sipush (v := -2000) C dX11_night_111 (by decide) ?_
      refine zx_aload_n C 0 dX11_night_114 rfl rfl ?_
      refine zx_get C 16 (by decide) rfl rfl (by decide) inX11 q_668 rfl rfl dX11_night_115 ?_
      refine zx_iload_n C 1 dX11_night_118 rfl rfl ?_
      refine zx_iald C 0 (by decide) rfl rfl dX11_night_119 ?_
      refine zx_isub C dX11_night_120 ?_
      exact zx_iret C dX11_night_121
    · refine zx_goto (tgt := 122) C dX11_night_102 (by decide) ?_
      refine zx_iinc (v := (v2 + (1 : Int32))) (L1 := [(2, .int (v2 + (1 : Int32))), (0, .ref (ad 0))]) C 1 dX11_night_122 rfl rfl (by decide) rfl ?_
      refine zx_goto (tgt := 86) C dX11_night_125 (by decide) ?_
      exact zx_sub (L1 := [(0, .ref (ad 0)), (2, .int (v2 + (1 : Int32)))]) [1, 0] rfl (hrec86 (v2 + (1 : Int32)) t_3)
def lf_X11_night_86 (N : Nat) : Nat → Int32 → zS → zA
  | 0, _, _ => none
  | n + 1, v2, σ => bf_X11_night_86 N (lf_X11_night_86 N  n) v2 σ
theorem l_X11_night_86 {G : zG} {dC : Nat → ClassId} {dI : Nat → Nat → Nat} {A : Nat → Prop} {ad : Nat → Nat} {cI cC cW : ClassId} (C : zC G dC dI A 16 ad (cfM ad cI) (z_ty cI cC cW) cX11_night RX11 3 3 (some .int)) (N : Nat) : ∀ (n : Nat) (v2 : Int32) (σ : zS), zW G dC dI A 16 ad (cfM ad cI) 3 true (lf_X11_night_86 N  n v2 σ) σ 86 [(0, .ref (ad 0)), (2, .int v2)] [] := by
  intro n
  induction n with
  | zero => intro v2 σ; exact zx_none
  | succ n ih => intro v2 σ; exact b_X11_night_86 C N (lf_X11_night_86 N  n) ih v2 σ
def bf_X11_night_60 (N : Nat) (v1 : Int32) (σ : zS) : zA := z_m (z_put σ 0 18 (0 : Int32)) (fun t_7 => (if v1 = (0 : Int32) then some (((-1000 : Int32) - (t_7 0 19)), t_7) else z_b (f_X11_passesAll N (1 : Int32) (1 : Int32) t_7) (fun r_9 t_10 => (lf_X11_night_86 N N (0 : Int32) t_10))))
set_option maxHeartbeats 4000000 in
set_option maxRecDepth 100000 in
theorem b_X11_night_60 {G : zG} {dC : Nat → ClassId} {dI : Nat → Nat → Nat} {A : Nat → Prop} {ad : Nat → Nat} {cI cC cW : ClassId} (C : zC G dC dI A 16 ad (cfM ad cI) (z_ty cI cC cW) cX11_night RX11 3 3 (some .int)) (N : Nat) (v1 : Int32) (σ : zS) : zW G dC dI A 16 ad (cfM ad cI) 3 true (bf_X11_night_60 N  v1 σ) σ 60 [(0, .ref (ad 0)), (1, .int v1)] [] := by
  unfold bf_X11_night_60
  refine zx_aload_n C 0 dX11_night_60 rfl rfl ?_
  refine zx_iconst (v := 0) C dX11_night_61 (by decide) ?_
  refine zx_put (ty := .int) C 18 (by decide) rfl rfl (by decide) inX11 tyX11 tyX11_ok nmX11 q_670 rfl rfl (by decide +kernel) rfl rfl (Nat.le_of_ble_eq_true rfl) (by rfl) dX11_night_62 (fun t_7 => ?_)
  refine zx_iload_n C 1 dX11_night_65 rfl rfl ?_
  refine zx_if_ne (tgt := 78) C dX11_night_66 (by decide) (fun h_8 => ?_) (fun h_8 => ?_)
  · refine zx_aload_n C 0 dX11_night_78 rfl rfl ?_
    refine zx_iconst (v := 1) C dX11_night_79 (by decide) ?_
    refine zx_iconst (v := 1) C dX11_night_80 (by decide) ?_
    refine zx_callV (As := [.int (1 : Int32), .int (1 : Int32)]) (st := []) C yk_X11_passesAll q_770 q_772 q_14 (by decide) rfl rfl (k_X11_passesAll C.hO N (1 : Int32) (1 : Int32) t_7) (by decide) rfl rfl (Nat.le_of_ble_eq_true rfl) dX11_night_81 (fun h9 => nomatch h9) (fun _ r_9 t_10 => ?_)
    refine zx_iconst (v := 0) C dX11_night_84 (by decide) ?_
    refine zx_istore_n (L1 := [(2, .int (0 : Int32)), (0, .ref (ad 0)), (1, .int v1)]) C dX11_night_85 rfl (by decide) rfl ?_
    exact zx_sub (L1 := [(0, .ref (ad 0)), (2, .int (0 : Int32))]) [1, 0] rfl (l_X11_night_86 C N N (0 : Int32) t_10)
  · refine zx_sipush (v := -1000) C dX11_night_69 (by decide) ?_
    refine zx_aload_n C 0 dX11_night_72 rfl rfl ?_
    refine zx_get C 19 (by decide) rfl rfl (by decide) inX11 q_671 rfl rfl dX11_night_73 ?_
    refine zx_isub C dX11_night_76 ?_
    exact zx_iret C dX11_night_77
def bf_X11_night_34 (N : Nat) (rec12 : Int32 → zS → zA) (σ : zS) : zA := z_b (f_X11_statement N σ) (fun r_11 t_12 => (if r_11 = (0 : Int32) then z_m (z_put t_12 0 20 ((t_12 0 20) + (0 : Int32))) (fun t_14 => (rec12 r_11 t_14)) else z_m (z_put t_12 0 20 ((t_12 0 20) + (1 : Int32))) (fun t_15 => (rec12 r_11 t_15))))
set_option maxHeartbeats 4000000 in
set_option maxRecDepth 100000 in
theorem b_X11_night_34 {G : zG} {dC : Nat → ClassId} {dI : Nat → Nat → Nat} {A : Nat → Prop} {ad : Nat → Nat} {cI cC cW : ClassId} (C : zC G dC dI A 16 ad (cfM ad cI) (z_ty cI cC cW) cX11_night RX11 3 3 (some .int)) (N : Nat) (rec12 : Int32 → zS → zA) (hrec12 : ∀ (v1 : Int32) (σ : zS), zW G dC dI A 16 ad (cfM ad cI) 3 true (rec12 v1 σ) σ 12 [(0, .ref (ad 0)), (1, .int v1)] []) (σ : zS) : zW G dC dI A 16 ad (cfM ad cI) 3 true (bf_X11_night_34 N rec12  σ) σ 34 [(0, .ref (ad 0))] [] := by
  unfold bf_X11_night_34
  refine zx_aload_n C 0 dX11_night_34 rfl rfl ?_
  refine zx_callV (As := []) (st := []) C yk_X11_statement q_755 q_757 q_11 (by decide) rfl rfl (k_X11_statement C.hO N σ) (by decide) rfl rfl (Nat.le_of_ble_eq_true rfl) dX11_night_35 (fun _ r_11 t_12 => ?_) (fun h9 => nomatch h9)
  refine zx_istore_n (L1 := [(1, .int r_11), (0, .ref (ad 0))]) C dX11_night_38 rfl (by decide) rfl ?_
  refine zx_aload_n C 1 dX11_night_39 rfl rfl ?_
  refine zx_dup C dX11_night_40 rfl ?_
  refine zx_get C 20 (by decide) rfl rfl (by decide) inX11 q_672 rfl rfl dX11_night_41 ?_
  refine zx_iload_n C 0 dX11_night_44 rfl rfl ?_
  refine zx_if_eq (tgt := 52) C dX11_night_45 (by decide) (fun h_13 => ?_) (fun h_13 => ?_)
  · refine zx_iconst (v := 0) C dX11_night_52 (by decide) ?_
    refine zx_iadd C dX11_night_53 ?_
    refine zx_put (ty := .int) C 20 (by decide) rfl rfl (by decide) inX11 tyX11 tyX11_ok nmX11 q_672 rfl rfl (by decide +kernel) rfl rfl (Nat.le_of_ble_eq_true rfl) (by rfl) dX11_night_54 (fun t_14 => ?_)
    refine zx_goto (tgt := 12) C dX11_night_57 (by decide) ?_
    exact zx_sub (L1 := [(0, .ref (ad 0)), (1, .int r_11)]) [1, 0] rfl (hrec12 r_11 t_14)
  · refine zx_iconst (v := 1) C dX11_night_48 (by decide) ?_
    refine zx_goto (tgt := 53) C dX11_night_49 (by decide) ?_
    refine zx_iadd C dX11_night_53 ?_
    refine zx_put (ty := .int) C 20 (by decide) rfl rfl (by decide) inX11 tyX11 tyX11_ok nmX11 q_672 rfl rfl (by decide +kernel) rfl rfl (Nat.le_of_ble_eq_true rfl) (by rfl) dX11_night_54 (fun t_15 => ?_)
    refine zx_goto (tgt := 12) C dX11_night_57 (by decide) ?_
    exact zx_sub (L1 := [(0, .ref (ad 0)), (1, .int r_11)]) [1, 0] rfl (hrec12 r_11 t_15)
def bf_X11_night_12 (N : Nat) (rec12 : Int32 → zS → zA) (v1 : Int32) (σ : zS) : zA := (if v1 = (0 : Int32) then (bf_X11_night_60 N v1 σ) else (if (σ 0 19) < (σ 0 18) then (bf_X11_night_34 N rec12 σ) else (if (σ 0 20) = (0 : Int32) then (bf_X11_night_34 N rec12 σ) else (bf_X11_night_60 N v1 σ))))
set_option maxHeartbeats 4000000 in
set_option maxRecDepth 100000 in
theorem b_X11_night_12 {G : zG} {dC : Nat → ClassId} {dI : Nat → Nat → Nat} {A : Nat → Prop} {ad : Nat → Nat} {cI cC cW : ClassId} (C : zC G dC dI A 16 ad (cfM ad cI) (z_ty cI cC cW) cX11_night RX11 3 3 (some .int)) (N : Nat) (rec12 : Int32 → zS → zA) (hrec12 : ∀ (v1 : Int32) (σ : zS), zW G dC dI A 16 ad (cfM ad cI) 3 true (rec12 v1 σ) σ 12 [(0, .ref (ad 0)), (1, .int v1)] []) (v1 : Int32) (σ : zS) : zW G dC dI A 16 ad (cfM ad cI) 3 true (bf_X11_night_12 N rec12 v1 σ) σ 12 [(0, .ref (ad 0)), (1, .int v1)] [] := by
  unfold bf_X11_night_12
  refine zx_iload_n C 1 dX11_night_12 rfl rfl ?_
  refine zx_if_eq (tgt := 60) C dX11_night_13 (by decide) (fun h_16 => ?_) (fun h_16 => ?_)
  · exact zx_sub (L1 := [(0, .ref (ad 0)), (1, .int v1)]) [0, 1] rfl (b_X11_night_60 C N v1 σ)
  · refine zx_aload_n C 0 dX11_night_16 rfl rfl ?_
    refine zx_get C 19 (by decide) rfl rfl (by decide) inX11 q_671 rfl rfl dX11_night_17 ?_
    refine zx_aload_n C 0 dX11_night_20 rfl rfl ?_
    refine zx_get C 18 (by decide) rfl rfl (by decide) inX11 q_670 rfl rfl dX11_night_21 ?_
    refine zx_icmp_lt (tgt := 34) C dX11_night_24 (by decide) (fun h_17 => ?_) (fun h_17 => ?_)
    · exact zx_sub (L1 := [(0, .ref (ad 0))]) [0] rfl (b_X11_night_34 C N rec12 hrec12 σ)
    · refine zx_aload_n C 0 dX11_night_27 rfl rfl ?_
      refine zx_get C 20 (by decide) rfl rfl (by decide) inX11 q_672 rfl rfl dX11_night_28 ?_
      refine zx_if_ne (tgt := 60) C dX11_night_31 (by decide) (fun h_18 => ?_) (fun h_18 => ?_)
      · exact zx_sub (L1 := [(0, .ref (ad 0)), (1, .int v1)]) [0, 1] rfl (b_X11_night_60 C N v1 σ)
      · exact zx_sub (L1 := [(0, .ref (ad 0))]) [0] rfl (b_X11_night_34 C N rec12 hrec12 σ)
def lf_X11_night_12 (N : Nat) : Nat → Int32 → zS → zA
  | 0, _, _ => none
  | n + 1, v1, σ => bf_X11_night_12 N (lf_X11_night_12 N  n) v1 σ
theorem l_X11_night_12 {G : zG} {dC : Nat → ClassId} {dI : Nat → Nat → Nat} {A : Nat → Prop} {ad : Nat → Nat} {cI cC cW : ClassId} (C : zC G dC dI A 16 ad (cfM ad cI) (z_ty cI cC cW) cX11_night RX11 3 3 (some .int)) (N : Nat) : ∀ (n : Nat) (v1 : Int32) (σ : zS), zW G dC dI A 16 ad (cfM ad cI) 3 true (lf_X11_night_12 N  n v1 σ) σ 12 [(0, .ref (ad 0)), (1, .int v1)] [] := by
  intro n
  induction n with
  | zero => intro v1 σ; exact zx_none
  | succ n ih => intro v1 σ; exact b_X11_night_12 C N (lf_X11_night_12 N  n) ih v1 σ
def f_X11_night (N : Nat) (σ : zS) : zA := z_m (z_put σ 0 19 (0 : Int32)) (fun t_19 => z_m (z_put t_19 0 20 (0 : Int32)) (fun t_20 => (lf_X11_night_12 N N (1 : Int32) t_20)))
set_option maxHeartbeats 4000000 in
set_option maxRecDepth 100000 in
theorem k_X11_night {l : Launch} {dC : Nat → ClassId} {dI : Nat → Nat → Nat} {A : Nat → Prop} {ad : Nat → Nat} {cI cC cW : ClassId} (hO : zO A 16 ad (cfM ad cI)) (N : Nat) (σ : zS) : zM l dC dI A 16 ad (cfM ad cI) (z_ty cI cC cW) true yX11_night cX11_night 3 (some .int) 3 [.ref (ad 0)] σ (f_X11_night N  σ) := by
  refine zM_of hO (by decide) (Nat.le_of_ble_eq_true rfl) (fun G hG C => ?_)
  subst hG
  unfold f_X11_night
  refine zx_sub (L1 := [(0, .ref (ad 0))]) [0] rfl ?_
  refine zx_aload_n C 0 dX11_night_0 rfl rfl ?_
  refine zx_iconst (v := 0) C dX11_night_1 (by decide) ?_
  refine zx_put (ty := .int) C 19 (by decide) rfl rfl (by decide) inX11 tyX11 tyX11_ok nmX11 q_671 rfl rfl (by decide +kernel) rfl rfl (Nat.le_of_ble_eq_true rfl) (by rfl) dX11_night_2 (fun t_19 => ?_)
  refine zx_aload_n C 0 dX11_night_5 rfl rfl ?_
  refine zx_iconst (v := 0) C dX11_night_6 (by decide) ?_
  refine zx_put (ty := .int) C 20 (by decide) rfl rfl (by decide) inX11 tyX11 tyX11_ok nmX11 q_672 rfl rfl (by decide +kernel) rfl rfl (Nat.le_of_ble_eq_true rfl) (by rfl) dX11_night_7 (fun t_20 => ?_)
  refine zx_iconst (v := 1) C dX11_night_10 (by decide) ?_
  refine zx_istore_n (L1 := [(1, .int (1 : Int32)), (0, .ref (ad 0))]) C dX11_night_11 rfl (by decide) rfl ?_
  exact zx_sub (L1 := [(0, .ref (ad 0)), (1, .int (1 : Int32))]) [1, 0] rfl (l_X11_night_12 C N N (1 : Int32) t_20)
def f_X11_image (N : Nat) (σ : zS) : zA := z_m (z_put σ 0 22 (1 : Int32)) (fun t_1 => z_b (f_X11_passesAll N (0 : Int32) (1 : Int32) t_1) (fun r_2 t_3 => some ((t_3 0 10), t_3)))
set_option maxHeartbeats 4000000 in
set_option maxRecDepth 100000 in
theorem k_X11_image {l : Launch} {dC : Nat → ClassId} {dI : Nat → Nat → Nat} {A : Nat → Prop} {ad : Nat → Nat} {cI cC cW : ClassId} (hO : zO A 16 ad (cfM ad cI)) (N : Nat) (σ : zS) : zM l dC dI A 16 ad (cfM ad cI) (z_ty cI cC cW) true yX11_image cX11_image 1 (some .int) 2 [.ref (ad 0)] σ (f_X11_image N  σ) := by
  refine zM_of hO (by decide) (Nat.le_of_ble_eq_true rfl) (fun G hG C => ?_)
  subst hG
  unfold f_X11_image
  refine zx_sub (L1 := [(0, .ref (ad 0))]) [0] rfl ?_
  refine zx_aload_n C 0 dX11_image_0 rfl rfl ?_
  refine zx_iconst (v := 1) C dX11_image_1 (by decide) ?_
  refine zx_put (ty := .boolean) C 22 (by decide) rfl rfl (by decide) inX11 tyX11 tyX11_ok nmX11 q_674 rfl rfl (by decide +kernel) (z_bo_n (by decide)) (z_bo_f (by decide)) (Nat.le_of_ble_eq_true rfl) (by rfl) dX11_image_2 (fun t_1 => ?_)
  refine zx_aload_n C 0 dX11_image_5 rfl rfl ?_
  refine zx_iconst (v := 0) C dX11_image_6 (by decide) ?_
  refine zx_iconst (v := 1) C dX11_image_7 (by decide) ?_
  refine zx_callV (As := [.int (0 : Int32), .int (1 : Int32)]) (st := []) C yk_X11_passesAll q_770 q_772 q_14 (by decide) rfl rfl (k_X11_passesAll C.hO N (0 : Int32) (1 : Int32) t_1) (by decide) rfl rfl (Nat.le_of_ble_eq_true rfl) dX11_image_8 (fun h9 => nomatch h9) (fun _ r_2 t_3 => ?_)
  refine zx_aload_n C 0 dX11_image_11 rfl rfl ?_
  refine zx_get C 10 (by decide) rfl rfl (by decide) inX11 q_662 rfl rfl dX11_image_12 ?_
  exact zx_iret C dX11_image_15
def f_X11_restore (N : Nat) (σ : zS) : zA := (if (σ 0 22) = (0 : Int32) then z_b (f_X11_no N (-3 : Int32) σ) (fun r_4 t_5 => some (r_4, t_5)) else z_b (f_X11_passesAll N (0 : Int32) (0 : Int32) σ) (fun r_2 t_3 => some ((t_3 0 10), t_3)))
set_option maxHeartbeats 4000000 in
set_option maxRecDepth 100000 in
theorem k_X11_restore {l : Launch} {dC : Nat → ClassId} {dI : Nat → Nat → Nat} {A : Nat → Prop} {ad : Nat → Nat} {cI cC cW : ClassId} (hO : zO A 16 ad (cfM ad cI)) (N : Nat) (σ : zS) : zM l dC dI A 16 ad (cfM ad cI) (z_ty cI cC cW) true yX11_restore cX11_restore 1 (some .int) 2 [.ref (ad 0)] σ (f_X11_restore N  σ) := by
  refine zM_of hO (by decide) (Nat.le_of_ble_eq_true rfl) (fun G hG C => ?_)
  subst hG
  unfold f_X11_restore
  refine zx_sub (L1 := [(0, .ref (ad 0))]) [0] rfl ?_
  refine zx_aload_n C 0 dX11_restore_0 rfl rfl ?_
  refine zx_get C 22 (by decide) rfl rfl (by decide) inX11 q_674 rfl rfl dX11_restore_1 ?_
  refine zx_if_ne (tgt := 14) C dX11_restore_4 (by decide) (fun h_1 => ?_) (fun h_1 => ?_)
  · refine zx_aload_n C 0 dX11_restore_14 rfl rfl ?_
    refine zx_iconst (v := 0) C dX11_restore_15 (by decide) ?_
    refine zx_iconst (v := 0) C dX11_restore_16 (by decide) ?_
    refine zx_callV (As := [.int (0 : Int32), .int (0 : Int32)]) (st := []) C yk_X11_passesAll q_770 q_772 q_14 (by decide) rfl rfl (k_X11_passesAll C.hO N (0 : Int32) (0 : Int32) σ) (by decide) rfl rfl (Nat.le_of_ble_eq_true rfl) dX11_restore_17 (fun h9 => nomatch h9) (fun _ r_2 t_3 => ?_)
    refine zx_aload_n C 0 dX11_restore_20 rfl rfl ?_
    refine zx_get C 10 (by decide) rfl rfl (by decide) inX11 q_662 rfl rfl dX11_restore_21 ?_
    exact zx_iret C dX11_restore_24
  · refine zx_aload_n C 0 dX11_restore_7 rfl rfl ?_
    refine zx_bipush (v := -3) C dX11_restore_8 (by decide) ?_
    refine zx_callV (As := [.int (-3 : Int32)]) (st := []) C yk_X11_no q_747 q_749 q_10 (by decide) rfl rfl (k_X11_no C.hO N (-3 : Int32) σ) (by decide) rfl rfl (Nat.le_of_ble_eq_true rfl) dX11_restore_10 (fun _ r_4 t_5 => ?_) (fun h9 => nomatch h9)
    exact zx_iret C dX11_restore_13
def bf_X11_burns_109 (N : Nat) (v2 : Int32) (v5 : Int32) (σ : zS) : zA := z_b (f_X11_least N v5 v2 σ) (fun r_1 t_2 => some (r_1, t_2))
set_option maxHeartbeats 4000000 in
set_option maxRecDepth 100000 in
theorem b_X11_burns_109 {G : zG} {dC : Nat → ClassId} {dI : Nat → Nat → Nat} {A : Nat → Prop} {ad : Nat → Nat} {cI cC cW : ClassId} (C : zC G dC dI A 16 ad (cfM ad cI) (z_ty cI cC cW) cX11_burns RX11 6 1 (some .int)) (N : Nat) (v2 : Int32) (v5 : Int32) (σ : zS) : zW G dC dI A 16 ad (cfM ad cI) 6 true (bf_X11_burns_109 N  v2 v5 σ) σ 109 [(2, .int v2), (5, .int v5)] [] := by
  unfold bf_X11_burns_109
  refine zx_iload C 1 dX11_burns_109 rfl ?_
  refine zx_iload_n C 0 dX11_burns_111 rfl rfl ?_
  refine zx_callS (av := [.int v5, .int v2]) (st := []) C yk_X11_least q_819 q_820 (k_X11_least C.hO N v5 v2 σ) (by decide) rfl rfl (Nat.le_of_ble_eq_true rfl) dX11_burns_112 (fun _ r_1 t_2 => ?_) (fun h9 => nomatch h9)
  exact zx_iret C dX11_burns_115
def bf_X11_burns_95 (N : Nat) (v2 : Int32) (u0 : Int32) (σ : zS) : zA := (bf_X11_burns_109 N v2 u0 σ)
set_option maxHeartbeats 4000000 in
set_option maxRecDepth 100000 in
theorem b_X11_burns_95 {G : zG} {dC : Nat → ClassId} {dI : Nat → Nat → Nat} {A : Nat → Prop} {ad : Nat → Nat} {cI cC cW : ClassId} (C : zC G dC dI A 16 ad (cfM ad cI) (z_ty cI cC cW) cX11_burns RX11 6 1 (some .int)) (N : Nat) (v2 : Int32) (u0 : Int32) (σ : zS) : zW G dC dI A 16 ad (cfM ad cI) 6 true (bf_X11_burns_95 N  v2 u0 σ) σ 95 [(2, .int v2)] [.int u0] := by
  unfold bf_X11_burns_95
  refine zx_istore (L1 := [(5, .int u0), (2, .int v2)]) C dX11_burns_95 (by decide) rfl ?_
  refine zx_goto (tgt := 109) C dX11_burns_97 (by decide) ?_
  exact zx_sub (L1 := [(2, .int v2), (5, .int u0)]) [1, 0] rfl (b_X11_burns_109 C N v2 u0 σ)
def f_X11_burns (N : Nat) (v0 : Int32) (v1 : Int32) (v2 : Int32) (v3 : Int32) (σ : zS) : zA := z_n ((3 : Int32) + (v3 / (3 : Int32))) (fun z_3 => (if v0 = (1 : Int32) then z_n (z_3 - (1 : Int32)) (fun z_5 => (bf_X11_burns_109 N v2 z_5 σ)) else (if v0 = (2 : Int32) then z_n ((2 : Int32) * z_3) (fun z_7 => (bf_X11_burns_109 N v2 z_7 σ)) else (if v0 = (3 : Int32) then z_n ((z_3 - (1 : Int32)) + v1) (fun z_9 => (bf_X11_burns_109 N v2 z_9 σ)) else (if v0 = (4 : Int32) then (if ((2 : Int32) * z_3) ≤ v1 then (bf_X11_burns_95 N v2 (1 : Int32) σ) else (bf_X11_burns_95 N v2 (((2 : Int32) * z_3) - v1) σ)) else (if v0 = (5 : Int32) then z_n (z_3 + v3) (fun z_13 => (bf_X11_burns_109 N v2 z_13 σ)) else (bf_X11_burns_109 N v2 z_3 σ)))))))
set_option maxHeartbeats 4000000 in
set_option maxRecDepth 100000 in
theorem k_X11_burns {l : Launch} {dC : Nat → ClassId} {dI : Nat → Nat → Nat} {A : Nat → Prop} {ad : Nat → Nat} {cI cC cW : ClassId} (hO : zO A 16 ad (cfM ad cI)) (N : Nat) (v0 : Int32) (v1 : Int32) (v2 : Int32) (v3 : Int32) (σ : zS) : zM l dC dI A 16 ad (cfM ad cI) (z_ty cI cC cW) true yX11_burns cX11_burns 6 (some .int) 1 [.int v0, .int v1, .int v2, .int v3] σ (f_X11_burns N v0 v1 v2 v3 σ) := by
  refine zM_of hO (by decide) (Nat.le_of_ble_eq_true rfl) (fun G hG C => ?_)
  subst hG
  unfold f_X11_burns
  refine zx_sub (L1 := [(0, .int v0), (1, .int v1), (2, .int v2), (3, .int v3)]) [0, 1, 2, 3] rfl ?_
  refine zx_iconst (v := 3) C dX11_burns_0 (by decide) ?_
  refine zx_iload_n C 3 dX11_burns_1 rfl rfl ?_
  refine zx_iconst (v := 3) C dX11_burns_2 (by decide) ?_
  refine zx_idiv C dX11_burns_3 (by decide) ?_
  refine zx_iadd C dX11_burns_4 ?_
  refine zx_n (fun z_3 => ?_)
  refine zx_istore (L1 := [(4, .int z_3), (0, .int v0), (1, .int v1), (2, .int v2), (3, .int v3)]) C dX11_burns_5 (by decide) rfl ?_
  refine zx_iload C 0 dX11_burns_7 rfl ?_
  refine zx_istore (L1 := [(5, .int z_3), (4, .int z_3), (0, .int v0), (1, .int v1), (2, .int v2), (3, .int v3)]) C dX11_burns_9 (by decide) rfl ?_
  refine zx_iload_n C 2 dX11_burns_11 rfl rfl ?_
  refine zx_ite (fun h_4 => ?_) (fun h_4 => ?_)
  · refine zx_tableIn (tgt := 48) C dX11_burns_12 (by rw [h_4] <;> decide) (by rw [h_4] <;> decide) (by rw [h_4] <;> rfl) (by decide) ?_
    refine zx_iload C 1 dX11_burns_48 rfl ?_
    refine zx_iconst (v := 1) C dX11_burns_50 (by decide) ?_
    refine zx_isub C dX11_burns_51 ?_
    refine zx_n (fun z_5 => ?_)
    refine zx_istore (L1 := [(5, .int z_5), (4, .int z_3), (0, .int v0), (1, .int v1), (2, .int v2), (3, .int v3)]) C dX11_burns_52 (by decide) rfl ?_
    refine zx_goto (tgt := 109) C dX11_burns_54 (by decide) ?_
    exact zx_sub (L1 := [(2, .int v2), (5, .int z_5)]) [4, 0] rfl (b_X11_burns_109 C N v2 z_5 σ)
  · refine zx_ite (fun h_6 => ?_) (fun h_6 => ?_)
    · refine zx_tableIn (tgt := 57) C dX11_burns_12 (by rw [h_6] <;> decide) (by rw [h_6] <;> decide) (by rw [h_6] <;> rfl) (by decide) ?_
      refine zx_iconst (v := 2) C dX11_burns_57 (by decide) ?_
      refine zx_iload C 1 dX11_burns_58 rfl ?_
      refine zx_imul C dX11_burns_60 ?_
      refine zx_n (fun z_7 => ?_)
      refine zx_istore (L1 := [(5, .int z_7), (4, .int z_3), (0, .int v0), (1, .int v1), (2, .int v2), (3, .int v3)]) C dX11_burns_61 (by decide) rfl ?_
      refine zx_goto (tgt := 109) C dX11_burns_63 (by decide) ?_
      exact zx_sub (L1 := [(2, .int v2), (5, .int z_7)]) [4, 0] rfl (b_X11_burns_109 C N v2 z_7 σ)
    · refine zx_ite (fun h_8 => ?_) (fun h_8 => ?_)
      · refine zx_tableIn (tgt := 66) C dX11_burns_12 (by rw [h_8] <;> decide) (by rw [h_8] <;> decide) (by rw [h_8] <;> rfl) (by decide) ?_
        refine zx_iload C 1 dX11_burns_66 rfl ?_
        refine zx_iconst (v := 1) C dX11_burns_68 (by decide) ?_
        refine zx_isub C dX11_burns_69 ?_
        refine zx_iload_n C 3 dX11_burns_70 rfl rfl ?_
        refine zx_iadd C dX11_burns_71 ?_
        refine zx_n (fun z_9 => ?_)
        refine zx_istore (L1 := [(5, .int z_9), (4, .int z_3), (0, .int v0), (1, .int v1), (2, .int v2), (3, .int v3)]) C dX11_burns_72 (by decide) rfl ?_
        refine zx_goto (tgt := 109) C dX11_burns_74 (by decide) ?_
        exact zx_sub (L1 := [(2, .int v2), (5, .int z_9)]) [4, 0] rfl (b_X11_burns_109 C N v2 z_9 σ)
      · refine zx_ite (fun h_10 => ?_) (fun h_10 => ?_)
        · refine zx_tableIn (tgt := 77) C dX11_burns_12 (by rw [h_10] <;> decide) (by rw [h_10] <;> decide) (by rw [h_10] <;> rfl) (by decide) ?_
          refine zx_iconst (v := 2) C dX11_burns_77 (by decide) ?_
          refine zx_iload C 1 dX11_burns_78 rfl ?_
          refine zx_imul C dX11_burns_80 ?_
          refine zx_iload_n C 3 dX11_burns_81 rfl rfl ?_
          refine zx_icmp_le (tgt := 94) C dX11_burns_82 (by decide) (fun h_11 => ?_) (fun h_11 => ?_)
          · refine zx_iconst (v := 1) C dX11_burns_94 (by decide) ?_
            exact zx_sub (L1 := [(2, .int v2)]) [4] rfl (b_X11_burns_95 C N v2 (1 : Int32) σ)
          · refine zx_iconst (v := 2) C dX11_burns_85 (by decide) ?_
            refine zx_iload C 1 dX11_burns_86 rfl ?_
            refine zx_imul C dX11_burns_88 ?_
            refine zx_iload_n C 3 dX11_burns_89 rfl rfl ?_
            refine zx_isub C dX11_burns_90 ?_
            refine zx_goto (tgt := 95) C dX11_burns_91 (by decide) ?_
            exact zx_sub (L1 := [(2, .int v2)]) [4] rfl (b_X11_burns_95 C N v2 (((2 : Int32) * z_3) - v1) σ)
        · refine zx_ite (fun h_12 => ?_) (fun h_12 => ?_)
          · refine zx_tableIn (tgt := 100) C dX11_burns_12 (by rw [h_12] <;> decide) (by rw [h_12] <;> decide) (by rw [h_12] <;> rfl) (by decide) ?_
            refine zx_iload C 1 dX11_burns_100 rfl ?_
            refine zx_iload_n C 5 dX11_burns_102 rfl rfl ?_
            refine zx_iadd C dX11_burns_103 ?_
            refine zx_n (fun z_13 => ?_)
            refine zx_istore (L1 := [(5, .int z_13), (4, .int z_3), (0, .int v0), (1, .int v1), (2, .int v2), (3, .int v3)]) C dX11_burns_104 (by decide) rfl ?_
            refine zx_goto (tgt := 109) C dX11_burns_106 (by decide) ?_
            exact zx_sub (L1 := [(2, .int v2), (5, .int z_13)]) [4, 0] rfl (b_X11_burns_109 C N v2 z_13 σ)
          · refine zx_tableOut (tgt := 109) C dX11_burns_12 (z_out (fun c h1 h2 hx => by rcases (show c = 1 ∨ c = 2 ∨ c = 3 ∨ c = 4 ∨ c = 5 by omega) with rfl | rfl | rfl | rfl | rfl <;> first | exact h_4 hx | exact h_6 hx | exact h_8 hx | exact h_10 hx | exact h_12 hx)) (by decide) ?_
            exact zx_sub (L1 := [(2, .int v2), (5, .int z_3)]) [4, 0] rfl (b_X11_burns_109 C N v2 z_3 σ)
def f_X11_drips (N : Nat) (v0 : Int32) (v1 : Int32) (v2 : Int32) (v3 : Int32) (σ : zS) : zA := z_n ((v3 * v2) / (20 : Int32)) (fun z_1 => (if v0 = (1 : Int32) then some ((0 : Int32), σ) else (if v0 = (2 : Int32) then some ((v2 / (2 : Int32)), σ) else (if v0 = (3 : Int32) then some ((0 : Int32), σ) else (if v0 = (4 : Int32) then (if (v2 / (2 : Int32)) ≤ v1 then some ((0 : Int32), σ) else some (((v2 / (2 : Int32)) - v1), σ)) else (if v0 = (5 : Int32) then z_b (f_X11_least N v2 ((2 : Int32) * z_1) σ) (fun r_8 t_9 => some (r_8, t_9)) else some (z_1, σ)))))))
set_option maxHeartbeats 4000000 in
set_option maxRecDepth 100000 in
theorem k_X11_drips {l : Launch} {dC : Nat → ClassId} {dI : Nat → Nat → Nat} {A : Nat → Prop} {ad : Nat → Nat} {cI cC cW : ClassId} (hO : zO A 16 ad (cfM ad cI)) (N : Nat) (v0 : Int32) (v1 : Int32) (v2 : Int32) (v3 : Int32) (σ : zS) : zM l dC dI A 16 ad (cfM ad cI) (z_ty cI cC cW) true yX11_drips cX11_drips 5 (some .int) 1 [.int v0, .int v1, .int v2, .int v3] σ (f_X11_drips N v0 v1 v2 v3 σ) := by
  refine zM_of hO (by decide) (Nat.le_of_ble_eq_true rfl) (fun G hG C => ?_)
  subst hG
  unfold f_X11_drips
  refine zx_sub (L1 := [(0, .int v0), (1, .int v1), (2, .int v2), (3, .int v3)]) [0, 1, 2, 3] rfl ?_
  refine zx_iload_n C 3 dX11_drips_0 rfl rfl ?_
  refine zx_iload_n C 2 dX11_drips_1 rfl rfl ?_
  refine zx_imul C dX11_drips_2 ?_
  refine zx_bipush (v := 20) C dX11_drips_3 (by decide) ?_
  refine zx_idiv C dX11_drips_5 (by decide) ?_
  refine zx_n (fun z_1 => ?_)
  refine zx_istore (L1 := [(4, .int z_1), (0, .int v0), (1, .int v1), (2, .int v2), (3, .int v3)]) C dX11_drips_6 (by decide) rfl ?_
  refine zx_iload_n C 1 dX11_drips_8 rfl rfl ?_
  refine zx_ite (fun h_2 => ?_) (fun h_2 => ?_)
  · refine zx_tableIn (tgt := 44) C dX11_drips_9 (by rw [h_2] <;> decide) (by rw [h_2] <;> decide) (by rw [h_2] <;> rfl) (by decide) ?_
    refine zx_iconst (v := 0) C dX11_drips_44 (by decide) ?_
    exact zx_iret C dX11_drips_45
  · refine zx_ite (fun h_3 => ?_) (fun h_3 => ?_)
    · refine zx_tableIn (tgt := 46) C dX11_drips_9 (by rw [h_3] <;> decide) (by rw [h_3] <;> decide) (by rw [h_3] <;> rfl) (by decide) ?_
      refine zx_iload_n C 3 dX11_drips_46 rfl rfl ?_
      refine zx_iconst (v := 2) C dX11_drips_47 (by decide) ?_
      refine zx_idiv C dX11_drips_48 (by decide) ?_
      exact zx_iret C dX11_drips_49
    · refine zx_ite (fun h_4 => ?_) (fun h_4 => ?_)
      · refine zx_tableIn (tgt := 44) C dX11_drips_9 (by rw [h_4] <;> decide) (by rw [h_4] <;> decide) (by rw [h_4] <;> rfl) (by decide) ?_
        refine zx_iconst (v := 0) C dX11_drips_44 (by decide) ?_
        exact zx_iret C dX11_drips_45
      · refine zx_ite (fun h_5 => ?_) (fun h_5 => ?_)
        · refine zx_tableIn (tgt := 50) C dX11_drips_9 (by rw [h_5] <;> decide) (by rw [h_5] <;> decide) (by rw [h_5] <;> rfl) (by decide) ?_
          refine zx_iload_n C 3 dX11_drips_50 rfl rfl ?_
          refine zx_iconst (v := 2) C dX11_drips_51 (by decide) ?_
          refine zx_idiv C dX11_drips_52 (by decide) ?_
          refine zx_iload_n C 2 dX11_drips_53 rfl rfl ?_
          refine zx_icmp_le (tgt := 65) C dX11_drips_54 (by decide) (fun h_6 => ?_) (fun h_6 => ?_)
          · refine zx_iconst (v := 0) C dX11_drips_65 (by decide) ?_
            exact zx_iret C dX11_drips_66
          · refine zx_iload_n C 3 dX11_drips_57 rfl rfl ?_
            refine zx_iconst (v := 2) C dX11_drips_58 (by decide) ?_
            refine zx_idiv C dX11_drips_59 (by decide) ?_
            refine zx_iload_n C 2 dX11_drips_60 rfl rfl ?_
            refine zx_isub C dX11_drips_61 ?_
            refine zx_goto (tgt := 66) C dX11_drips_62 (by decide) ?_
            exact zx_iret C dX11_drips_66
        · refine zx_ite (fun h_7 => ?_) (fun h_7 => ?_)
          · refine zx_tableIn (tgt := 67) C dX11_drips_9 (by rw [h_7] <;> decide) (by rw [h_7] <;> decide) (by rw [h_7] <;> rfl) (by decide) ?_
            refine zx_iload_n C 3 dX11_drips_67 rfl rfl ?_
            refine zx_iconst (v := 2) C dX11_drips_68 (by decide) ?_
            refine zx_iload C 0 dX11_drips_69 rfl ?_
            refine zx_imul C dX11_drips_71 ?_
            refine zx_callS (av := [.int v2, .int ((2 : Int32) * z_1)]) (st := []) C yk_X11_least q_819 q_820 (k_X11_least C.hO N v2 ((2 : Int32) * z_1) σ) (by decide) rfl rfl (Nat.le_of_ble_eq_true rfl) dX11_drips_72 (fun _ r_8 t_9 => ?_) (fun h9 => nomatch h9)
            exact zx_iret C dX11_drips_75
          · refine zx_tableOut (tgt := 76) C dX11_drips_9 (z_out (fun c h1 h2 hx => by rcases (show c = 1 ∨ c = 2 ∨ c = 3 ∨ c = 4 ∨ c = 5 by omega) with rfl | rfl | rfl | rfl | rfl <;> first | exact h_2 hx | exact h_3 hx | exact h_4 hx | exact h_5 hx | exact h_7 hx)) (by decide) ?_
            refine zx_iload C 0 dX11_drips_76 rfl ?_
            exact zx_iret C dX11_drips_78
def bf_X11_counts_26 (N : Nat) (v1 : Int32) (σ : zS) : zA := some ((v1 / (2 : Int32)), σ)
set_option maxHeartbeats 4000000 in
set_option maxRecDepth 100000 in
theorem b_X11_counts_26 {G : zG} {dC : Nat → ClassId} {dI : Nat → Nat → Nat} {A : Nat → Prop} {ad : Nat → Nat} {cI cC cW : ClassId} (C : zC G dC dI A 16 ad (cfM ad cI) (z_ty cI cC cW) cX11_counts RX11 2 0 (some .int)) (N : Nat) (v1 : Int32) (σ : zS) : zW G dC dI A 16 ad (cfM ad cI) 2 true (bf_X11_counts_26 N  v1 σ) σ 26 [(1, .int v1)] [] := by
  unfold bf_X11_counts_26
  refine zx_iload_n C 0 dX11_counts_26 rfl rfl ?_
  refine zx_iconst (v := 2) C dX11_counts_27 (by decide) ?_
  refine zx_idiv C dX11_counts_28 (by decide) ?_
  refine zx_goto (tgt := 33) C dX11_counts_29 (by decide) ?_
  exact zx_iret C dX11_counts_33
def bf_X11_counts_10 (N : Nat) (v1 : Int32) (σ : zS) : zA := some (((2 : Int32) * v1), σ)
set_option maxHeartbeats 4000000 in
set_option maxRecDepth 100000 in
theorem b_X11_counts_10 {G : zG} {dC : Nat → ClassId} {dI : Nat → Nat → Nat} {A : Nat → Prop} {ad : Nat → Nat} {cI cC cW : ClassId} (C : zC G dC dI A 16 ad (cfM ad cI) (z_ty cI cC cW) cX11_counts RX11 2 0 (some .int)) (N : Nat) (v1 : Int32) (σ : zS) : zW G dC dI A 16 ad (cfM ad cI) 2 true (bf_X11_counts_10 N  v1 σ) σ 10 [(1, .int v1)] [] := by
  unfold bf_X11_counts_10
  refine zx_iconst (v := 2) C dX11_counts_10 (by decide) ?_
  refine zx_iload_n C 0 dX11_counts_11 rfl rfl ?_
  refine zx_imul C dX11_counts_12 ?_
  refine zx_goto (tgt := 33) C dX11_counts_13 (by decide) ?_
  exact zx_iret C dX11_counts_33
def f_X11_counts (N : Nat) (v0 : Int32) (v1 : Int32) (σ : zS) : zA := (if v0 = (1 : Int32) then (bf_X11_counts_10 N v1 σ) else (if v0 = (3 : Int32) then (bf_X11_counts_10 N v1 σ) else (if v0 = (2 : Int32) then (bf_X11_counts_26 N v1 σ) else (if v0 = (4 : Int32) then (bf_X11_counts_26 N v1 σ) else some (v1, σ)))))
set_option maxHeartbeats 4000000 in
set_option maxRecDepth 100000 in
theorem k_X11_counts {l : Launch} {dC : Nat → ClassId} {dI : Nat → Nat → Nat} {A : Nat → Prop} {ad : Nat → Nat} {cI cC cW : ClassId} (hO : zO A 16 ad (cfM ad cI)) (N : Nat) (v0 : Int32) (v1 : Int32) (σ : zS) : zM l dC dI A 16 ad (cfM ad cI) (z_ty cI cC cW) true yX11_counts cX11_counts 2 (some .int) 0 [.int v0, .int v1] σ (f_X11_counts N v0 v1 σ) := by
  refine zM_of hO (by decide) (Nat.le_of_ble_eq_true rfl) (fun G hG C => ?_)
  subst hG
  unfold f_X11_counts
  refine zx_sub (L1 := [(0, .int v0), (1, .int v1)]) [0, 1] rfl ?_
  refine zx_iload_n C 0 dX11_counts_0 rfl rfl ?_
  refine zx_iconst (v := 1) C dX11_counts_1 (by decide) ?_
  refine zx_icmp_eq (tgt := 10) C dX11_counts_2 (by decide) (fun h_1 => ?_) (fun h_1 => ?_)
  · exact zx_sub (L1 := [(1, .int v1)]) [1] rfl (b_X11_counts_10 C N v1 σ)
  · refine zx_iload_n C 0 dX11_counts_5 rfl rfl ?_
    refine zx_iconst (v := 3) C dX11_counts_6 (by decide) ?_
    refine zx_icmp_ne (tgt := 16) C dX11_counts_7 (by decide) (fun h_2 => ?_) (fun h_2 => ?_)
    · refine zx_iload_n C 0 dX11_counts_16 rfl rfl ?_
      refine zx_iconst (v := 2) C dX11_counts_17 (by decide) ?_
      refine zx_icmp_eq (tgt := 26) C dX11_counts_18 (by decide) (fun h_3 => ?_) (fun h_3 => ?_)
      · exact zx_sub (L1 := [(1, .int v1)]) [1] rfl (b_X11_counts_26 C N v1 σ)
      · refine zx_iload_n C 0 dX11_counts_21 rfl rfl ?_
        refine zx_iconst (v := 4) C dX11_counts_22 (by decide) ?_
        refine zx_icmp_ne (tgt := 32) C dX11_counts_23 (by decide) (fun h_4 => ?_) (fun h_4 => ?_)
        · refine zx_iload_n C 1 dX11_counts_32 rfl rfl ?_
          exact zx_iret C dX11_counts_33
        · exact zx_sub (L1 := [(1, .int v1)]) [1] rfl (b_X11_counts_26 C N v1 σ)
    · exact zx_sub (L1 := [(1, .int v1)]) [1] rfl (b_X11_counts_10 C N v1 σ)
def f_X11_burnsOf (N : Nat) (v1 : Int32) (σ : zS) : zA := z_g (z_in v1 6) (z_g (z_in v1 6) (z_g (z_in v1 6) (z_g (z_in v1 6) (z_g (z_in (σ 5 v1.toNatClampNeg) 4) (z_b (f_X11_burns N (σ 1 v1.toNatClampNeg) (σ 2 v1.toNatClampNeg) (σ 3 v1.toNatClampNeg) (σ 7 (σ 5 v1.toNatClampNeg).toNatClampNeg) σ) (fun r_1 t_2 => some (r_1, t_2)))))))
set_option maxHeartbeats 4000000 in
set_option maxRecDepth 100000 in
theorem k_X11_burnsOf {l : Launch} {dC : Nat → ClassId} {dI : Nat → Nat → Nat} {A : Nat → Prop} {ad : Nat → Nat} {cI cC cW : ClassId} (hO : zO A 16 ad (cfM ad cI)) (N : Nat) (v1 : Int32) (σ : zS) : zM l dC dI A 16 ad (cfM ad cI) (z_ty cI cC cW) true yX11_burnsOf cX11_burnsOf 2 (some .int) 2 [.ref (ad 0), .int v1] σ (f_X11_burnsOf N v1 σ) := by
  refine zM_of hO (by decide) (Nat.le_of_ble_eq_true rfl) (fun G hG C => ?_)
  subst hG
  unfold f_X11_burnsOf
  refine zx_sub (L1 := [(0, .ref (ad 0)), (1, .int v1)]) [0, 1] rfl ?_
  refine zx_aload_n C 0 dX11_burnsOf_0 rfl rfl ?_
  refine zx_get C 1 (by decide) rfl rfl (by decide) inX11 q_653 rfl rfl dX11_burnsOf_1 ?_
  refine zx_iload_n C 1 dX11_burnsOf_4 rfl rfl ?_
  refine zx_iald C 0 (by decide) rfl rfl dX11_burnsOf_5 ?_
  refine zx_aload_n C 0 dX11_burnsOf_6 rfl rfl ?_
  refine zx_get C 2 (by decide) rfl rfl (by decide) inX11 q_654 rfl rfl dX11_burnsOf_7 ?_
  refine zx_iload_n C 1 dX11_burnsOf_10 rfl rfl ?_
  refine zx_iald C 0 (by decide) rfl rfl dX11_burnsOf_11 ?_
  refine zx_aload_n C 0 dX11_burnsOf_12 rfl rfl ?_
  refine zx_get C 3 (by decide) rfl rfl (by decide) inX11 q_655 rfl rfl dX11_burnsOf_13 ?_
  refine zx_iload_n C 1 dX11_burnsOf_16 rfl rfl ?_
  refine zx_iald C 0 (by decide) rfl rfl dX11_burnsOf_17 ?_
  refine zx_aload_n C 0 dX11_burnsOf_18 rfl rfl ?_
  refine zx_get C 7 (by decide) rfl rfl (by decide) inX11 q_659 rfl rfl dX11_burnsOf_19 ?_
  refine zx_aload_n C 0 dX11_burnsOf_22 rfl rfl ?_
  refine zx_get C 5 (by decide) rfl rfl (by decide) inX11 q_657 rfl rfl dX11_burnsOf_23 ?_
  refine zx_iload_n C 1 dX11_burnsOf_26 rfl rfl ?_
  refine zx_iald C 0 (by decide) rfl rfl dX11_burnsOf_27 ?_
  refine zx_iald C 0 (by decide) rfl rfl dX11_burnsOf_28 ?_
  refine zx_callS (av := [.int (σ 1 v1.toNatClampNeg), .int (σ 2 v1.toNatClampNeg), .int (σ 3 v1.toNatClampNeg), .int (σ 7 (σ 5 v1.toNatClampNeg).toNatClampNeg)]) (st := []) C yk_X11_burns q_816 q_817 (k_X11_burns C.hO N (σ 1 v1.toNatClampNeg) (σ 2 v1.toNatClampNeg) (σ 3 v1.toNatClampNeg) (σ 7 (σ 5 v1.toNatClampNeg).toNatClampNeg) σ) (by decide) rfl rfl (Nat.le_of_ble_eq_true rfl) dX11_burnsOf_29 (fun _ r_1 t_2 => ?_) (fun h9 => nomatch h9)
  exact zx_iret C dX11_burnsOf_32
def f_X11_dripsOf (N : Nat) (v1 : Int32) (σ : zS) : zA := z_g (z_in v1 6) (z_g (z_in v1 6) (z_b (f_X11_burnsOf N v1 σ) (fun r_1 t_2 => z_g (z_in v1 6) (z_g (z_in (t_2 5 v1.toNatClampNeg) 4) (z_b (f_X11_drips N (σ 1 v1.toNatClampNeg) (σ 2 v1.toNatClampNeg) r_1 (t_2 7 (t_2 5 v1.toNatClampNeg).toNatClampNeg) t_2) (fun r_3 t_4 => some (r_3, t_4)))))))
set_option maxHeartbeats 4000000 in
set_option maxRecDepth 100000 in
theorem k_X11_dripsOf {l : Launch} {dC : Nat → ClassId} {dI : Nat → Nat → Nat} {A : Nat → Prop} {ad : Nat → Nat} {cI cC cW : ClassId} (hO : zO A 16 ad (cfM ad cI)) (N : Nat) (v1 : Int32) (σ : zS) : zM l dC dI A 16 ad (cfM ad cI) (z_ty cI cC cW) true yX11_dripsOf cX11_dripsOf 2 (some .int) 3 [.ref (ad 0), .int v1] σ (f_X11_dripsOf N v1 σ) := by
  refine zM_of hO (by decide) (Nat.le_of_ble_eq_true rfl) (fun G hG C => ?_)
  subst hG
  unfold f_X11_dripsOf
  refine zx_sub (L1 := [(0, .ref (ad 0)), (1, .int v1)]) [0, 1] rfl ?_
  refine zx_aload_n C 0 dX11_dripsOf_0 rfl rfl ?_
  refine zx_get C 1 (by decide) rfl rfl (by decide) inX11 q_653 rfl rfl dX11_dripsOf_1 ?_
  refine zx_iload_n C 1 dX11_dripsOf_4 rfl rfl ?_
  refine zx_iald C 0 (by decide) rfl rfl dX11_dripsOf_5 ?_
  refine zx_aload_n C 0 dX11_dripsOf_6 rfl rfl ?_
  refine zx_get C 2 (by decide) rfl rfl (by decide) inX11 q_654 rfl rfl dX11_dripsOf_7 ?_
  refine zx_iload_n C 1 dX11_dripsOf_10 rfl rfl ?_
  refine zx_iald C 0 (by decide) rfl rfl dX11_dripsOf_11 ?_
  refine zx_aload_n C 0 dX11_dripsOf_12 rfl rfl ?_
  refine zx_iload_n C 1 dX11_dripsOf_13 rfl rfl ?_
  refine zx_callV (As := [.int v1]) (st := [.int (σ 2 v1.toNatClampNeg), .int (σ 1 v1.toNatClampNeg)]) C yk_X11_burnsOf q_812 q_814 q_20 (by decide) rfl rfl (k_X11_burnsOf C.hO N v1 σ) (by decide) rfl rfl (Nat.le_of_ble_eq_true rfl) dX11_dripsOf_14 (fun _ r_1 t_2 => ?_) (fun h9 => nomatch h9)
  refine zx_aload_n C 0 dX11_dripsOf_17 rfl rfl ?_
  refine zx_get C 7 (by decide) rfl rfl (by decide) inX11 q_659 rfl rfl dX11_dripsOf_18 ?_
  refine zx_aload_n C 0 dX11_dripsOf_21 rfl rfl ?_
  refine zx_get C 5 (by decide) rfl rfl (by decide) inX11 q_657 rfl rfl dX11_dripsOf_22 ?_
  refine zx_iload_n C 1 dX11_dripsOf_25 rfl rfl ?_
  refine zx_iald C 0 (by decide) rfl rfl dX11_dripsOf_26 ?_
  refine zx_iald C 0 (by decide) rfl rfl dX11_dripsOf_27 ?_
  refine zx_callS (av := [.int (σ 1 v1.toNatClampNeg), .int (σ 2 v1.toNatClampNeg), .int r_1, .int (t_2 7 (t_2 5 v1.toNatClampNeg).toNatClampNeg)]) (st := []) C yk_X11_drips q_826 q_827 (k_X11_drips C.hO N (σ 1 v1.toNatClampNeg) (σ 2 v1.toNatClampNeg) r_1 (t_2 7 (t_2 5 v1.toNatClampNeg).toNatClampNeg) t_2) (by decide) rfl rfl (Nat.le_of_ble_eq_true rfl) dX11_dripsOf_28 (fun _ r_3 t_4 => ?_) (fun h9 => nomatch h9)
  exact zx_iret C dX11_dripsOf_31
def f_X11_countsOf (N : Nat) (v1 : Int32) (σ : zS) : zA := z_g (z_in v1 6) (z_b (f_X11_burnsOf N v1 σ) (fun r_1 t_2 => z_b (f_X11_dripsOf N v1 t_2) (fun r_3 t_4 => z_b (f_X11_counts N (σ 1 v1.toNatClampNeg) (r_1 - r_3) t_4) (fun r_5 t_6 => some (r_5, t_6)))))
set_option maxHeartbeats 4000000 in
set_option maxRecDepth 100000 in
theorem k_X11_countsOf {l : Launch} {dC : Nat → ClassId} {dI : Nat → Nat → Nat} {A : Nat → Prop} {ad : Nat → Nat} {cI cC cW : ClassId} (hO : zO A 16 ad (cfM ad cI)) (N : Nat) (v1 : Int32) (σ : zS) : zM l dC dI A 16 ad (cfM ad cI) (z_ty cI cC cW) true yX11_countsOf cX11_countsOf 2 (some .int) 4 [.ref (ad 0), .int v1] σ (f_X11_countsOf N v1 σ) := by
  refine zM_of hO (by decide) (Nat.le_of_ble_eq_true rfl) (fun G hG C => ?_)
  subst hG
  unfold f_X11_countsOf
  refine zx_sub (L1 := [(0, .ref (ad 0)), (1, .int v1)]) [0, 1] rfl ?_
  refine zx_aload_n C 0 dX11_countsOf_0 rfl rfl ?_
  refine zx_get C 1 (by decide) rfl rfl (by decide) inX11 q_653 rfl rfl dX11_countsOf_1 ?_
  refine zx_iload_n C 1 dX11_countsOf_4 rfl rfl ?_
  refine zx_iald C 0 (by decide) rfl rfl dX11_countsOf_5 ?_
  refine zx_aload_n C 0 dX11_countsOf_6 rfl rfl ?_
  refine zx_iload_n C 1 dX11_countsOf_7 rfl rfl ?_
  refine zx_callV (As := [.int v1]) (st := [.int (σ 1 v1.toNatClampNeg)]) C yk_X11_burnsOf q_812 q_814 q_20 (by decide) rfl rfl (k_X11_burnsOf C.hO N v1 σ) (by decide) rfl rfl (Nat.le_of_ble_eq_true rfl) dX11_countsOf_8 (fun _ r_1 t_2 => ?_) (fun h9 => nomatch h9)
  refine zx_aload_n C 0 dX11_countsOf_11 rfl rfl ?_
  refine zx_iload_n C 1 dX11_countsOf_12 rfl rfl ?_
  refine zx_callV (As := [.int v1]) (st := [.int r_1, .int (σ 1 v1.toNatClampNeg)]) C yk_X11_dripsOf q_822 q_824 q_21 (by decide) rfl rfl (k_X11_dripsOf C.hO N v1 t_2) (by decide) rfl rfl (Nat.le_of_ble_eq_true rfl) dX11_countsOf_13 (fun _ r_3 t_4 => ?_) (fun h9 => nomatch h9)
  refine zx_isub C dX11_countsOf_16 ?_
  refine zx_callS (av := [.int (σ 1 v1.toNatClampNeg), .int (r_1 - r_3)]) (st := []) C yk_X11_counts q_833 q_834 (k_X11_counts C.hO N (σ 1 v1.toNatClampNeg) (r_1 - r_3) t_4) (by decide) rfl rfl (Nat.le_of_ble_eq_true rfl) dX11_countsOf_17 (fun _ r_5 t_6 => ?_) (fun h9 => nomatch h9)
  exact zx_iret C dX11_countsOf_20
def f_X11_candle (N : Nat) (v1 : Int32) (v2 : Int32) (σ : zS) : zA := z_b (f_X11_isCandle N v1 σ) (fun r_1 t_2 => (if r_1 = (0 : Int32) then z_b (f_X11_no N (-1 : Int32) t_2) (fun r_21 t_22 => some (r_21, t_22)) else (if v2 = (0 : Int32) then z_g (z_in v1 6) (some ((t_2 1 v1.toNatClampNeg), t_2)) else (if v2 = (1 : Int32) then z_g (z_in v1 6) (some ((t_2 2 v1.toNatClampNeg), t_2)) else (if v2 = (2 : Int32) then z_g (z_in v1 6) (some ((t_2 3 v1.toNatClampNeg), t_2)) else (if v2 = (3 : Int32) then z_g (z_in v1 6) (some ((t_2 4 v1.toNatClampNeg), t_2)) else (if v2 = (4 : Int32) then z_g (z_in v1 6) (some ((t_2 5 v1.toNatClampNeg), t_2)) else (if v2 = (5 : Int32) then z_g (z_in v1 6) (some ((t_2 6 v1.toNatClampNeg), t_2)) else (if v2 = (6 : Int32) then z_b (f_X11_burnsOf N v1 t_2) (fun r_11 t_12 => some (r_11, t_12)) else (if v2 = (7 : Int32) then z_b (f_X11_dripsOf N v1 t_2) (fun r_14 t_15 => some (r_14, t_15)) else (if v2 = (8 : Int32) then z_b (f_X11_countsOf N v1 t_2) (fun r_17 t_18 => some (r_17, t_18)) else z_b (f_X11_no N (-2 : Int32) t_2) (fun r_19 t_20 => some (r_19, t_20)))))))))))))
set_option maxHeartbeats 4000000 in
set_option maxRecDepth 100000 in
theorem k_X11_candle {l : Launch} {dC : Nat → ClassId} {dI : Nat → Nat → Nat} {A : Nat → Prop} {ad : Nat → Nat} {cI cC cW : ClassId} (hO : zO A 16 ad (cfM ad cI)) (N : Nat) (v1 : Int32) (v2 : Int32) (σ : zS) : zM l dC dI A 16 ad (cfM ad cI) (z_ty cI cC cW) true yX11_candle cX11_candle 3 (some .int) 5 [.ref (ad 0), .int v1, .int v2] σ (f_X11_candle N v1 v2 σ) := by
  refine zM_of hO (by decide) (Nat.le_of_ble_eq_true rfl) (fun G hG C => ?_)
  subst hG
  unfold f_X11_candle
  refine zx_sub (L1 := [(0, .ref (ad 0)), (1, .int v1), (2, .int v2)]) [0, 1, 2] rfl ?_
  refine zx_aload_n C 0 dX11_candle_0 rfl rfl ?_
  refine zx_iload_n C 1 dX11_candle_1 rfl rfl ?_
  refine zx_callV (As := [.int v1]) (st := []) C yk_X11_isCandle q_796 q_798 q_19 (by decide) rfl rfl (k_X11_isCandle C.hO N v1 σ) (by decide) rfl rfl (Nat.le_of_ble_eq_true rfl) dX11_candle_2 (fun _ r_1 t_2 => ?_) (fun h9 => nomatch h9)
  refine zx_if_ne (tgt := 14) C dX11_candle_5 (by decide) (fun h_3 => ?_) (fun h_3 => ?_)
  · refine zx_iload_n C 2 dX11_candle_14 rfl rfl ?_
    refine zx_ite (fun h_4 => ?_) (fun h_4 => ?_)
    · refine zx_tableIn (tgt := 64) C dX11_candle_15 (by rw [h_4] <;> decide) (by rw [h_4] <;> decide) (by rw [h_4] <;> rfl) (by decide) ?_
      refine zx_aload_n C 0 dX11_candle_64 rfl rfl ?_
      refine zx_get C 1 (by decide) rfl rfl (by decide) inX11 q_653 rfl rfl dX11_candle_65 ?_
      refine zx_iload_n C 1 dX11_candle_68 rfl rfl ?_
      refine zx_iald C 0 (by decide) rfl rfl dX11_candle_69 ?_
      exact zx_iret C dX11_candle_70
    · refine zx_ite (fun h_5 => ?_) (fun h_5 => ?_)
      · refine zx_tableIn (tgt := 71) C dX11_candle_15 (by rw [h_5] <;> decide) (by rw [h_5] <;> decide) (by rw [h_5] <;> rfl) (by decide) ?_
        refine zx_aload_n C 0 dX11_candle_71 rfl rfl ?_
        refine zx_get C 2 (by decide) rfl rfl (by decide) inX11 q_654 rfl rfl dX11_candle_72 ?_
        refine zx_iload_n C 1 dX11_candle_75 rfl rfl ?_
        refine zx_iald C 0 (by decide) rfl rfl dX11_candle_76 ?_
        exact zx_iret C dX11_candle_77
      · refine zx_ite (fun h_6 => ?_) (fun h_6 => ?_)
        · refine zx_tableIn (tgt := 78) C dX11_candle_15 (by rw [h_6] <;> decide) (by rw [h_6] <;> decide) (by rw [h_6] <;> rfl) (by decide) ?_
          refine zx_aload_n C 0 dX11_candle_78 rfl rfl ?_
          refine zx_get C 3 (by decide) rfl rfl (by decide) inX11 q_655 rfl rfl dX11_candle_79 ?_
          refine zx_iload_n C 1 dX11_candle_82 rfl rfl ?_
          refine zx_iald C 0 (by decide) rfl rfl dX11_candle_83 ?_
          exact zx_iret C dX11_candle_84
        · refine zx_ite (fun h_7 => ?_) (fun h_7 => ?_)
          · refine zx_tableIn (tgt := 85) C dX11_candle_15 (by rw [h_7] <;> decide) (by rw [h_7] <;> decide) (by rw [h_7] <;> rfl) (by decide) ?_
            refine zx_aload_n C 0 dX11_candle_85 rfl rfl ?_
            refine zx_get C 4 (by decide) rfl rfl (by decide) inX11 q_656 rfl rfl dX11_candle_86 ?_
            refine zx_iload_n C 1 dX11_candle_89 rfl rfl ?_
            refine zx_iald C 0 (by decide) rfl rfl dX11_candle_90 ?_
            exact zx_iret C dX11_candle_91
          · refine zx_ite (fun h_8 => ?_) (fun h_8 => ?_)
            · refine zx_tableIn (tgt := 92) C dX11_candle_15 (by rw [h_8] <;> decide) (by rw [h_8] <;> decide) (by rw [h_8] <;> rfl) (by decide) ?_
              refine zx_aload_n C 0 dX11_candle_92 rfl rfl ?_
              refine zx_get C 5 (by decide) rfl rfl (by decide) inX11 q_657 rfl rfl dX11_candle_93 ?_
              refine zx_iload_n C 1 dX11_candle_96 rfl rfl ?_
              refine zx_iald C 0 (by decide) rfl rfl dX11_candle_97 ?_
              exact zx_iret C dX11_candle_98
            · refine zx_ite (fun h_9 => ?_) (fun h_9 => ?_)
              · refine zx_tableIn (tgt := 99) C dX11_candle_15 (by rw [h_9] <;> decide) (by rw [h_9] <;> decide) (by rw [h_9] <;> rfl) (by decide) ?_
                refine zx_aload_n C 0 dX11_candle_99 rfl rfl ?_
                refine zx_get C 6 (by decide) rfl rfl (by decide) inX11 q_658 rfl rfl dX11_candle_100 ?_
                refine zx_iload_n C 1 dX11_candle_103 rfl rfl ?_
                refine zx_iald C 0 (by decide) rfl rfl dX11_candle_104 ?_
                exact zx_iret C dX11_candle_105
              · refine zx_ite (fun h_10 => ?_) (fun h_10 => ?_)
                · refine zx_tableIn (tgt := 106) C dX11_candle_15 (by rw [h_10] <;> decide) (by rw [h_10] <;> decide) (by rw [h_10] <;> rfl) (by decide) ?_
                  refine zx_aload_n C 0 dX11_candle_106 rfl rfl ?_
                  refine zx_iload_n C 1 dX11_candle_107 rfl rfl ?_
                  refine zx_callV (As := [.int v1]) (st := []) C yk_X11_burnsOf q_812 q_814 q_20 (by decide) rfl rfl (k_X11_burnsOf C.hO N v1 t_2) (by decide) rfl rfl (Nat.le_of_ble_eq_true rfl) dX11_candle_108 (fun _ r_11 t_12 => ?_) (fun h9 => nomatch h9)
                  exact zx_iret C dX11_candle_111
                · refine zx_ite (fun h_13 => ?_) (fun h_13 => ?_)
                  · refine zx_tableIn (tgt := 112) C dX11_candle_15 (by rw [h_13] <;> decide) (by rw [h_13] <;> decide) (by rw [h_13] <;> rfl) (by decide) ?_
                    refine zx_aload_n C 0 dX11_candle_112 rfl rfl ?_
                    refine zx_iload_n C 1 dX11_candle_113 rfl rfl ?_
                    refine zx_callV (As := [.int v1]) (st := []) C yk_X11_dripsOf q_822 q_824 q_21 (by decide) rfl rfl (k_X11_dripsOf C.hO N v1 t_2) (by decide) rfl rfl (Nat.le_of_ble_eq_true rfl) dX11_candle_114 (fun _ r_14 t_15 => ?_) (fun h9 => nomatch h9)
                    exact zx_iret C dX11_candle_117
                  · refine zx_ite (fun h_16 => ?_) (fun h_16 => ?_)
                    · refine zx_tableIn (tgt := 118) C dX11_candle_15 (by rw [h_16] <;> decide) (by rw [h_16] <;> decide) (by rw [h_16] <;> rfl) (by decide) ?_
                      refine zx_aload_n C 0 dX11_candle_118 rfl rfl ?_
                      refine zx_iload_n C 1 dX11_candle_119 rfl rfl ?_
                      refine zx_callV (As := [.int v1]) (st := []) C yk_X11_countsOf q_829 q_831 q_22 (by decide) rfl rfl (k_X11_countsOf C.hO N v1 t_2) (by decide) rfl rfl (Nat.le_of_ble_eq_true rfl) dX11_candle_120 (fun _ r_17 t_18 => ?_) (fun h9 => nomatch h9)
                      exact zx_iret C dX11_candle_123
                    · refine zx_tableOut (tgt := 124) C dX11_candle_15 (z_out (fun c h1 h2 hx => by rcases (show c = 0 ∨ c = 1 ∨ c = 2 ∨ c = 3 ∨ c = 4 ∨ c = 5 ∨ c = 6 ∨ c = 7 ∨ c = 8 by omega) with rfl | rfl | rfl | rfl | rfl | rfl | rfl | rfl | rfl <;> first | exact h_4 hx | exact h_5 hx | exact h_6 hx | exact h_7 hx | exact h_8 hx | exact h_9 hx | exact h_10 hx | exact h_13 hx | exact h_16 hx)) (by decide) ?_
                      refine zx_aload_n C 0 dX11_candle_124 rfl rfl ?_
                      refine zx_bipush (v := -2) C dX11_candle_125 (by decide) ?_
                      refine zx_callV (As := [.int (-2 : Int32)]) (st := []) C yk_X11_no q_747 q_749 q_10 (by decide) rfl rfl (k_X11_no C.hO N (-2 : Int32) t_2) (by decide) rfl rfl (Nat.le_of_ble_eq_true rfl) dX11_candle_127 (fun _ r_19 t_20 => ?_) (fun h9 => nomatch h9)
                      exact zx_iret C dX11_candle_130
  · refine zx_aload_n C 0 dX11_candle_8 rfl rfl ?_
    refine zx_iconst (v := -1) C dX11_candle_9 (by decide) ?_
    refine zx_callV (As := [.int (-1 : Int32)]) (st := []) C yk_X11_no q_747 q_749 q_10 (by decide) rfl rfl (k_X11_no C.hO N (-1 : Int32) t_2) (by decide) rfl rfl (Nat.le_of_ble_eq_true rfl) dX11_candle_10 (fun _ r_21 t_22 => ?_) (fun h9 => nomatch h9)
    exact zx_iret C dX11_candle_13
def bf_X11_put_15 (N : Nat) (σ : zS) : zA := z_b (f_X11_no N (-1 : Int32) σ) (fun r_1 t_2 => some (r_1, t_2))
set_option maxHeartbeats 4000000 in
set_option maxRecDepth 100000 in
theorem b_X11_put_15 {G : zG} {dC : Nat → ClassId} {dI : Nat → Nat → Nat} {A : Nat → Prop} {ad : Nat → Nat} {cI cC cW : ClassId} (C : zC G dC dI A 16 ad (cfM ad cI) (z_ty cI cC cW) cX11_put RX11 4 1 (some .int)) (N : Nat) (σ : zS) : zW G dC dI A 16 ad (cfM ad cI) 4 true (bf_X11_put_15 N   σ) σ 15 [(0, .ref (ad 0))] [] := by
  unfold bf_X11_put_15
  refine zx_aload_n C 0 dX11_put_15 rfl rfl ?_
  refine zx_iconst (v := -1) C dX11_put_16 (by decide) ?_
  refine zx_callV (As := [.int (-1 : Int32)]) (st := []) C yk_X11_no q_747 q_749 q_10 (by decide) rfl rfl (k_X11_no C.hO N (-1 : Int32) σ) (by decide) rfl rfl (Nat.le_of_ble_eq_true rfl) dX11_put_17 (fun _ r_1 t_2 => ?_) (fun h9 => nomatch h9)
  exact zx_iret C dX11_put_20
def f_X11_put (N : Nat) (v1 : Int32) (v2 : Int32) (σ : zS) : zA := z_b (f_X11_isCandle N v1 σ) (fun r_3 t_4 => (if r_3 = (0 : Int32) then (bf_X11_put_15 N t_4) else z_b (f_X11_isOne N v2 t_4) (fun r_6 t_7 => (if r_6 = (0 : Int32) then (bf_X11_put_15 N t_7) else z_g (z_in v1 6) (z_n (t_7 5 v1.toNatClampNeg) (fun z_9 => z_g (z_in v1 6) (z_m (z_put t_7 5 v1.toNatClampNeg v2) (fun t_10 => some (z_9, t_10)))))))))
set_option maxHeartbeats 4000000 in
set_option maxRecDepth 100000 in
theorem k_X11_put {l : Launch} {dC : Nat → ClassId} {dI : Nat → Nat → Nat} {A : Nat → Prop} {ad : Nat → Nat} {cI cC cW : ClassId} (hO : zO A 16 ad (cfM ad cI)) (N : Nat) (v1 : Int32) (v2 : Int32) (σ : zS) : zM l dC dI A 16 ad (cfM ad cI) (z_ty cI cC cW) true yX11_put cX11_put 4 (some .int) 1 [.ref (ad 0), .int v1, .int v2] σ (f_X11_put N v1 v2 σ) := by
  refine zM_of hO (by decide) (Nat.le_of_ble_eq_true rfl) (fun G hG C => ?_)
  subst hG
  unfold f_X11_put
  refine zx_sub (L1 := [(0, .ref (ad 0)), (1, .int v1), (2, .int v2)]) [0, 1, 2] rfl ?_
  refine zx_aload_n C 0 dX11_put_0 rfl rfl ?_
  refine zx_iload_n C 1 dX11_put_1 rfl rfl ?_
  refine zx_callV (As := [.int v1]) (st := []) C yk_X11_isCandle q_796 q_798 q_19 (by decide) rfl rfl (k_X11_isCandle C.hO N v1 σ) (by decide) rfl rfl (Nat.le_of_ble_eq_true rfl) dX11_put_2 (fun _ r_3 t_4 => ?_) (fun h9 => nomatch h9)
  refine zx_if_eq (tgt := 15) C dX11_put_5 (by decide) (fun h_5 => ?_) (fun h_5 => ?_)
  · exact zx_sub (L1 := [(0, .ref (ad 0))]) [0] rfl (b_X11_put_15 C N t_4)
  · refine zx_iload_n C 2 dX11_put_8 rfl rfl ?_
    refine zx_callS (av := [.int v2]) (st := []) C yk_X11_isOne q_790 q_791 (k_X11_isOne C.hO N v2 t_4) (by decide) rfl rfl (Nat.le_of_ble_eq_true rfl) dX11_put_9 (fun _ r_6 t_7 => ?_) (fun h9 => nomatch h9)
    refine zx_if_ne (tgt := 21) C dX11_put_12 (by decide) (fun h_8 => ?_) (fun h_8 => ?_)
    · refine zx_aload_n C 0 dX11_put_21 rfl rfl ?_
      refine zx_get C 5 (by decide) rfl rfl (by decide) inX11 q_657 rfl rfl dX11_put_22 ?_
      refine zx_iload_n C 1 dX11_put_25 rfl rfl ?_
      refine zx_iald C 0 (by decide) rfl rfl dX11_put_26 ?_
      refine zx_n (fun z_9 => ?_)
      refine zx_istore_n (L1 := [(3, .int z_9), (0, .ref (ad 0)), (1, .int v1), (2, .int v2)]) C dX11_put_27 rfl (by decide) rfl ?_
      refine zx_aload_n C 1 dX11_put_28 rfl rfl ?_
      refine zx_get C 5 (by decide) rfl rfl (by decide) inX11 q_657 rfl rfl dX11_put_29 ?_
      refine zx_iload_n C 2 dX11_put_32 rfl rfl ?_
      refine zx_iload_n C 3 dX11_put_33 rfl rfl ?_
      refine zx_iast C 0 (by decide) (fun _ => rfl) rfl dX11_put_34 (fun t_10 => ?_)
      refine zx_iload_n C 0 dX11_put_35 rfl rfl ?_
      exact zx_iret C dX11_put_36
    · exact zx_sub (L1 := [(0, .ref (ad 0))]) [0] rfl (b_X11_put_15 C N t_7)
def bf_X11_light_55 (N : Nat) (v1 : Int32) (v3 : Int32) (u1 : Int32) (u2 : Int32) (σ : zS) : zA := z_g (z_in u1 6) (z_m (z_put σ 6 u1.toNatClampNeg u2) (fun t_1 => z_g (z_in v1 6) ((if (t_1 6 v1.toNatClampNeg) = v3 then some ((0 : Int32), t_1) else some ((1 : Int32), t_1)))))
set_option maxHeartbeats 4000000 in
set_option maxRecDepth 100000 in
theorem b_X11_light_55 {G : zG} {dC : Nat → ClassId} {dI : Nat → Nat → Nat} {A : Nat → Prop} {ad : Nat → Nat} {cI cC cW : ClassId} (C : zC G dC dI A 16 ad (cfM ad cI) (z_ty cI cC cW) cX11_light RX11 4 1 (some .int)) (N : Nat) (v1 : Int32) (v3 : Int32) (u1 : Int32) (u2 : Int32) (σ : zS) : zW G dC dI A 16 ad (cfM ad cI) 4 true (bf_X11_light_55 N  v1 v3 u1 u2 σ) σ 55 [(0, .ref (ad 0)), (1, .int v1), (3, .int v3)] [.int u2, .int u1, .ref (ad 6)] := by
  unfold bf_X11_light_55
  refine zx_iast C 0 (by decide) (fun _ => rfl) rfl dX11_light_55 (fun t_1 => ?_)
  refine zx_aload_n C 0 dX11_light_56 rfl rfl ?_
  refine zx_get C 6 (by decide) rfl rfl (by decide) inX11 q_658 rfl rfl dX11_light_57 ?_
  refine zx_iload_n C 1 dX11_light_60 rfl rfl ?_
  refine zx_iald C 0 (by decide) rfl rfl dX11_light_61 ?_
  refine zx_iload_n C 2 dX11_light_62 rfl rfl ?_
  refine zx_icmp_ne (tgt := 70) C dX11_light_63 (by decide) (fun h_2 => ?_) (fun h_2 => ?_)
  · refine zx_iconst (v := 1) C dX11_light_70 (by decide) ?_
    exact zx_iret C dX11_light_71
  · refine zx_iconst (v := 0) C dX11_light_66 (by decide) ?_
    refine zx_goto (tgt := 71) C dX11_light_67 (by decide) ?_
    exact zx_iret C dX11_light_71
def bf_X11_light_34 (N : Nat) (v1 : Int32) (v2 : Int32) (σ : zS) : zA := z_g (z_in v1 6) (z_n (σ 6 v1.toNatClampNeg) (fun z_3 => (if v2 = (0 : Int32) then (bf_X11_light_55 N v1 z_3 v1 (0 : Int32) σ) else (bf_X11_light_55 N v1 z_3 v1 (1 : Int32) σ))))
set_option maxHeartbeats 4000000 in
set_option maxRecDepth 100000 in
theorem b_X11_light_34 {G : zG} {dC : Nat → ClassId} {dI : Nat → Nat → Nat} {A : Nat → Prop} {ad : Nat → Nat} {cI cC cW : ClassId} (C : zC G dC dI A 16 ad (cfM ad cI) (z_ty cI cC cW) cX11_light RX11 4 1 (some .int)) (N : Nat) (v1 : Int32) (v2 : Int32) (σ : zS) : zW G dC dI A 16 ad (cfM ad cI) 4 true (bf_X11_light_34 N  v1 v2 σ) σ 34 [(0, .ref (ad 0)), (1, .int v1), (2, .int v2)] [] := by
  unfold bf_X11_light_34
  refine zx_aload_n C 0 dX11_light_34 rfl rfl ?_
  refine zx_get C 6 (by decide) rfl rfl (by decide) inX11 q_658 rfl rfl dX11_light_35 ?_
  refine zx_iload_n C 1 dX11_light_38 rfl rfl ?_
  refine zx_iald C 0 (by decide) rfl rfl dX11_light_39 ?_
  refine zx_n (fun z_3 => ?_)
  refine zx_istore_n (L1 := [(3, .int z_3), (0, .ref (ad 0)), (1, .int v1), (2, .int v2)]) C dX11_light_40 rfl (by decide) rfl ?_
  refine zx_aload_n C 1 dX11_light_41 rfl rfl ?_
  refine zx_get C 6 (by decide) rfl rfl (by decide) inX11 q_658 rfl rfl dX11_light_42 ?_
  refine zx_iload_n C 2 dX11_light_45 rfl rfl ?_
  refine zx_iload_n C 3 dX11_light_46 rfl rfl ?_
  refine zx_if_eq (tgt := 54) C dX11_light_47 (by decide) (fun h_4 => ?_) (fun h_4 => ?_)
  · refine zx_iconst (v := 0) C dX11_light_54 (by decide) ?_
    exact zx_sub (L1 := [(0, .ref (ad 0)), (1, .int v1), (3, .int z_3)]) [1, 2, 0] rfl (b_X11_light_55 C N v1 z_3 v1 (0 : Int32) σ)
  · refine zx_iconst (v := 1) C dX11_light_50 (by decide) ?_
    refine zx_goto (tgt := 55) C dX11_light_51 (by decide) ?_
    exact zx_sub (L1 := [(0, .ref (ad 0)), (1, .int v1), (3, .int z_3)]) [1, 2, 0] rfl (b_X11_light_55 C N v1 z_3 v1 (1 : Int32) σ)
def f_X11_light (N : Nat) (v1 : Int32) (v2 : Int32) (σ : zS) : zA := z_b (f_X11_isCandle N v1 σ) (fun r_5 t_6 => (if r_5 = (0 : Int32) then z_b (f_X11_no N (-1 : Int32) t_6) (fun r_12 t_13 => some (r_12, t_13)) else (if v2 = (0 : Int32) then (bf_X11_light_34 N v1 v2 t_6) else z_g (z_in v1 6) ((if (t_6 3 v1.toNatClampNeg) = (0 : Int32) then z_b (f_X11_no N (-3 : Int32) t_6) (fun r_10 t_11 => some (r_10, t_11)) else (bf_X11_light_34 N v1 v2 t_6))))))
set_option maxHeartbeats 4000000 in
set_option maxRecDepth 100000 in
theorem k_X11_light {l : Launch} {dC : Nat → ClassId} {dI : Nat → Nat → Nat} {A : Nat → Prop} {ad : Nat → Nat} {cI cC cW : ClassId} (hO : zO A 16 ad (cfM ad cI)) (N : Nat) (v1 : Int32) (v2 : Int32) (σ : zS) : zM l dC dI A 16 ad (cfM ad cI) (z_ty cI cC cW) true yX11_light cX11_light 4 (some .int) 1 [.ref (ad 0), .int v1, .int v2] σ (f_X11_light N v1 v2 σ) := by
  refine zM_of hO (by decide) (Nat.le_of_ble_eq_true rfl) (fun G hG C => ?_)
  subst hG
  unfold f_X11_light
  refine zx_sub (L1 := [(0, .ref (ad 0)), (1, .int v1), (2, .int v2)]) [0, 1, 2] rfl ?_
  refine zx_aload_n C 0 dX11_light_0 rfl rfl ?_
  refine zx_iload_n C 1 dX11_light_1 rfl rfl ?_
  refine zx_callV (As := [.int v1]) (st := []) C yk_X11_isCandle q_796 q_798 q_19 (by decide) rfl rfl (k_X11_isCandle C.hO N v1 σ) (by decide) rfl rfl (Nat.le_of_ble_eq_true rfl) dX11_light_2 (fun _ r_5 t_6 => ?_) (fun h9 => nomatch h9)
  refine zx_if_ne (tgt := 14) C dX11_light_5 (by decide) (fun h_7 => ?_) (fun h_7 => ?_)
  · refine zx_iload_n C 2 dX11_light_14 rfl rfl ?_
    refine zx_if_eq (tgt := 34) C dX11_light_15 (by decide) (fun h_8 => ?_) (fun h_8 => ?_)
    · exact zx_sub (L1 := [(0, .ref (ad 0)), (1, .int v1), (2, .int v2)]) [0, 1, 2] rfl (b_X11_light_34 C N v1 v2 t_6)
    · refine zx_aload_n C 0 dX11_light_18 rfl rfl ?_
      refine zx_get C 3 (by decide) rfl rfl (by decide) inX11 q_655 rfl rfl dX11_light_19 ?_
      refine zx_iload_n C 1 dX11_light_22 rfl rfl ?_
      refine zx_iald C 0 (by decide) rfl rfl dX11_light_23 ?_
      refine zx_if_ne (tgt := 34) C dX11_light_24 (by decide) (fun h_9 => ?_) (fun h_9 => ?_)
      · exact zx_sub (L1 := [(0, .ref (ad 0)), (1, .int v1), (2, .int v2)]) [0, 1, 2] rfl (b_X11_light_34 C N v1 v2 t_6)
      · refine zx_aload_n C 0 dX11_light_27 rfl rfl ?_
        refine zx_bipush (v := -3) C dX11_light_28 (by decide) ?_
        refine zx_callV (As := [.int (-3 : Int32)]) (st := []) C yk_X11_no q_747 q_749 q_10 (by decide) rfl rfl (k_X11_no C.hO N (-3 : Int32) t_6) (by decide) rfl rfl (Nat.le_of_ble_eq_true rfl) dX11_light_30 (fun _ r_10 t_11 => ?_) (fun h9 => nomatch h9)
        exact zx_iret C dX11_light_33
  · refine zx_aload_n C 0 dX11_light_8 rfl rfl ?_
    refine zx_iconst (v := -1) C dX11_light_9 (by decide) ?_
    refine zx_callV (As := [.int (-1 : Int32)]) (st := []) C yk_X11_no q_747 q_749 q_10 (by decide) rfl rfl (k_X11_no C.hO N (-1 : Int32) t_6) (by decide) rfl rfl (Nat.le_of_ble_eq_true rfl) dX11_light_10 (fun _ r_12 t_13 => ?_) (fun h9 => nomatch h9)
    exact zx_iret C dX11_light_13
def f_X11_draught (N : Nat) (v1 : Int32) (v2 : Int32) (σ : zS) : zA := z_b (f_X11_isOne N v1 σ) (fun r_1 t_2 => (if r_1 = (0 : Int32) then z_b (f_X11_no N (-1 : Int32) t_2) (fun r_11 t_12 => some (r_11, t_12)) else z_b (f_X11_bound N v2 (0 : Int32) (9 : Int32) t_2) (fun r_4 t_5 => (if r_4 = (0 : Int32) then z_g (z_in v1 4) (z_n (t_5 7 v1.toNatClampNeg) (fun z_7 => z_g (z_in v1 4) (z_m (z_put t_5 7 v1.toNatClampNeg v2) (fun t_8 => some (z_7, t_8))))) else z_b (f_X11_no N r_4 t_5) (fun r_9 t_10 => some (r_9, t_10))))))
set_option maxHeartbeats 4000000 in
set_option maxRecDepth 100000 in
theorem k_X11_draught {l : Launch} {dC : Nat → ClassId} {dI : Nat → Nat → Nat} {A : Nat → Prop} {ad : Nat → Nat} {cI cC cW : ClassId} (hO : zO A 16 ad (cfM ad cI)) (N : Nat) (v1 : Int32) (v2 : Int32) (σ : zS) : zM l dC dI A 16 ad (cfM ad cI) (z_ty cI cC cW) true yX11_draught cX11_draught 5 (some .int) 1 [.ref (ad 0), .int v1, .int v2] σ (f_X11_draught N v1 v2 σ) := by
  refine zM_of hO (by decide) (Nat.le_of_ble_eq_true rfl) (fun G hG C => ?_)
  subst hG
  unfold f_X11_draught
  refine zx_sub (L1 := [(0, .ref (ad 0)), (1, .int v1), (2, .int v2)]) [0, 1, 2] rfl ?_
  refine zx_iload_n C 1 dX11_draught_0 rfl rfl ?_
  refine zx_callS (av := [.int v1]) (st := []) C yk_X11_isOne q_790 q_791 (k_X11_isOne C.hO N v1 σ) (by decide) rfl rfl (Nat.le_of_ble_eq_true rfl) dX11_draught_1 (fun _ r_1 t_2 => ?_) (fun h9 => nomatch h9)
  refine zx_if_ne (tgt := 13) C dX11_draught_4 (by decide) (fun h_3 => ?_) (fun h_3 => ?_)
  · refine zx_iload_n C 2 dX11_draught_13 rfl rfl ?_
    refine zx_iconst (v := 0) C dX11_draught_14 (by decide) ?_
    refine zx_bipush (v := 9) C dX11_draught_15 (by decide) ?_
    refine zx_callS (av := [.int v2, .int (0 : Int32), .int (9 : Int32)]) (st := []) C yk_X11_bound q_744 q_745 (k_X11_bound C.hO N v2 (0 : Int32) (9 : Int32) t_2) (by decide) rfl rfl (Nat.le_of_ble_eq_true rfl) dX11_draught_17 (fun _ r_4 t_5 => ?_) (fun h9 => nomatch h9)
    refine zx_istore_n (L1 := [(3, .int r_4), (0, .ref (ad 0)), (1, .int v1), (2, .int v2)]) C dX11_draught_20 rfl (by decide) rfl ?_
    refine zx_iload_n C 0 dX11_draught_21 rfl rfl ?_
    refine zx_if_eq (tgt := 31) C dX11_draught_22 (by decide) (fun h_6 => ?_) (fun h_6 => ?_)
    · refine zx_aload_n C 1 dX11_draught_31 rfl rfl ?_
      refine zx_get C 7 (by decide) rfl rfl (by decide) inX11 q_659 rfl rfl dX11_draught_32 ?_
      refine zx_iload_n C 2 dX11_draught_35 rfl rfl ?_
      refine zx_iald C 0 (by decide) rfl rfl dX11_draught_36 ?_
      refine zx_n (fun z_7 => ?_)
      refine zx_istore (L1 := [(4, .int z_7), (3, .int r_4), (0, .ref (ad 0)), (1, .int v1), (2, .int v2)]) C dX11_draught_37 (by decide) rfl ?_
      refine zx_aload_n C 2 dX11_draught_39 rfl rfl ?_
      refine zx_get C 7 (by decide) rfl rfl (by decide) inX11 q_659 rfl rfl dX11_draught_40 ?_
      refine zx_iload_n C 3 dX11_draught_43 rfl rfl ?_
      refine zx_iload_n C 4 dX11_draught_44 rfl rfl ?_
      refine zx_iast C 0 (by decide) (fun _ => rfl) rfl dX11_draught_45 (fun t_8 => ?_)
      refine zx_iload C 0 dX11_draught_46 rfl ?_
      exact zx_iret C dX11_draught_48
    · refine zx_aload_n C 1 dX11_draught_25 rfl rfl ?_
      refine zx_iload_n C 0 dX11_draught_26 rfl rfl ?_
      refine zx_callV (As := [.int r_4]) (st := []) C yk_X11_no q_747 q_749 q_10 (by decide) rfl rfl (k_X11_no C.hO N r_4 t_5) (by decide) rfl rfl (Nat.le_of_ble_eq_true rfl) dX11_draught_27 (fun _ r_9 t_10 => ?_) (fun h9 => nomatch h9)
      exact zx_iret C dX11_draught_30
  · refine zx_aload_n C 0 dX11_draught_7 rfl rfl ?_
    refine zx_iconst (v := -1) C dX11_draught_8 (by decide) ?_
    refine zx_callV (As := [.int (-1 : Int32)]) (st := []) C yk_X11_no q_747 q_749 q_10 (by decide) rfl rfl (k_X11_no C.hO N (-1 : Int32) t_2) (by decide) rfl rfl (Nat.le_of_ble_eq_true rfl) dX11_draught_9 (fun _ r_11 t_12 => ?_) (fun h9 => nomatch h9)
    exact zx_iret C dX11_draught_12
def f_X11_owe (N : Nat) (v1 : Int32) (v2 : Int32) (v3 : Int32) (σ : zS) : zA := z_b (f_X11_areTwo N v1 v2 σ) (fun r_1 t_2 => (if r_1 = (0 : Int32) then z_b (f_X11_no N (-1 : Int32) t_2) (fun r_11 t_12 => some (r_11, t_12)) else z_b (f_X11_bound N v3 (0 : Int32) (999 : Int32) t_2) (fun r_4 t_5 => (if r_4 = (0 : Int32) then z_g (z_in (((4 : Int32) * v1) + v2) 16) (z_n (t_5 8 (((4 : Int32) * v1) + v2).toNatClampNeg) (fun z_7 => z_g (z_in (((4 : Int32) * v1) + v2) 16) (z_m (z_put t_5 8 (((4 : Int32) * v1) + v2).toNatClampNeg v3) (fun t_8 => some (z_7, t_8))))) else z_b (f_X11_no N r_4 t_5) (fun r_9 t_10 => some (r_9, t_10))))))
set_option maxHeartbeats 4000000 in
set_option maxRecDepth 100000 in
theorem k_X11_owe {l : Launch} {dC : Nat → ClassId} {dI : Nat → Nat → Nat} {A : Nat → Prop} {ad : Nat → Nat} {cI cC cW : ClassId} (hO : zO A 16 ad (cfM ad cI)) (N : Nat) (v1 : Int32) (v2 : Int32) (v3 : Int32) (σ : zS) : zM l dC dI A 16 ad (cfM ad cI) (z_ty cI cC cW) true yX11_owe cX11_owe 6 (some .int) 2 [.ref (ad 0), .int v1, .int v2, .int v3] σ (f_X11_owe N v1 v2 v3 σ) := by
  refine zM_of hO (by decide) (Nat.le_of_ble_eq_true rfl) (fun G hG C => ?_)
  subst hG
  unfold f_X11_owe
  refine zx_sub (L1 := [(0, .ref (ad 0)), (1, .int v1), (2, .int v2), (3, .int v3)]) [0, 1, 2, 3] rfl ?_
  refine zx_iload_n C 1 dX11_owe_0 rfl rfl ?_
  refine zx_iload_n C 2 dX11_owe_1 rfl rfl ?_
  refine zx_callS (av := [.int v1, .int v2]) (st := []) C yk_X11_areTwo q_793 q_794 (k_X11_areTwo C.hO N v1 v2 σ) (by decide) rfl rfl (Nat.le_of_ble_eq_true rfl) dX11_owe_2 (fun _ r_1 t_2 => ?_) (fun h9 => nomatch h9)
  refine zx_if_ne (tgt := 14) C dX11_owe_5 (by decide) (fun h_3 => ?_) (fun h_3 => ?_)
  · refine zx_iload_n C 3 dX11_owe_14 rfl rfl ?_
    refine zx_iconst (v := 0) C dX11_owe_15 (by decide) ?_
    refine zx_sipush (v := 999) C dX11_owe_16 (by decide) ?_
    refine zx_callS (av := [.int v3, .int (0 : Int32), .int (999 : Int32)]) (st := []) C yk_X11_bound q_744 q_745 (k_X11_bound C.hO N v3 (0 : Int32) (999 : Int32) t_2) (by decide) rfl rfl (Nat.le_of_ble_eq_true rfl) dX11_owe_19 (fun _ r_4 t_5 => ?_) (fun h9 => nomatch h9)
    refine zx_istore (L1 := [(4, .int r_4), (0, .ref (ad 0)), (1, .int v1), (2, .int v2), (3, .int v3)]) C dX11_owe_22 (by decide) rfl ?_
    refine zx_iload C 0 dX11_owe_24 rfl ?_
    refine zx_if_eq (tgt := 36) C dX11_owe_26 (by decide) (fun h_6 => ?_) (fun h_6 => ?_)
    · refine zx_aload_n C 1 dX11_owe_36 rfl rfl ?_
      refine zx_get C 8 (by decide) rfl rfl (by decide) inX11 q_660 rfl rfl dX11_owe_37 ?_
      refine zx_iconst (v := 4) C dX11_owe_40 (by decide) ?_
      refine zx_iload_n C 2 dX11_owe_41 rfl rfl ?_
      refine zx_imul C dX11_owe_42 ?_
      refine zx_iload_n C 3 dX11_owe_43 rfl rfl ?_
      refine zx_iadd C dX11_owe_44 ?_
      refine zx_iald C 0 (by decide) rfl rfl dX11_owe_45 ?_
      refine zx_n (fun z_7 => ?_)
      refine zx_istore (L1 := [(5, .int z_7), (4, .int r_4), (0, .ref (ad 0)), (1, .int v1), (2, .int v2), (3, .int v3)]) C dX11_owe_46 (by decide) rfl ?_
      refine zx_aload_n C 2 dX11_owe_48 rfl rfl ?_
      refine zx_get C 8 (by decide) rfl rfl (by decide) inX11 q_660 rfl rfl dX11_owe_49 ?_
      refine zx_iconst (v := 4) C dX11_owe_52 (by decide) ?_
      refine zx_iload_n C 3 dX11_owe_53 rfl rfl ?_
      refine zx_imul C dX11_owe_54 ?_
      refine zx_iload_n C 4 dX11_owe_55 rfl rfl ?_
      refine zx_iadd C dX11_owe_56 ?_
      refine zx_iload_n C 5 dX11_owe_57 rfl rfl ?_
      refine zx_iast C 0 (by decide) (fun _ => rfl) rfl dX11_owe_58 (fun t_8 => ?_)
      refine zx_iload C 0 dX11_owe_59 rfl ?_
      exact zx_iret C dX11_owe_61
    · refine zx_aload_n C 1 dX11_owe_29 rfl rfl ?_
      refine zx_iload C 0 dX11_owe_30 rfl ?_
      refine zx_callV (As := [.int r_4]) (st := []) C yk_X11_no q_747 q_749 q_10 (by decide) rfl rfl (k_X11_no C.hO N r_4 t_5) (by decide) rfl rfl (Nat.le_of_ble_eq_true rfl) dX11_owe_32 (fun _ r_9 t_10 => ?_) (fun h9 => nomatch h9)
      exact zx_iret C dX11_owe_35
  · refine zx_aload_n C 0 dX11_owe_8 rfl rfl ?_
    refine zx_iconst (v := -1) C dX11_owe_9 (by decide) ?_
    refine zx_callV (As := [.int (-1 : Int32)]) (st := []) C yk_X11_no q_747 q_749 q_10 (by decide) rfl rfl (k_X11_no C.hO N (-1 : Int32) t_2) (by decide) rfl rfl (Nat.le_of_ble_eq_true rfl) dX11_owe_10 (fun _ r_11 t_12 => ?_) (fun h9 => nomatch h9)
    exact zx_iret C dX11_owe_13
def f_X11_debt (N : Nat) (v1 : Int32) (v2 : Int32) (σ : zS) : zA := z_b (f_X11_areTwo N v1 v2 σ) (fun r_1 t_2 => (if r_1 = (0 : Int32) then z_b (f_X11_no N (-1 : Int32) t_2) (fun r_4 t_5 => some (r_4, t_5)) else z_g (z_in (((4 : Int32) * v1) + v2) 16) (some ((t_2 8 (((4 : Int32) * v1) + v2).toNatClampNeg), t_2))))
set_option maxHeartbeats 4000000 in
set_option maxRecDepth 100000 in
theorem k_X11_debt {l : Launch} {dC : Nat → ClassId} {dI : Nat → Nat → Nat} {A : Nat → Prop} {ad : Nat → Nat} {cI cC cW : ClassId} (hO : zO A 16 ad (cfM ad cI)) (N : Nat) (v1 : Int32) (v2 : Int32) (σ : zS) : zM l dC dI A 16 ad (cfM ad cI) (z_ty cI cC cW) true yX11_debt cX11_debt 3 (some .int) 2 [.ref (ad 0), .int v1, .int v2] σ (f_X11_debt N v1 v2 σ) := by
  refine zM_of hO (by decide) (Nat.le_of_ble_eq_true rfl) (fun G hG C => ?_)
  subst hG
  unfold f_X11_debt
  refine zx_sub (L1 := [(0, .ref (ad 0)), (1, .int v1), (2, .int v2)]) [0, 1, 2] rfl ?_
  refine zx_iload_n C 1 dX11_debt_0 rfl rfl ?_
  refine zx_iload_n C 2 dX11_debt_1 rfl rfl ?_
  refine zx_callS (av := [.int v1, .int v2]) (st := []) C yk_X11_areTwo q_793 q_794 (k_X11_areTwo C.hO N v1 v2 σ) (by decide) rfl rfl (Nat.le_of_ble_eq_true rfl) dX11_debt_2 (fun _ r_1 t_2 => ?_) (fun h9 => nomatch h9)
  refine zx_if_eq (tgt := 21) C dX11_debt_5 (by decide) (fun h_3 => ?_) (fun h_3 => ?_)
  · refine zx_aload_n C 0 dX11_debt_21 rfl rfl ?_
    refine zx_iconst (v := -1) C dX11_debt_22 (by decide) ?_
    refine zx_callV (As := [.int (-1 : Int32)]) (st := []) C yk_X11_no q_747 q_749 q_10 (by decide) rfl rfl (k_X11_no C.hO N (-1 : Int32) t_2) (by decide) rfl rfl (Nat.le_of_ble_eq_true rfl) dX11_debt_23 (fun _ r_4 t_5 => ?_) (fun h9 => nomatch h9)
    exact zx_iret C dX11_debt_26
  · refine zx_aload_n C 0 dX11_debt_8 rfl rfl ?_
    refine zx_get C 8 (by decide) rfl rfl (by decide) inX11 q_660 rfl rfl dX11_debt_9 ?_
    refine zx_iconst (v := 4) C dX11_debt_12 (by decide) ?_
    refine zx_iload_n C 1 dX11_debt_13 rfl rfl ?_
    refine zx_imul C dX11_debt_14 ?_
    refine zx_iload_n C 2 dX11_debt_15 rfl rfl ?_
    refine zx_iadd C dX11_debt_16 ?_
    refine zx_iald C 0 (by decide) rfl rfl dX11_debt_17 ?_
    refine zx_goto (tgt := 26) C dX11_debt_18 (by decide) ?_
    exact zx_iret C dX11_debt_26
def f_X11_pays (N : Nat) (v1 : Int32) (v2 : Int32) (σ : zS) : zA := z_g (z_in v1 6) (z_g (z_in v1 6) ((if (σ 5 v1.toNatClampNeg) = (σ 4 v1.toNatClampNeg) then some (0, σ) else z_g (z_in v1 6) (z_g (z_in v1 6) (z_n (((4 : Int32) * (σ 4 v1.toNatClampNeg)) + (σ 5 v1.toNatClampNeg)) (fun z_2 => z_g (z_in z_2 16) (z_b (f_X11_least N v2 (σ 8 z_2.toNatClampNeg) σ) (fun r_3 t_4 => z_g (z_in z_2 16) (z_g (z_in z_2 16) (z_m (z_put t_4 8 z_2.toNatClampNeg ((t_4 8 z_2.toNatClampNeg) - r_3)) (fun t_5 => z_m (z_put t_5 0 13 ((t_5 0 13) + r_3)) (fun t_6 => some (0, t_6)))))))))))))
set_option maxHeartbeats 4000000 in
set_option maxRecDepth 100000 in
theorem k_X11_pays {l : Launch} {dC : Nat → ClassId} {dI : Nat → Nat → Nat} {A : Nat → Prop} {ad : Nat → Nat} {cI cC cW : ClassId} (hO : zO A 16 ad (cfM ad cI)) (N : Nat) (v1 : Int32) (v2 : Int32) (σ : zS) : zM l dC dI A 16 ad (cfM ad cI) (z_ty cI cC cW) false yX11_pays cX11_pays 5 none 1 [.ref (ad 0), .int v1, .int v2] σ (f_X11_pays N v1 v2 σ) := by
  refine zM_of hO (by decide) (Nat.le_of_ble_eq_true rfl) (fun G hG C => ?_)
  subst hG
  unfold f_X11_pays
  refine zx_sub (L1 := [(0, .ref (ad 0)), (1, .int v1), (2, .int v2)]) [0, 1, 2] rfl ?_
  refine zx_aload_n C 0 dX11_pays_0 rfl rfl ?_
  refine zx_get C 5 (by decide) rfl rfl (by decide) inX11 q_657 rfl rfl dX11_pays_1 ?_
  refine zx_iload_n C 1 dX11_pays_4 rfl rfl ?_
  refine zx_iald C 0 (by decide) rfl rfl dX11_pays_5 ?_
  refine zx_aload_n C 0 dX11_pays_6 rfl rfl ?_
  refine zx_get C 4 (by decide) rfl rfl (by decide) inX11 q_656 rfl rfl dX11_pays_7 ?_
  refine zx_iload_n C 1 dX11_pays_10 rfl rfl ?_
  refine zx_iald C 0 (by decide) rfl rfl dX11_pays_11 ?_
  refine zx_icmp_ne (tgt := 16) C dX11_pays_12 (by decide) (fun h_1 => ?_) (fun h_1 => ?_)
  · refine zx_iconst (v := 4) C dX11_pays_16 (by decide) ?_
    refine zx_aload_n C 0 dX11_pays_17 rfl rfl ?_
    refine zx_get C 4 (by decide) rfl rfl (by decide) inX11 q_656 rfl rfl dX11_pays_18 ?_
    refine zx_iload_n C 1 dX11_pays_21 rfl rfl ?_
    refine zx_iald C 0 (by decide) rfl rfl dX11_pays_22 ?_
    refine zx_imul C dX11_pays_23 ?_
    refine zx_aload_n C 0 dX11_pays_24 rfl rfl ?_
    refine zx_get C 5 (by decide) rfl rfl (by decide) inX11 q_657 rfl rfl dX11_pays_25 ?_
    refine zx_iload_n C 1 dX11_pays_28 rfl rfl ?_
    refine zx_iald C 0 (by decide) rfl rfl dX11_pays_29 ?_
    refine zx_iadd C dX11_pays_30 ?_
    refine zx_n (fun z_2 => ?_)
    refine zx_istore_n (L1 := [(3, .int z_2), (0, .ref (ad 0)), (1, .int v1), (2, .int v2)]) C dX11_pays_31 rfl (by decide) rfl ?_
    refine zx_iload_n C 3 dX11_pays_32 rfl rfl ?_
    refine zx_aload_n C 1 dX11_pays_33 rfl rfl ?_
    refine zx_get C 8 (by decide) rfl rfl (by decide) inX11 q_660 rfl rfl dX11_pays_34 ?_
    refine zx_iload_n C 0 dX11_pays_37 rfl rfl ?_
    refine zx_iald C 0 (by decide) rfl rfl dX11_pays_38 ?_
    refine zx_callS (av := [.int v2, .int (σ 8 z_2.toNatClampNeg)]) (st := []) C yk_X11_least q_819 q_820 (k_X11_least C.hO N v2 (σ 8 z_2.toNatClampNeg) σ) (by decide) rfl rfl (Nat.le_of_ble_eq_true rfl) dX11_pays_39 (fun _ r_3 t_4 => ?_) (fun h9 => nomatch h9)
    refine zx_istore (L1 := [(4, .int r_3), (3, .int z_2), (0, .ref (ad 0)), (1, .int v1), (2, .int v2)]) C dX11_pays_42 (by decide) rfl ?_
    refine zx_aload_n C 2 dX11_pays_44 rfl rfl ?_
    refine zx_get C 8 (by decide) rfl rfl (by decide) inX11 q_660 rfl rfl dX11_pays_45 ?_
    refine zx_iload_n C 1 dX11_pays_48 rfl rfl ?_
    refine zx_dup2 C dX11_pays_49 rfl rfl ?_
    refine zx_iald C 0 (by decide) rfl rfl dX11_pays_50 ?_
    refine zx_iload C 0 dX11_pays_51 rfl ?_
    refine zx_isub C dX11_pays_53 ?_
    refine zx_iast C 0 (by decide) (fun _ => rfl) rfl dX11_pays_54 (fun t_5 => ?_)
    refine zx_aload_n C 2 dX11_pays_55 rfl rfl ?_
    refine zx_dup C dX11_pays_56 rfl ?_
    refine zx_get C 13 (by decide) rfl rfl (by decide) inX11 q_665 rfl rfl dX11_pays_57 ?_
    refine zx_iload C 0 dX11_pays_60 rfl ?_
    refine zx_iadd C dX11_pays_62 ?_
    refine zx_put (ty := .int) C 13 (by decide) rfl rfl (by decide) inX11 tyX11 tyX11_ok nmX11 q_665 rfl rfl (by decide +kernel) rfl rfl (Nat.le_of_ble_eq_true rfl) (by rfl) dX11_pays_63 (fun t_6 => ?_)
    exact zx_vret C dX11_pays_66
  · exact zx_vret C dX11_pays_15
def bf_X11_goesMinute_2 (N : Nat) (rec2 : Int32 → zS → zA) (v1 : Int32) (σ : zS) : zA := (if (σ 0 9) ≤ v1 then z_m (z_put σ 0 10 ((σ 0 10) + (1 : Int32))) (fun t_2 => some (0, t_2)) else z_g (z_in v1 6) ((if (σ 6 v1.toNatClampNeg) = (0 : Int32) then (rec2 (v1 + (1 : Int32)) σ) else z_g (z_in v1 6) ((if (σ 3 v1.toNatClampNeg) = (0 : Int32) then (rec2 (v1 + (1 : Int32)) σ) else z_b (f_X11_burnsOf N v1 σ) (fun r_5 t_6 => z_m (z_put t_6 0 11 ((t_6 0 11) + r_5)) (fun t_7 => z_b (f_X11_dripsOf N v1 t_7) (fun r_8 t_9 => z_m (z_put t_9 0 12 ((t_7 0 12) + r_8)) (fun t_10 => z_b (f_X11_countsOf N v1 t_10) (fun r_11 t_12 => z_b (f_X11_pays N v1 r_11 t_12) (fun r_13 t_14 => z_g (z_in v1 6) (z_g (z_in v1 6) (z_m (z_put t_14 3 v1.toNatClampNeg ((t_14 3 v1.toNatClampNeg) - r_5)) (fun t_15 => z_g (z_in v1 6) ((if (t_15 3 v1.toNatClampNeg) = (0 : Int32) then z_g (z_in v1 6) (z_m (z_put t_15 6 v1.toNatClampNeg (0 : Int32)) (fun t_17 => (rec2 (v1 + (1 : Int32)) t_17))) else (rec2 (v1 + (1 : Int32)) t_15)))))))))))))))))
set_option maxHeartbeats 4000000 in
set_option maxRecDepth 100000 in
theorem b_X11_goesMinute_2 {G : zG} {dC : Nat → ClassId} {dI : Nat → Nat → Nat} {A : Nat → Prop} {ad : Nat → Nat} {cI cC cW : ClassId} (C : zC G dC dI A 16 ad (cfM ad cI) (z_ty cI cC cW) cX11_goesMinute RX11 3 5 none) (N : Nat) (rec2 : Int32 → zS → zA) (hrec2 : ∀ (v1 : Int32) (σ : zS), zW G dC dI A 16 ad (cfM ad cI) 3 false (rec2 v1 σ) σ 2 [(0, .ref (ad 0)), (1, .int v1)] []) (v1 : Int32) (σ : zS) : zW G dC dI A 16 ad (cfM ad cI) 3 false (bf_X11_goesMinute_2 N rec2 v1 σ) σ 2 [(0, .ref (ad 0)), (1, .int v1)] [] := by
  unfold bf_X11_goesMinute_2
  refine zx_iload_n C 1 dX11_goesMinute_2 rfl rfl ?_
  refine zx_aload_n C 0 dX11_goesMinute_3 rfl rfl ?_
  refine zx_get C 9 (by decide) rfl rfl (by decide) inX11 q_661 rfl rfl dX11_goesMinute_4 ?_
  refine zx_icmp_ge (tgt := 103) C dX11_goesMinute_7 (by decide) (fun h_1 => ?_) (fun h_1 => ?_)
  · refine zx_aload_n C 0 dX11_goesMinute_103 rfl rfl ?_
    refine zx_dup C dX11_goesMinute_104 rfl ?_
    refine zx_get C 10 (by decide) rfl rfl (by decide) inX11 q_662 rfl rfl dX11_goesMinute_105 ?_
    refine zx_iconst (v := 1) C dX11_goesMinute_108 (by decide) ?_
    refine zx_iadd C dX11_goesMinute_109 ?_
    refine zx_put (ty := .int) C 10 (by decide) rfl rfl (by decide) inX11 tyX11 tyX11_ok nmX11 q_662 rfl rfl (by decide +kernel) rfl rfl (Nat.le_of_ble_eq_true rfl) (by rfl) dX11_goesMinute_110 (fun t_2 => ?_)
    exact zx_vret C dX11_goesMinute_113
  · refine zx_aload_n C 0 dX11_goesMinute_10 rfl rfl ?_
    refine zx_get C 6 (by decide) rfl rfl (by decide) inX11 q_658 rfl rfl dX11_goesMinute_11 ?_
    refine zx_iload_n C 1 dX11_goesMinute_14 rfl rfl ?_
    refine zx_iald C 0 (by decide) rfl rfl dX11_goesMinute_15 ?_
    refine zx_if_eq (tgt := 97) C dX11_goesMinute_16 (by decide) (fun h_3 => ?_) (fun h_3 => ?_)
    · refine zx_iinc (v := (v1 + (1 : Int32))) (L1 := [(1, .int (v1 + (1 : Int32))), (0, .ref (ad 0))]) C 1 dX11_goesMinute_97 rfl rfl (by decide) rfl ?_
      refine zx_goto (tgt := 2) C dX11_goesMinute_100 (by decide) ?_
      exact zx_sub (L1 := [(0, .ref (ad 0)), (1, .int (v1 + (1 : Int32)))]) [1, 0] rfl (hrec2 (v1 + (1 : Int32)) σ)
    · refine zx_aload_n C 0 dX11_goesMinute_19 rfl rfl ?_
      refine zx_get C 3 (by decide) rfl rfl (by decide) inX11 q_655 rfl rfl dX11_goesMinute_20 ?_
      refine zx_iload_n C 1 dX11_goesMinute_23 rfl rfl ?_
      refine zx_iald C 0 (by decide) rfl rfl dX11_goesMinute_24 ?_
      refine zx_if_ne (tgt := 31) C dX11_goesMinute_25 (by decide) (fun h_4 => ?_) (fun h_4 => ?_)
      · refine zx_aload_n C 0 dX11_goesMinute_31 rfl rfl ?_
        refine zx_iload_n C 1 dX11_goesMinute_32 rfl rfl ?_
        refine zx_callV (As := [.int v1]) (st := []) C yk_X11_burnsOf q_812 q_814 q_20 (by decide) rfl rfl (k_X11_burnsOf C.hO N v1 σ) (by decide) rfl rfl (Nat.le_of_ble_eq_true rfl) dX11_goesMinute_33 (fun _ r_5 t_6 => ?_) (fun h9 => nomatch h9)
        refine zx_istore_n (L1 := [(2, .int r_5), (0, .ref (ad 0)), (1, .int v1)]) C dX11_goesMinute_36 rfl (by decide) rfl ?_
        refine zx_aload_n C 1 dX11_goesMinute_37 rfl rfl ?_
        refine zx_dup C dX11_goesMinute_38 rfl ?_
        refine zx_get C 11 (by decide) rfl rfl (by decide) inX11 q_663 rfl rfl dX11_goesMinute_39 ?_
        refine zx_iload_n C 0 dX11_goesMinute_42 rfl rfl ?_
        refine zx_iadd C dX11_goesMinute_43 ?_
        refine zx_put (ty := .int) C 11 (by decide) rfl rfl (by decide) inX11 tyX11 tyX11_ok nmX11 q_663 rfl rfl (by decide +kernel) rfl rfl (Nat.le_of_ble_eq_true rfl) (by rfl) dX11_goesMinute_44 (fun t_7 => ?_)
        refine zx_aload_n C 1 dX11_goesMinute_47 rfl rfl ?_
        refine zx_dup C dX11_goesMinute_48 rfl ?_
        refine zx_get C 12 (by decide) rfl rfl (by decide) inX11 q_664 rfl rfl dX11_goesMinute_49 ?_
        refine zx_aload_n C 1 dX11_goesMinute_52 rfl rfl ?_
        refine zx_iload_n C 2 dX11_goesMinute_53 rfl rfl ?_
        refine zx_callV (As := [.int v1]) (st := [.int (t_7 0 12), .ref (ad 0)]) C yk_X11_dripsOf q_822 q_824 q_21 (by decide) rfl rfl (k_X11_dripsOf C.hO N v1 t_7) (by decide) rfl rfl (Nat.le_of_ble_eq_true rfl) dX11_goesMinute_54 (fun _ r_8 t_9 => ?_) (fun h9 => nomatch h9)
        refine zx_iadd C dX11_goesMinute_57 ?_
        refine zx_put (ty := .int) C 12 (by decide) rfl rfl (by decide) inX11 tyX11 tyX11_ok nmX11 q_664 rfl rfl (by decide +kernel) rfl rfl (Nat.le_of_ble_eq_true rfl) (by rfl) dX11_goesMinute_58 (fun t_10 => ?_)
        refine zx_aload_n C 1 dX11_goesMinute_61 rfl rfl ?_
        refine zx_iload_n C 2 dX11_goesMinute_62 rfl rfl ?_
        refine zx_aload_n C 1 dX11_goesMinute_63 rfl rfl ?_
        refine zx_iload_n C 2 dX11_goesMinute_64 rfl rfl ?_
        refine zx_callV (As := [.int v1]) (st := [.int v1, .ref (ad 0)]) C yk_X11_countsOf q_829 q_831 q_22 (by decide) rfl rfl (k_X11_countsOf C.hO N v1 t_10) (by decide) rfl rfl (Nat.le_of_ble_eq_true rfl) dX11_goesMinute_65 (fun _ r_11 t_12 => ?_) (fun h9 => nomatch h9)
        refine zx_callV (As := [.int v1, .int r_11]) (st := []) C yk_X11_pays q_868 q_870 q_25 (by decide) rfl rfl (k_X11_pays C.hO N v1 r_11 t_12) (by decide) rfl rfl (Nat.le_of_ble_eq_true rfl) dX11_goesMinute_68 (fun h9 => nomatch h9) (fun _ r_13 t_14 => ?_)
        refine zx_aload_n C 1 dX11_goesMinute_71 rfl rfl ?_
        refine zx_get C 3 (by decide) rfl rfl (by decide) inX11 q_655 rfl rfl dX11_goesMinute_72 ?_
        refine zx_iload_n C 2 dX11_goesMinute_75 rfl rfl ?_
        refine zx_dup2 C dX11_goesMinute_76 rfl rfl ?_
        refine zx_iald C 0 (by decide) rfl rfl dX11_goesMinute_77 ?_
        refine zx_iload_n C 0 dX11_goesMinute_78 rfl rfl ?_
        refine zx_isub C dX11_goesMinute_79 ?_
        refine zx_iast C 0 (by decide) (fun _ => rfl) rfl dX11_goesMinute_80 (fun t_15 => ?_)
        refine zx_aload_n C 1 dX11_goesMinute_81 rfl rfl ?_
        refine zx_get C 3 (by decide) rfl rfl (by decide) inX11 q_655 rfl rfl dX11_goesMinute_82 ?_
        refine zx_iload_n C 2 dX11_goesMinute_85 rfl rfl ?_
        refine zx_iald C 0 (by decide) rfl rfl dX11_goesMinute_86 ?_
        refine zx_if_ne (tgt := 97) C dX11_goesMinute_87 (by decide) (fun h_16 => ?_) (fun h_16 => ?_)
        · refine zx_iinc (v := (v1 + (1 : Int32))) (L1 := [(1, .int (v1 + (1 : Int32))), (2, .int r_5), (0, .ref (ad 0))]) C 2 dX11_goesMinute_97 rfl rfl (by decide) rfl ?_
          refine zx_goto (tgt := 2) C dX11_goesMinute_100 (by decide) ?_
          exact zx_sub (L1 := [(0, .ref (ad 0)), (1, .int (v1 + (1 : Int32)))]) [2, 0] rfl (hrec2 (v1 + (1 : Int32)) t_15)
        · refine zx_aload_n C 1 dX11_goesMinute_90 rfl rfl ?_
          refine zx_get C 6 (by decide) rfl rfl (by decide) inX11 q_658 rfl rfl dX11_goesMinute_91 ?_
          refine zx_iload_n C 2 dX11_goesMinute_94 rfl rfl ?_
          refine zx_iconst (v := 0) C dX11_goesMinute_95 (by decide) ?_
          refine zx_iast C 0 (by decide) (fun _ => rfl) rfl dX11_goesMinute_96 (fun t_17 => ?_)
          refine zx_iinc (v := (v1 + (1 : Int32))) (L1 := [(1, .int (v1 + (1 : Int32))), (2, .int r_5), (0, .ref (ad 0))]) C 2 dX11_goesMinute_97 rfl rfl (by decide) rfl ?_
          refine zx_goto (tgt := 2) C dX11_goesMinute_100 (by decide) ?_
          exact zx_sub (L1 := [(0, .ref (ad 0)), (1, .int (v1 + (1 : Int32)))]) [2, 0] rfl (hrec2 (v1 + (1 : Int32)) t_17)
      · refine zx_goto (tgt := 97) C dX11_goesMinute_28 (by decide) ?_
        refine zx_iinc (v := (v1 + (1 : Int32))) (L1 := [(1, .int (v1 + (1 : Int32))), (0, .ref (ad 0))]) C 1 dX11_goesMinute_97 rfl rfl (by decide) rfl ?_
        refine zx_goto (tgt := 2) C dX11_goesMinute_100 (by decide) ?_
        exact zx_sub (L1 := [(0, .ref (ad 0)), (1, .int (v1 + (1 : Int32)))]) [1, 0] rfl (hrec2 (v1 + (1 : Int32)) σ)
def lf_X11_goesMinute_2 (N : Nat) : Nat → Int32 → zS → zA
  | 0, _, _ => none
  | n + 1, v1, σ => bf_X11_goesMinute_2 N (lf_X11_goesMinute_2 N  n) v1 σ
theorem l_X11_goesMinute_2 {G : zG} {dC : Nat → ClassId} {dI : Nat → Nat → Nat} {A : Nat → Prop} {ad : Nat → Nat} {cI cC cW : ClassId} (C : zC G dC dI A 16 ad (cfM ad cI) (z_ty cI cC cW) cX11_goesMinute RX11 3 5 none) (N : Nat) : ∀ (n : Nat) (v1 : Int32) (σ : zS), zW G dC dI A 16 ad (cfM ad cI) 3 false (lf_X11_goesMinute_2 N  n v1 σ) σ 2 [(0, .ref (ad 0)), (1, .int v1)] [] := by
  intro n
  induction n with
  | zero => intro v1 σ; exact zx_none
  | succ n ih => intro v1 σ; exact b_X11_goesMinute_2 C N (lf_X11_goesMinute_2 N  n) ih v1 σ
def f_X11_goesMinute (N : Nat) (σ : zS) : zA := (lf_X11_goesMinute_2 N N (0 : Int32) σ)
set_option maxHeartbeats 4000000 in
set_option maxRecDepth 100000 in
theorem k_X11_goesMinute {l : Launch} {dC : Nat → ClassId} {dI : Nat → Nat → Nat} {A : Nat → Prop} {ad : Nat → Nat} {cI cC cW : ClassId} (hO : zO A 16 ad (cfM ad cI)) (N : Nat) (σ : zS) : zM l dC dI A 16 ad (cfM ad cI) (z_ty cI cC cW) false yX11_goesMinute cX11_goesMinute 3 none 5 [.ref (ad 0)] σ (f_X11_goesMinute N  σ) := by
  refine zM_of hO (by decide) (Nat.le_of_ble_eq_true rfl) (fun G hG C => ?_)
  subst hG
  unfold f_X11_goesMinute
  refine zx_sub (L1 := [(0, .ref (ad 0))]) [0] rfl ?_
  refine zx_iconst (v := 0) C dX11_goesMinute_0 (by decide) ?_
  refine zx_istore_n (L1 := [(1, .int (0 : Int32)), (0, .ref (ad 0))]) C dX11_goesMinute_1 rfl (by decide) rfl ?_
  exact zx_sub (L1 := [(0, .ref (ad 0)), (1, .int (0 : Int32))]) [1, 0] rfl (l_X11_goesMinute_2 C N N (0 : Int32) σ)
def bf_X11_goesMinutes_2 (N : Nat) (rec2 : Int32 → Int32 → zS → zA) (v1 : Int32) (v2 : Int32) (σ : zS) : zA := (if v1 ≤ v2 then some (0, σ) else z_b (f_X11_goesMinute N σ) (fun r_2 t_3 => (rec2 v1 (v2 + (1 : Int32)) t_3)))
set_option maxHeartbeats 4000000 in
set_option maxRecDepth 100000 in
theorem b_X11_goesMinutes_2 {G : zG} {dC : Nat → ClassId} {dI : Nat → Nat → Nat} {A : Nat → Prop} {ad : Nat → Nat} {cI cC cW : ClassId} (C : zC G dC dI A 16 ad (cfM ad cI) (z_ty cI cC cW) cX11_goesMinutes RX11 3 6 none) (N : Nat) (rec2 : Int32 → Int32 → zS → zA) (hrec2 : ∀ (v1 : Int32) (v2 : Int32) (σ : zS), zW G dC dI A 16 ad (cfM ad cI) 3 false (rec2 v1 v2 σ) σ 2 [(0, .ref (ad 0)), (1, .int v1), (2, .int v2)] []) (v1 : Int32) (v2 : Int32) (σ : zS) : zW G dC dI A 16 ad (cfM ad cI) 3 false (bf_X11_goesMinutes_2 N rec2 v1 v2 σ) σ 2 [(0, .ref (ad 0)), (1, .int v1), (2, .int v2)] [] := by
  unfold bf_X11_goesMinutes_2
  refine zx_iload_n C 2 dX11_goesMinutes_2 rfl rfl ?_
  refine zx_iload_n C 1 dX11_goesMinutes_3 rfl rfl ?_
  refine zx_icmp_ge (tgt := 17) C dX11_goesMinutes_4 (by decide) (fun h_1 => ?_) (fun h_1 => ?_)
  · exact zx_vret C dX11_goesMinutes_17
  · refine zx_aload_n C 0 dX11_goesMinutes_7 rfl rfl ?_
    refine zx_callV (As := []) (st := []) C yk_X11_goesMinute q_864 q_866 q_24 (by decide) rfl rfl (k_X11_goesMinute C.hO N σ) (by decide) rfl rfl (Nat.le_of_ble_eq_true rfl) dX11_goesMinutes_8 (fun h9 => nomatch h9) (fun _ r_2 t_3 => ?_)
    refine zx_iinc (v := (v2 + (1 : Int32))) (L1 := [(2, .int (v2 + (1 : Int32))), (0, .ref (ad 0)), (1, .int v1)]) C 2 dX11_goesMinutes_11 rfl rfl (by decide) rfl ?_
    refine zx_goto (tgt := 2) C dX11_goesMinutes_14 (by decide) ?_
    exact zx_sub (L1 := [(0, .ref (ad 0)), (1, .int v1), (2, .int (v2 + (1 : Int32)))]) [1, 2, 0] rfl (hrec2 v1 (v2 + (1 : Int32)) t_3)
def lf_X11_goesMinutes_2 (N : Nat) : Nat → Int32 → Int32 → zS → zA
  | 0, _, _, _ => none
  | n + 1, v1, v2, σ => bf_X11_goesMinutes_2 N (lf_X11_goesMinutes_2 N  n) v1 v2 σ
theorem l_X11_goesMinutes_2 {G : zG} {dC : Nat → ClassId} {dI : Nat → Nat → Nat} {A : Nat → Prop} {ad : Nat → Nat} {cI cC cW : ClassId} (C : zC G dC dI A 16 ad (cfM ad cI) (z_ty cI cC cW) cX11_goesMinutes RX11 3 6 none) (N : Nat) : ∀ (n : Nat) (v1 : Int32) (v2 : Int32) (σ : zS), zW G dC dI A 16 ad (cfM ad cI) 3 false (lf_X11_goesMinutes_2 N  n v1 v2 σ) σ 2 [(0, .ref (ad 0)), (1, .int v1), (2, .int v2)] [] := by
  intro n
  induction n with
  | zero => intro v1 v2 σ; exact zx_none
  | succ n ih => intro v1 v2 σ; exact b_X11_goesMinutes_2 C N (lf_X11_goesMinutes_2 N  n) ih v1 v2 σ
def f_X11_goesMinutes (N : Nat) (v1 : Int32) (σ : zS) : zA := (lf_X11_goesMinutes_2 N N v1 (0 : Int32) σ)
set_option maxHeartbeats 4000000 in
set_option maxRecDepth 100000 in
theorem k_X11_goesMinutes {l : Launch} {dC : Nat → ClassId} {dI : Nat → Nat → Nat} {A : Nat → Prop} {ad : Nat → Nat} {cI cC cW : ClassId} (hO : zO A 16 ad (cfM ad cI)) (N : Nat) (v1 : Int32) (σ : zS) : zM l dC dI A 16 ad (cfM ad cI) (z_ty cI cC cW) false yX11_goesMinutes cX11_goesMinutes 3 none 6 [.ref (ad 0), .int v1] σ (f_X11_goesMinutes N v1 σ) := by
  refine zM_of hO (by decide) (Nat.le_of_ble_eq_true rfl) (fun G hG C => ?_)
  subst hG
  unfold f_X11_goesMinutes
  refine zx_sub (L1 := [(0, .ref (ad 0)), (1, .int v1)]) [0, 1] rfl ?_
  refine zx_iconst (v := 0) C dX11_goesMinutes_0 (by decide) ?_
  refine zx_istore_n (L1 := [(2, .int (0 : Int32)), (0, .ref (ad 0)), (1, .int v1)]) C dX11_goesMinutes_1 rfl (by decide) rfl ?_
  exact zx_sub (L1 := [(0, .ref (ad 0)), (1, .int v1), (2, .int (0 : Int32))]) [1, 2, 0] rfl (l_X11_goesMinutes_2 C N N v1 (0 : Int32) σ)
def bf_X11_go_27 (N : Nat) (v1 : Int32) (v2 : Int32) (σ : zS) : zA := (if v2 = (0 : Int32) then z_n (σ 0 11) (fun z_2 => z_b (f_X11_goesMinutes N v1 σ) (fun r_3 t_4 => some (((t_4 0 11) - z_2), t_4))) else z_b (f_X11_no N v2 σ) (fun r_5 t_6 => some (r_5, t_6)))
set_option maxHeartbeats 4000000 in
set_option maxRecDepth 100000 in
theorem b_X11_go_27 {G : zG} {dC : Nat → ClassId} {dI : Nat → Nat → Nat} {A : Nat → Prop} {ad : Nat → Nat} {cI cC cW : ClassId} (C : zC G dC dI A 16 ad (cfM ad cI) (z_ty cI cC cW) cX11_go RX11 4 7 (some .int)) (N : Nat) (v1 : Int32) (v2 : Int32) (σ : zS) : zW G dC dI A 16 ad (cfM ad cI) 4 true (bf_X11_go_27 N  v1 v2 σ) σ 27 [(0, .ref (ad 0)), (1, .int v1), (2, .int v2)] [] := by
  unfold bf_X11_go_27
  refine zx_iload_n C 2 dX11_go_27 rfl rfl ?_
  refine zx_if_eq (tgt := 37) C dX11_go_28 (by decide) (fun h_1 => ?_) (fun h_1 => ?_)
  · refine zx_aload_n C 0 dX11_go_37 rfl rfl ?_
    refine zx_get C 11 (by decide) rfl rfl (by decide) inX11 q_663 rfl rfl dX11_go_38 ?_
    refine zx_n (fun z_2 => ?_)
    refine zx_istore_n (L1 := [(3, .int z_2), (0, .ref (ad 0)), (1, .int v1), (2, .int v2)]) C dX11_go_41 rfl (by decide) rfl ?_
    refine zx_aload_n C 1 dX11_go_42 rfl rfl ?_
    refine zx_iload_n C 2 dX11_go_43 rfl rfl ?_
    refine zx_callV (As := [.int v1]) (st := []) C yk_X11_goesMinutes q_860 q_862 q_23 (by decide) rfl rfl (k_X11_goesMinutes C.hO N v1 σ) (by decide) rfl rfl (Nat.le_of_ble_eq_true rfl) dX11_go_44 (fun h9 => nomatch h9) (fun _ r_3 t_4 => ?_)
    refine zx_aload_n C 1 dX11_go_47 rfl rfl ?_
    refine zx_get C 11 (by decide) rfl rfl (by decide) inX11 q_663 rfl rfl dX11_go_48 ?_
    refine zx_iload_n C 0 dX11_go_51 rfl rfl ?_
    refine zx_isub C dX11_go_52 ?_
    exact zx_iret C dX11_go_53
  · refine zx_aload_n C 0 dX11_go_31 rfl rfl ?_
    refine zx_iload_n C 2 dX11_go_32 rfl rfl ?_
    refine zx_callV (As := [.int v2]) (st := []) C yk_X11_no q_747 q_749 q_10 (by decide) rfl rfl (k_X11_no C.hO N v2 σ) (by decide) rfl rfl (Nat.le_of_ble_eq_true rfl) dX11_go_33 (fun _ r_5 t_6 => ?_) (fun h9 => nomatch h9)
    exact zx_iret C dX11_go_36
def f_X11_go (N : Nat) (v1 : Int32) (σ : zS) : zA := z_b (f_X11_bound N v1 (1 : Int32) (99 : Int32) σ) (fun r_7 t_8 => (if r_7 = (0 : Int32) then (if ((t_8 0 10) + v1) ≤ (9999 : Int32) then (bf_X11_go_27 N v1 r_7 t_8) else (bf_X11_go_27 N v1 (-6 : Int32) t_8)) else (bf_X11_go_27 N v1 r_7 t_8)))
set_option maxHeartbeats 4000000 in
set_option maxRecDepth 100000 in
theorem k_X11_go {l : Launch} {dC : Nat → ClassId} {dI : Nat → Nat → Nat} {A : Nat → Prop} {ad : Nat → Nat} {cI cC cW : ClassId} (hO : zO A 16 ad (cfM ad cI)) (N : Nat) (v1 : Int32) (σ : zS) : zM l dC dI A 16 ad (cfM ad cI) (z_ty cI cC cW) true yX11_go cX11_go 4 (some .int) 7 [.ref (ad 0), .int v1] σ (f_X11_go N v1 σ) := by
  refine zM_of hO (by decide) (Nat.le_of_ble_eq_true rfl) (fun G hG C => ?_)
  subst hG
  unfold f_X11_go
  refine zx_sub (L1 := [(0, .ref (ad 0)), (1, .int v1)]) [0, 1] rfl ?_
  refine zx_iload_n C 1 dX11_go_0 rfl rfl ?_
  refine zx_iconst (v := 1) C dX11_go_1 (by decide) ?_
  refine zx_bipush (v := 99) C dX11_go_2 (by decide) ?_
  refine zx_callS (av := [.int v1, .int (1 : Int32), .int (99 : Int32)]) (st := []) C yk_X11_bound q_744 q_745 (k_X11_bound C.hO N v1 (1 : Int32) (99 : Int32) σ) (by decide) rfl rfl (Nat.le_of_ble_eq_true rfl) dX11_go_4 (fun _ r_7 t_8 => ?_) (fun h9 => nomatch h9)
  refine zx_istore_n (L1 := [(2, .int r_7), (0, .ref (ad 0)), (1, .int v1)]) C dX11_go_7 rfl (by decide) rfl ?_
  refine zx_iload_n C 0 dX11_go_8 rfl rfl ?_
  refine zx_if_ne (tgt := 27) C dX11_go_9 (by decide) (fun h_9 => ?_) (fun h_9 => ?_)
  · exact zx_sub (L1 := [(0, .ref (ad 0)), (1, .int v1), (2, .int r_7)]) [1, 2, 0] rfl (b_X11_go_27 C N v1 r_7 t_8)
  · refine zx_aload_n C 1 dX11_go_12 rfl rfl ?_
    refine zx_get C 10 (by decide) rfl rfl (by decide) inX11 q_662 rfl rfl dX11_go_13 ?_
    refine zx_iload_n C 2 dX11_go_16 rfl rfl ?_
    refine zx_iadd C dX11_go_17 ?_
    refine zx_sipush (v := 9999) C dX11_go_18 (by decide) ?_
    refine zx_icmp_le (tgt := 27) C dX11_go_21 (by decide) (fun h_10 => ?_) (fun h_10 => ?_)
    · exact zx_sub (L1 := [(0, .ref (ad 0)), (1, .int v1), (2, .int r_7)]) [1, 2, 0] rfl (b_X11_go_27 C N v1 r_7 t_8)
    · refine zx_bipush (v := -6) C dX11_go_24 (by decide) ?_
      refine zx_istore_n (L1 := [(2, .int (-6 : Int32)), (0, .ref (ad 0)), (1, .int v1)]) C dX11_go_26 rfl (by decide) rfl ?_
      exact zx_sub (L1 := [(0, .ref (ad 0)), (1, .int v1), (2, .int (-6 : Int32))]) [1, 2, 0] rfl (b_X11_go_27 C N v1 (-6 : Int32) t_8)
def bf_X11_behind_20 (N : Nat) (v1 : Int32) (v2 : Int32) (u0 : Int32) (σ : zS) : zA := (if u0 = (0 : Int32) then z_b (f_X11_passesAll N (1 : Int32) (1 : Int32) σ) (fun r_2 t_3 => z_b (f_X11_goesMinutes N v2 t_3) (fun r_4 t_5 => z_g (z_in v1 6) (z_n (t_5 3 v1.toNatClampNeg) (fun z_6 => z_b (f_X11_passesAll N (1 : Int32) (0 : Int32) t_5) (fun r_7 t_8 => some (z_6, t_8)))))) else z_b (f_X11_no N u0 σ) (fun r_9 t_10 => some (r_9, t_10)))
set_option maxHeartbeats 4000000 in
set_option maxRecDepth 100000 in
theorem b_X11_behind_20 {G : zG} {dC : Nat → ClassId} {dI : Nat → Nat → Nat} {A : Nat → Prop} {ad : Nat → Nat} {cI cC cW : ClassId} (C : zC G dC dI A 16 ad (cfM ad cI) (z_ty cI cC cW) cX11_behind RX11 5 7 (some .int)) (N : Nat) (v1 : Int32) (v2 : Int32) (u0 : Int32) (σ : zS) : zW G dC dI A 16 ad (cfM ad cI) 5 true (bf_X11_behind_20 N  v1 v2 u0 σ) σ 20 [(0, .ref (ad 0)), (1, .int v1), (2, .int v2)] [.int u0] := by
  unfold bf_X11_behind_20
  refine zx_istore_n (L1 := [(3, .int u0), (0, .ref (ad 0)), (1, .int v1), (2, .int v2)]) C dX11_behind_20 rfl (by decide) rfl ?_
  refine zx_iload_n C 0 dX11_behind_21 rfl rfl ?_
  refine zx_if_eq (tgt := 31) C dX11_behind_22 (by decide) (fun h_1 => ?_) (fun h_1 => ?_)
  · refine zx_aload_n C 1 dX11_behind_31 rfl rfl ?_
    refine zx_iconst (v := 1) C dX11_behind_32 (by decide) ?_
    refine zx_iconst (v := 1) C dX11_behind_33 (by decide) ?_
    refine zx_callV (As := [.int (1 : Int32), .int (1 : Int32)]) (st := []) C yk_X11_passesAll q_770 q_772 q_14 (by decide) rfl rfl (k_X11_passesAll C.hO N (1 : Int32) (1 : Int32) σ) (by decide) rfl rfl (Nat.le_of_ble_eq_true rfl) dX11_behind_34 (fun h9 => nomatch h9) (fun _ r_2 t_3 => ?_)
    refine zx_aload_n C 1 dX11_behind_37 rfl rfl ?_
    refine zx_iload_n C 3 dX11_behind_38 rfl rfl ?_
    refine zx_callV (As := [.int v2]) (st := []) C yk_X11_goesMinutes q_860 q_862 q_23 (by decide) rfl rfl (k_X11_goesMinutes C.hO N v2 t_3) (by decide) rfl rfl (Nat.le_of_ble_eq_true rfl) dX11_behind_39 (fun h9 => nomatch h9) (fun _ r_4 t_5 => ?_)
    refine zx_aload_n C 1 dX11_behind_42 rfl rfl ?_
    refine zx_get C 3 (by decide) rfl rfl (by decide) inX11 q_655 rfl rfl dX11_behind_43 ?_
    refine zx_iload_n C 2 dX11_behind_46 rfl rfl ?_
    refine zx_iald C 0 (by decide) rfl rfl dX11_behind_47 ?_
    refine zx_n (fun z_6 => ?_)
    refine zx_istore (L1 := [(4, .int z_6), (3, .int u0), (0, .ref (ad 0)), (1, .int v1), (2, .int v2)]) C dX11_behind_48 (by decide) rfl ?_
    refine zx_aload_n C 2 dX11_behind_50 rfl rfl ?_
    refine zx_iconst (v := 1) C dX11_behind_51 (by decide) ?_
    refine zx_iconst (v := 0) C dX11_behind_52 (by decide) ?_
    refine zx_callV (As := [.int (1 : Int32), .int (0 : Int32)]) (st := []) C yk_X11_passesAll q_770 q_772 q_14 (by decide) rfl rfl (k_X11_passesAll C.hO N (1 : Int32) (0 : Int32) t_5) (by decide) rfl rfl (Nat.le_of_ble_eq_true rfl) dX11_behind_53 (fun h9 => nomatch h9) (fun _ r_7 t_8 => ?_)
    refine zx_iload C 0 dX11_behind_56 rfl ?_
    exact zx_iret C dX11_behind_58
  · refine zx_aload_n C 1 dX11_behind_25 rfl rfl ?_
    refine zx_iload_n C 0 dX11_behind_26 rfl rfl ?_
    refine zx_callV (As := [.int u0]) (st := []) C yk_X11_no q_747 q_749 q_10 (by decide) rfl rfl (k_X11_no C.hO N u0 σ) (by decide) rfl rfl (Nat.le_of_ble_eq_true rfl) dX11_behind_27 (fun _ r_9 t_10 => ?_) (fun h9 => nomatch h9)
    exact zx_iret C dX11_behind_30
def f_X11_behind (N : Nat) (v1 : Int32) (v2 : Int32) (σ : zS) : zA := z_b (f_X11_isCandle N v1 σ) (fun r_11 t_12 => (if r_11 = (0 : Int32) then (bf_X11_behind_20 N v1 v2 (-1 : Int32) t_12) else z_b (f_X11_bound N v2 (0 : Int32) (300 : Int32) t_12) (fun r_14 t_15 => (bf_X11_behind_20 N v1 v2 r_14 t_15))))
set_option maxHeartbeats 4000000 in
set_option maxRecDepth 100000 in
theorem k_X11_behind {l : Launch} {dC : Nat → ClassId} {dI : Nat → Nat → Nat} {A : Nat → Prop} {ad : Nat → Nat} {cI cC cW : ClassId} (hO : zO A 16 ad (cfM ad cI)) (N : Nat) (v1 : Int32) (v2 : Int32) (σ : zS) : zM l dC dI A 16 ad (cfM ad cI) (z_ty cI cC cW) true yX11_behind cX11_behind 5 (some .int) 7 [.ref (ad 0), .int v1, .int v2] σ (f_X11_behind N v1 v2 σ) := by
  refine zM_of hO (by decide) (Nat.le_of_ble_eq_true rfl) (fun G hG C => ?_)
  subst hG
  unfold f_X11_behind
  refine zx_sub (L1 := [(0, .ref (ad 0)), (1, .int v1), (2, .int v2)]) [0, 1, 2] rfl ?_
  refine zx_aload_n C 0 dX11_behind_0 rfl rfl ?_
  refine zx_iload_n C 1 dX11_behind_1 rfl rfl ?_
  refine zx_callV (As := [.int v1]) (st := []) C yk_X11_isCandle q_796 q_798 q_19 (by decide) rfl rfl (k_X11_isCandle C.hO N v1 σ) (by decide) rfl rfl (Nat.le_of_ble_eq_true rfl) dX11_behind_2 (fun _ r_11 t_12 => ?_) (fun h9 => nomatch h9)
  refine zx_if_ne (tgt := 12) C dX11_behind_5 (by decide) (fun h_13 => ?_) (fun h_13 => ?_)
  · refine zx_iload_n C 2 dX11_behind_12 rfl rfl ?_
    refine zx_iconst (v := 0) C dX11_behind_13 (by decide) ?_
    refine zx_sipush (v := 300) C dX11_behind_14 (by decide) ?_
    refine zx_callS (av := [.int v2, .int (0 : Int32), .int (300 : Int32)]) (st := []) C yk_X11_bound q_744 q_745 (k_X11_bound C.hO N v2 (0 : Int32) (300 : Int32) t_12) (by decide) rfl rfl (Nat.le_of_ble_eq_true rfl) dX11_behind_17 (fun _ r_14 t_15 => ?_) (fun h9 => nomatch h9)
    exact zx_sub (L1 := [(0, .ref (ad 0)), (1, .int v1), (2, .int v2)]) [0, 1, 2] rfl (b_X11_behind_20 C N v1 v2 r_14 t_15)
  · refine zx_iconst (v := -1) C dX11_behind_8 (by decide) ?_
    refine zx_goto (tgt := 20) C dX11_behind_9 (by decide) ?_
    exact zx_sub (L1 := [(0, .ref (ad 0)), (1, .int v1), (2, .int v2)]) [0, 1, 2] rfl (b_X11_behind_20 C N v1 v2 (-1 : Int32) t_12)
def bf_X11_owes_20 (N : Nat) (v1 : Int32) (v2 : Int32) (v3 : Int32) (u0 : Int32) (σ : zS) : zA := (if u0 = (0 : Int32) then z_b (f_X11_passesAll N (1 : Int32) (1 : Int32) σ) (fun r_2 t_3 => z_b (f_X11_goesMinutes N v3 t_3) (fun r_4 t_5 => z_g (z_in (((4 : Int32) * v1) + v2) 16) (z_n (t_5 8 (((4 : Int32) * v1) + v2).toNatClampNeg) (fun z_6 => z_b (f_X11_passesAll N (1 : Int32) (0 : Int32) t_5) (fun r_7 t_8 => some (z_6, t_8)))))) else z_b (f_X11_no N u0 σ) (fun r_9 t_10 => some (r_9, t_10)))
set_option maxHeartbeats 4000000 in
set_option maxRecDepth 100000 in
theorem b_X11_owes_20 {G : zG} {dC : Nat → ClassId} {dI : Nat → Nat → Nat} {A : Nat → Prop} {ad : Nat → Nat} {cI cC cW : ClassId} (C : zC G dC dI A 16 ad (cfM ad cI) (z_ty cI cC cW) cX11_owes RX11 6 7 (some .int)) (N : Nat) (v1 : Int32) (v2 : Int32) (v3 : Int32) (u0 : Int32) (σ : zS) : zW G dC dI A 16 ad (cfM ad cI) 6 true (bf_X11_owes_20 N  v1 v2 v3 u0 σ) σ 20 [(0, .ref (ad 0)), (1, .int v1), (2, .int v2), (3, .int v3)] [.int u0] := by
  unfold bf_X11_owes_20
  refine zx_istore (L1 := [(4, .int u0), (0, .ref (ad 0)), (1, .int v1), (2, .int v2), (3, .int v3)]) C dX11_owes_20 (by decide) rfl ?_
  refine zx_iload C 0 dX11_owes_22 rfl ?_
  refine zx_if_eq (tgt := 34) C dX11_owes_24 (by decide) (fun h_1 => ?_) (fun h_1 => ?_)
  · refine zx_aload_n C 1 dX11_owes_34 rfl rfl ?_
    refine zx_iconst (v := 1) C dX11_owes_35 (by decide) ?_
    refine zx_iconst (v := 1) C dX11_owes_36 (by decide) ?_
    refine zx_callV (As := [.int (1 : Int32), .int (1 : Int32)]) (st := []) C yk_X11_passesAll q_770 q_772 q_14 (by decide) rfl rfl (k_X11_passesAll C.hO N (1 : Int32) (1 : Int32) σ) (by decide) rfl rfl (Nat.le_of_ble_eq_true rfl) dX11_owes_37 (fun h9 => nomatch h9) (fun _ r_2 t_3 => ?_)
    refine zx_aload_n C 1 dX11_owes_40 rfl rfl ?_
    refine zx_iload_n C 4 dX11_owes_41 rfl rfl ?_
    refine zx_callV (As := [.int v3]) (st := []) C yk_X11_goesMinutes q_860 q_862 q_23 (by decide) rfl rfl (k_X11_goesMinutes C.hO N v3 t_3) (by decide) rfl rfl (Nat.le_of_ble_eq_true rfl) dX11_owes_42 (fun h9 => nomatch h9) (fun _ r_4 t_5 => ?_)
    refine zx_aload_n C 1 dX11_owes_45 rfl rfl ?_
    refine zx_get C 8 (by decide) rfl rfl (by decide) inX11 q_660 rfl rfl dX11_owes_46 ?_
    refine zx_iconst (v := 4) C dX11_owes_49 (by decide) ?_
    refine zx_iload_n C 2 dX11_owes_50 rfl rfl ?_
    refine zx_imul C dX11_owes_51 ?_
    refine zx_iload_n C 3 dX11_owes_52 rfl rfl ?_
    refine zx_iadd C dX11_owes_53 ?_
    refine zx_iald C 0 (by decide) rfl rfl dX11_owes_54 ?_
    refine zx_n (fun z_6 => ?_)
    refine zx_istore (L1 := [(5, .int z_6), (4, .int u0), (0, .ref (ad 0)), (1, .int v1), (2, .int v2), (3, .int v3)]) C dX11_owes_55 (by decide) rfl ?_
    refine zx_aload_n C 2 dX11_owes_57 rfl rfl ?_
    refine zx_iconst (v := 1) C dX11_owes_58 (by decide) ?_
    refine zx_iconst (v := 0) C dX11_owes_59 (by decide) ?_
    refine zx_callV (As := [.int (1 : Int32), .int (0 : Int32)]) (st := []) C yk_X11_passesAll q_770 q_772 q_14 (by decide) rfl rfl (k_X11_passesAll C.hO N (1 : Int32) (0 : Int32) t_5) (by decide) rfl rfl (Nat.le_of_ble_eq_true rfl) dX11_owes_60 (fun h9 => nomatch h9) (fun _ r_7 t_8 => ?_)
    refine zx_iload C 0 dX11_owes_63 rfl ?_
    exact zx_iret C dX11_owes_65
  · refine zx_aload_n C 1 dX11_owes_27 rfl rfl ?_
    refine zx_iload C 0 dX11_owes_28 rfl ?_
    refine zx_callV (As := [.int u0]) (st := []) C yk_X11_no q_747 q_749 q_10 (by decide) rfl rfl (k_X11_no C.hO N u0 σ) (by decide) rfl rfl (Nat.le_of_ble_eq_true rfl) dX11_owes_30 (fun _ r_9 t_10 => ?_) (fun h9 => nomatch h9)
    exact zx_iret C dX11_owes_33
def f_X11_owes (N : Nat) (v1 : Int32) (v2 : Int32) (v3 : Int32) (σ : zS) : zA := z_b (f_X11_areTwo N v1 v2 σ) (fun r_11 t_12 => (if r_11 = (0 : Int32) then (bf_X11_owes_20 N v1 v2 v3 (-1 : Int32) t_12) else z_b (f_X11_bound N v3 (0 : Int32) (300 : Int32) t_12) (fun r_14 t_15 => (bf_X11_owes_20 N v1 v2 v3 r_14 t_15))))
set_option maxHeartbeats 4000000 in
set_option maxRecDepth 100000 in
theorem k_X11_owes {l : Launch} {dC : Nat → ClassId} {dI : Nat → Nat → Nat} {A : Nat → Prop} {ad : Nat → Nat} {cI cC cW : ClassId} (hO : zO A 16 ad (cfM ad cI)) (N : Nat) (v1 : Int32) (v2 : Int32) (v3 : Int32) (σ : zS) : zM l dC dI A 16 ad (cfM ad cI) (z_ty cI cC cW) true yX11_owes cX11_owes 6 (some .int) 7 [.ref (ad 0), .int v1, .int v2, .int v3] σ (f_X11_owes N v1 v2 v3 σ) := by
  refine zM_of hO (by decide) (Nat.le_of_ble_eq_true rfl) (fun G hG C => ?_)
  subst hG
  unfold f_X11_owes
  refine zx_sub (L1 := [(0, .ref (ad 0)), (1, .int v1), (2, .int v2), (3, .int v3)]) [0, 1, 2, 3] rfl ?_
  refine zx_iload_n C 1 dX11_owes_0 rfl rfl ?_
  refine zx_iload_n C 2 dX11_owes_1 rfl rfl ?_
  refine zx_callS (av := [.int v1, .int v2]) (st := []) C yk_X11_areTwo q_793 q_794 (k_X11_areTwo C.hO N v1 v2 σ) (by decide) rfl rfl (Nat.le_of_ble_eq_true rfl) dX11_owes_2 (fun _ r_11 t_12 => ?_) (fun h9 => nomatch h9)
  refine zx_if_ne (tgt := 12) C dX11_owes_5 (by decide) (fun h_13 => ?_) (fun h_13 => ?_)
  · refine zx_iload_n C 3 dX11_owes_12 rfl rfl ?_
    refine zx_iconst (v := 0) C dX11_owes_13 (by decide) ?_
    refine zx_sipush (v := 300) C dX11_owes_14 (by decide) ?_
    refine zx_callS (av := [.int v3, .int (0 : Int32), .int (300 : Int32)]) (st := []) C yk_X11_bound q_744 q_745 (k_X11_bound C.hO N v3 (0 : Int32) (300 : Int32) t_12) (by decide) rfl rfl (Nat.le_of_ble_eq_true rfl) dX11_owes_17 (fun _ r_14 t_15 => ?_) (fun h9 => nomatch h9)
    exact zx_sub (L1 := [(0, .ref (ad 0)), (1, .int v1), (2, .int v2), (3, .int v3)]) [0, 1, 2, 3] rfl (b_X11_owes_20 C N v1 v2 v3 r_14 t_15)
  · refine zx_iconst (v := -1) C dX11_owes_8 (by decide) ?_
    refine zx_goto (tgt := 20) C dX11_owes_9 (by decide) ?_
    exact zx_sub (L1 := [(0, .ref (ad 0)), (1, .int v1), (2, .int v2), (3, .int v3)]) [0, 1, 2, 3] rfl (b_X11_owes_20 C N v1 v2 v3 (-1 : Int32) t_12)
def bf_X11_isBright_45 (N : Nat) (rec4 : Int32 → Int32 → Int32 → zS → zA) (v1 : Int32) (v3 : Int32) (σ : zS) : zA := (rec4 v1 (1 : Int32) (v3 + (1 : Int32)) σ)
set_option maxHeartbeats 4000000 in
set_option maxRecDepth 100000 in
theorem b_X11_isBright_45 {G : zG} {dC : Nat → ClassId} {dI : Nat → Nat → Nat} {A : Nat → Prop} {ad : Nat → Nat} {cI cC cW : ClassId} (C : zC G dC dI A 16 ad (cfM ad cI) (z_ty cI cC cW) cX11_isBright RX11 4 0 (some .boolean)) (N : Nat) (rec4 : Int32 → Int32 → Int32 → zS → zA) (hrec4 : ∀ (v1 : Int32) (v2 : Int32) (v3 : Int32) (σ : zS), zW G dC dI A 16 ad (cfM ad cI) 4 true (rec4 v1 v2 v3 σ) σ 4 [(0, .ref (ad 0)), (1, .int v1), (2, .int v2), (3, .int v3)] []) (v1 : Int32) (v3 : Int32) (σ : zS) : zW G dC dI A 16 ad (cfM ad cI) 4 true (bf_X11_isBright_45 N rec4 v1 v3 σ) σ 45 [(0, .ref (ad 0)), (1, .int v1), (3, .int v3)] [] := by
  unfold bf_X11_isBright_45
  refine zx_iconst (v := 1) C dX11_isBright_45 (by decide) ?_
  refine zx_goto (tgt := 50) C dX11_isBright_46 (by decide) ?_
  refine zx_istore_n (L1 := [(2, .int (1 : Int32)), (0, .ref (ad 0)), (1, .int v1), (3, .int v3)]) C dX11_isBright_50 rfl (by decide) rfl ?_
  refine zx_iinc (v := (v3 + (1 : Int32))) (L1 := [(3, .int (v3 + (1 : Int32))), (2, .int (1 : Int32)), (0, .ref (ad 0)), (1, .int v1)]) C 3 dX11_isBright_51 rfl rfl (by decide) rfl ?_
  refine zx_goto (tgt := 4) C dX11_isBright_54 (by decide) ?_
  exact zx_sub (L1 := [(0, .ref (ad 0)), (1, .int v1), (2, .int (1 : Int32)), (3, .int (v3 + (1 : Int32)))]) [2, 3, 1, 0] rfl (hrec4 v1 (1 : Int32) (v3 + (1 : Int32)) σ)
def bf_X11_isBright_4 (N : Nat) (rec4 : Int32 → Int32 → Int32 → zS → zA) (v1 : Int32) (v2 : Int32) (v3 : Int32) (σ : zS) : zA := (if (σ 0 9) ≤ v3 then z_g (z_bo v2) (some (v2, σ)) else (if v2 = (0 : Int32) then z_g (z_in v3 6) ((if (σ 5 v3.toNatClampNeg) = v1 then z_g (z_in v3 6) ((if (σ 6 v3.toNatClampNeg) = (1 : Int32) then z_g (z_in v3 6) ((if (σ 3 v3.toNatClampNeg) ≤ (0 : Int32) then (rec4 v1 (0 : Int32) (v3 + (1 : Int32)) σ) else (bf_X11_isBright_45 N rec4 v1 v3 σ))) else (rec4 v1 (0 : Int32) (v3 + (1 : Int32)) σ))) else (rec4 v1 (0 : Int32) (v3 + (1 : Int32)) σ))) else (bf_X11_isBright_45 N rec4 v1 v3 σ)))
set_option maxHeartbeats 4000000 in
set_option maxRecDepth 100000 in
theorem b_X11_isBright_4 {G : zG} {dC : Nat → ClassId} {dI : Nat → Nat → Nat} {A : Nat → Prop} {ad : Nat → Nat} {cI cC cW : ClassId} (C : zC G dC dI A 16 ad (cfM ad cI) (z_ty cI cC cW) cX11_isBright RX11 4 0 (some .boolean)) (N : Nat) (rec4 : Int32 → Int32 → Int32 → zS → zA) (hrec4 : ∀ (v1 : Int32) (v2 : Int32) (v3 : Int32) (σ : zS), zW G dC dI A 16 ad (cfM ad cI) 4 true (rec4 v1 v2 v3 σ) σ 4 [(0, .ref (ad 0)), (1, .int v1), (2, .int v2), (3, .int v3)] []) (v1 : Int32) (v2 : Int32) (v3 : Int32) (σ : zS) : zW G dC dI A 16 ad (cfM ad cI) 4 true (bf_X11_isBright_4 N rec4 v1 v2 v3 σ) σ 4 [(0, .ref (ad 0)), (1, .int v1), (2, .int v2), (3, .int v3)] [] := by
  unfold bf_X11_isBright_4
  refine zx_iload_n C 3 dX11_isBright_4 rfl rfl ?_
  refine zx_aload_n C 0 dX11_isBright_5 rfl rfl ?_
  refine zx_get C 9 (by decide) rfl rfl (by decide) inX11 q_661 rfl rfl dX11_isBright_6 ?_
  refine zx_icmp_ge (tgt := 57) C dX11_isBright_9 (by decide) (fun h_1 => ?_) (fun h_1 => ?_)
  · refine zx_iload_n C 2 dX11_isBright_57 rfl rfl ?_
    exact zx_zretg C dX11_isBright_58
  · refine zx_iload_n C 2 dX11_isBright_12 rfl rfl ?_
    refine zx_if_ne (tgt := 45) C dX11_isBright_13 (by decide) (fun h_2 => ?_) (fun h_2 => ?_)
    · exact zx_sub (L1 := [(0, .ref (ad 0)), (1, .int v1), (3, .int v3)]) [0, 1, 3] rfl (b_X11_isBright_45 C N rec4 hrec4 v1 v3 σ)
    · refine zx_aload_n C 0 dX11_isBright_16 rfl rfl ?_
      refine zx_get C 5 (by decide) rfl rfl (by decide) inX11 q_657 rfl rfl dX11_isBright_17 ?_
      refine zx_iload_n C 3 dX11_isBright_20 rfl rfl ?_
      refine zx_iald C 0 (by decide) rfl rfl dX11_isBright_21 ?_
      refine zx_iload_n C 1 dX11_isBright_22 rfl rfl ?_
      refine zx_icmp_ne (tgt := 49) C dX11_isBright_23 (by decide) (fun h_3 => ?_) (fun h_3 => ?_)
      · refine zx_iconst (v := 0) C dX11_isBright_49 (by decide) ?_
        refine zx_istore_n (L1 := [(2, .int (0 : Int32)), (0, .ref (ad 0)), (1, .int v1), (3, .int v3)]) C dX11_isBright_50 rfl (by decide) rfl ?_
        refine zx_iinc (v := (v3 + (1 : Int32))) (L1 := [(3, .int (v3 + (1 : Int32))), (2, .int (0 : Int32)), (0, .ref (ad 0)), (1, .int v1)]) C 3 dX11_isBright_51 rfl rfl (by decide) rfl ?_
        refine zx_goto (tgt := 4) C dX11_isBright_54 (by decide) ?_
        exact zx_sub (L1 := [(0, .ref (ad 0)), (1, .int v1), (2, .int (0 : Int32)), (3, .int (v3 + (1 : Int32)))]) [2, 3, 1, 0] rfl (hrec4 v1 (0 : Int32) (v3 + (1 : Int32)) σ)
      · refine zx_aload_n C 0 dX11_isBright_26 rfl rfl ?_
        refine zx_get C 6 (by decide) rfl rfl (by decide) inX11 q_658 rfl rfl dX11_isBright_27 ?_
        refine zx_iload_n C 3 dX11_isBright_30 rfl rfl ?_
        refine zx_iald C 0 (by decide) rfl rfl dX11_isBright_31 ?_
        refine zx_iconst (v := 1) C dX11_isBright_32 (by decide) ?_
        refine zx_icmp_ne (tgt := 49) C dX11_isBright_33 (by decide) (fun h_4 => ?_) (fun h_4 => ?_)
        · refine zx_iconst (v := 0) C dX11_isBright_49 (by decide) ?_
          refine zx_istore_n (L1 := [(2, .int (0 : Int32)), (0, .ref (ad 0)), (1, .int v1), (3, .int v3)]) C dX11_isBright_50 rfl (by decide) rfl ?_
          refine zx_iinc (v := (v3 + (1 : Int32))) (L1 := [(3, .int (v3 + (1 : Int32))), (2, .int (0 : Int32)), (0, .ref (ad 0)), (1, .int v1)]) C 3 dX11_isBright_51 rfl rfl (by decide) rfl ?_
          refine zx_goto (tgt := 4) C dX11_isBright_54 (by decide) ?_
          exact zx_sub (L1 := [(0, .ref (ad 0)), (1, .int v1), (2, .int (0 : Int32)), (3, .int (v3 + (1 : Int32)))]) [2, 3, 1, 0] rfl (hrec4 v1 (0 : Int32) (v3 + (1 : Int32)) σ)
        · refine zx_aload_n C 0 dX11_isBright_36 rfl rfl ?_
          refine zx_get C 3 (by decide) rfl rfl (by decide) inX11 q_655 rfl rfl dX11_isBright_37 ?_
          refine zx_iload_n C 3 dX11_isBright_40 rfl rfl ?_
          refine zx_iald C 0 (by decide) rfl rfl dX11_isBright_41 ?_
          refine zx_if_le (tgt := 49) C dX11_isBright_42 (by decide) (fun h_5 => ?_) (fun h_5 => ?_)
          · refine zx_iconst (v := 0) C dX11_isBright_49 (by decide) ?_
            refine zx_istore_n (L1 := [(2, .int (0 : Int32)), (0, .ref (ad 0)), (1, .int v1), (3, .int v3)]) C dX11_isBright_50 rfl (by decide) rfl ?_
            refine zx_iinc (v := (v3 + (1 : Int32))) (L1 := [(3, .int (v3 + (1 : Int32))), (2, .int (0 : Int32)), (0, .ref (ad 0)), (1, .int v1)]) C 3 dX11_isBright_51 rfl rfl (by decide) rfl ?_
            refine zx_goto (tgt := 4) C dX11_isBright_54 (by decide) ?_
            exact zx_sub (L1 := [(0, .ref (ad 0)), (1, .int v1), (2, .int (0 : Int32)), (3, .int (v3 + (1 : Int32)))]) [2, 3, 1, 0] rfl (hrec4 v1 (0 : Int32) (v3 + (1 : Int32)) σ)
          · exact zx_sub (L1 := [(0, .ref (ad 0)), (1, .int v1), (3, .int v3)]) [0, 1, 3] rfl (b_X11_isBright_45 C N rec4 hrec4 v1 v3 σ)
def lf_X11_isBright_4 (N : Nat) : Nat → Int32 → Int32 → Int32 → zS → zA
  | 0, _, _, _, _ => none
  | n + 1, v1, v2, v3, σ => bf_X11_isBright_4 N (lf_X11_isBright_4 N  n) v1 v2 v3 σ
theorem l_X11_isBright_4 {G : zG} {dC : Nat → ClassId} {dI : Nat → Nat → Nat} {A : Nat → Prop} {ad : Nat → Nat} {cI cC cW : ClassId} (C : zC G dC dI A 16 ad (cfM ad cI) (z_ty cI cC cW) cX11_isBright RX11 4 0 (some .boolean)) (N : Nat) : ∀ (n : Nat) (v1 : Int32) (v2 : Int32) (v3 : Int32) (σ : zS), zW G dC dI A 16 ad (cfM ad cI) 4 true (lf_X11_isBright_4 N  n v1 v2 v3 σ) σ 4 [(0, .ref (ad 0)), (1, .int v1), (2, .int v2), (3, .int v3)] [] := by
  intro n
  induction n with
  | zero => intro v1 v2 v3 σ; exact zx_none
  | succ n ih => intro v1 v2 v3 σ; exact b_X11_isBright_4 C N (lf_X11_isBright_4 N  n) ih v1 v2 v3 σ
def f_X11_isBright (N : Nat) (v1 : Int32) (σ : zS) : zA := (lf_X11_isBright_4 N N v1 (0 : Int32) (0 : Int32) σ)
set_option maxHeartbeats 4000000 in
set_option maxRecDepth 100000 in
theorem k_X11_isBright {l : Launch} {dC : Nat → ClassId} {dI : Nat → Nat → Nat} {A : Nat → Prop} {ad : Nat → Nat} {cI cC cW : ClassId} (hO : zO A 16 ad (cfM ad cI)) (N : Nat) (v1 : Int32) (σ : zS) : zM l dC dI A 16 ad (cfM ad cI) (z_ty cI cC cW) true yX11_isBright cX11_isBright 4 (some .boolean) 0 [.ref (ad 0), .int v1] σ (f_X11_isBright N v1 σ) := by
  refine zM_of hO (by decide) (Nat.le_of_ble_eq_true rfl) (fun G hG C => ?_)
  subst hG
  unfold f_X11_isBright
  refine zx_sub (L1 := [(0, .ref (ad 0)), (1, .int v1)]) [0, 1] rfl ?_
  refine zx_iconst (v := 0) C dX11_isBright_0 (by decide) ?_
  refine zx_istore_n (L1 := [(2, .int (0 : Int32)), (0, .ref (ad 0)), (1, .int v1)]) C dX11_isBright_1 rfl (by decide) rfl ?_
  refine zx_iconst (v := 0) C dX11_isBright_2 (by decide) ?_
  refine zx_istore_n (L1 := [(3, .int (0 : Int32)), (2, .int (0 : Int32)), (0, .ref (ad 0)), (1, .int v1)]) C dX11_isBright_3 rfl (by decide) rfl ?_
  exact zx_sub (L1 := [(0, .ref (ad 0)), (1, .int v1), (2, .int (0 : Int32)), (3, .int (0 : Int32))]) [2, 3, 1, 0] rfl (l_X11_isBright_4 C N N v1 (0 : Int32) (0 : Int32) σ)
def bf_X11_reads_63 (N : Nat) (rec42 : Int32 → Int32 → Int32 → Int32 → zS → zA) (v1 : Int32) (v2 : Int32) (v5 : Int32) (u0 : Int32) (u1 : Int32) (σ : zS) : zA := z_n (u0 + u1) (fun z_1 => z_b (f_X11_goesMinute N σ) (fun r_2 t_3 => (rec42 v1 v2 z_1 (v5 + (1 : Int32)) t_3)))
set_option maxHeartbeats 4000000 in
set_option maxRecDepth 100000 in
theorem b_X11_reads_63 {G : zG} {dC : Nat → ClassId} {dI : Nat → Nat → Nat} {A : Nat → Prop} {ad : Nat → Nat} {cI cC cW : ClassId} (C : zC G dC dI A 16 ad (cfM ad cI) (z_ty cI cC cW) cX11_reads RX11 6 6 (some .int)) (N : Nat) (rec42 : Int32 → Int32 → Int32 → Int32 → zS → zA) (hrec42 : ∀ (v1 : Int32) (v2 : Int32) (v4 : Int32) (v5 : Int32) (σ : zS), zW G dC dI A 16 ad (cfM ad cI) 6 true (rec42 v1 v2 v4 v5 σ) σ 42 [(0, .ref (ad 0)), (1, .int v1), (2, .int v2), (4, .int v4), (5, .int v5)] []) (v1 : Int32) (v2 : Int32) (v5 : Int32) (u0 : Int32) (u1 : Int32) (σ : zS) : zW G dC dI A 16 ad (cfM ad cI) 6 true (bf_X11_reads_63 N rec42 v1 v2 v5 u0 u1 σ) σ 63 [(0, .ref (ad 0)), (1, .int v1), (2, .int v2), (5, .int v5)] [.int u1, .int u0] := by
  unfold bf_X11_reads_63
  refine zx_iadd C dX11_reads_63 ?_
  refine zx_n (fun z_1 => ?_)
  refine zx_istore (L1 := [(4, .int z_1), (0, .ref (ad 0)), (1, .int v1), (2, .int v2), (5, .int v5)]) C dX11_reads_64 (by decide) rfl ?_
  refine zx_aload_n C 1 dX11_reads_66 rfl rfl ?_
  refine zx_callV (As := []) (st := []) C yk_X11_goesMinute q_864 q_866 q_24 (by decide) rfl rfl (k_X11_goesMinute C.hO N σ) (by decide) rfl rfl (Nat.le_of_ble_eq_true rfl) dX11_reads_67 (fun h9 => nomatch h9) (fun _ r_2 t_3 => ?_)
  refine zx_iinc (v := (v5 + (1 : Int32))) (L1 := [(5, .int (v5 + (1 : Int32))), (4, .int z_1), (0, .ref (ad 0)), (1, .int v1), (2, .int v2)]) C 4 dX11_reads_70 rfl rfl (by decide) rfl ?_
  refine zx_goto (tgt := 42) C dX11_reads_73 (by decide) ?_
  exact zx_sub (L1 := [(0, .ref (ad 0)), (1, .int v1), (2, .int v2), (4, .int z_1), (5, .int (v5 + (1 : Int32)))]) [2, 3, 4, 1, 0] rfl (hrec42 v1 v2 z_1 (v5 + (1 : Int32)) t_3)
def bf_X11_reads_42 (N : Nat) (rec42 : Int32 → Int32 → Int32 → Int32 → zS → zA) (v1 : Int32) (v2 : Int32) (v4 : Int32) (v5 : Int32) (σ : zS) : zA := (if v2 ≤ v5 then z_b (f_X11_passesAll N (1 : Int32) (0 : Int32) σ) (fun r_5 t_6 => some (v4, t_6)) else z_b (f_X11_isBright N v1 σ) (fun r_7 t_8 => (if r_7 = (0 : Int32) then (bf_X11_reads_63 N rec42 v1 v2 v5 v4 (0 : Int32) t_8) else (bf_X11_reads_63 N rec42 v1 v2 v5 v4 (1 : Int32) t_8))))
set_option maxHeartbeats 4000000 in
set_option maxRecDepth 100000 in
theorem b_X11_reads_42 {G : zG} {dC : Nat → ClassId} {dI : Nat → Nat → Nat} {A : Nat → Prop} {ad : Nat → Nat} {cI cC cW : ClassId} (C : zC G dC dI A 16 ad (cfM ad cI) (z_ty cI cC cW) cX11_reads RX11 6 6 (some .int)) (N : Nat) (rec42 : Int32 → Int32 → Int32 → Int32 → zS → zA) (hrec42 : ∀ (v1 : Int32) (v2 : Int32) (v4 : Int32) (v5 : Int32) (σ : zS), zW G dC dI A 16 ad (cfM ad cI) 6 true (rec42 v1 v2 v4 v5 σ) σ 42 [(0, .ref (ad 0)), (1, .int v1), (2, .int v2), (4, .int v4), (5, .int v5)] []) (v1 : Int32) (v2 : Int32) (v4 : Int32) (v5 : Int32) (σ : zS) : zW G dC dI A 16 ad (cfM ad cI) 6 true (bf_X11_reads_42 N rec42 v1 v2 v4 v5 σ) σ 42 [(0, .ref (ad 0)), (1, .int v1), (2, .int v2), (4, .int v4), (5, .int v5)] [] := by
  unfold bf_X11_reads_42
  refine zx_iload C 4 dX11_reads_42 rfl ?_
  refine zx_iload_n C 2 dX11_reads_44 rfl rfl ?_
  refine zx_icmp_ge (tgt := 76) C dX11_reads_45 (by decide) (fun h_4 => ?_) (fun h_4 => ?_)
  · refine zx_aload_n C 0 dX11_reads_76 rfl rfl ?_
    refine zx_iconst (v := 1) C dX11_reads_77 (by decide) ?_
    refine zx_iconst (v := 0) C dX11_reads_78 (by decide) ?_
    refine zx_callV (As := [.int (1 : Int32), .int (0 : Int32)]) (st := []) C yk_X11_passesAll q_770 q_772 q_14 (by decide) rfl rfl (k_X11_passesAll C.hO N (1 : Int32) (0 : Int32) σ) (by decide) rfl rfl (Nat.le_of_ble_eq_true rfl) dX11_reads_79 (fun h9 => nomatch h9) (fun _ r_5 t_6 => ?_)
    refine zx_iload C 3 dX11_reads_82 rfl ?_
    exact zx_iret C dX11_reads_84
  · refine zx_iload C 3 dX11_reads_48 rfl ?_
    refine zx_aload_n C 0 dX11_reads_50 rfl rfl ?_
    refine zx_iload_n C 1 dX11_reads_51 rfl rfl ?_
    refine zx_callV (As := [.int v1]) (st := [.int v4]) C yk_X11_isBright q_884 q_886 q_26 (by decide) rfl rfl (k_X11_isBright C.hO N v1 σ) (by decide) rfl rfl (Nat.le_of_ble_eq_true rfl) dX11_reads_52 (fun _ r_7 t_8 => ?_) (fun h9 => nomatch h9)
    refine zx_if_eq (tgt := 62) C dX11_reads_55 (by decide) (fun h_9 => ?_) (fun h_9 => ?_)
    · refine zx_iconst (v := 0) C dX11_reads_62 (by decide) ?_
      exact zx_sub (L1 := [(0, .ref (ad 0)), (1, .int v1), (2, .int v2), (5, .int v5)]) [0, 1, 2, 4] rfl (b_X11_reads_63 C N rec42 hrec42 v1 v2 v5 v4 (0 : Int32) t_8)
    · refine zx_iconst (v := 1) C dX11_reads_58 (by decide) ?_
      refine zx_goto (tgt := 63) C dX11_reads_59 (by decide) ?_
      exact zx_sub (L1 := [(0, .ref (ad 0)), (1, .int v1), (2, .int v2), (5, .int v5)]) [0, 1, 2, 4] rfl (b_X11_reads_63 C N rec42 hrec42 v1 v2 v5 v4 (1 : Int32) t_8)
def lf_X11_reads_42 (N : Nat) : Nat → Int32 → Int32 → Int32 → Int32 → zS → zA
  | 0, _, _, _, _, _ => none
  | n + 1, v1, v2, v4, v5, σ => bf_X11_reads_42 N (lf_X11_reads_42 N  n) v1 v2 v4 v5 σ
theorem l_X11_reads_42 {G : zG} {dC : Nat → ClassId} {dI : Nat → Nat → Nat} {A : Nat → Prop} {ad : Nat → Nat} {cI cC cW : ClassId} (C : zC G dC dI A 16 ad (cfM ad cI) (z_ty cI cC cW) cX11_reads RX11 6 6 (some .int)) (N : Nat) : ∀ (n : Nat) (v1 : Int32) (v2 : Int32) (v4 : Int32) (v5 : Int32) (σ : zS), zW G dC dI A 16 ad (cfM ad cI) 6 true (lf_X11_reads_42 N  n v1 v2 v4 v5 σ) σ 42 [(0, .ref (ad 0)), (1, .int v1), (2, .int v2), (4, .int v4), (5, .int v5)] [] := by
  intro n
  induction n with
  | zero => intro v1 v2 v4 v5 σ; exact zx_none
  | succ n ih => intro v1 v2 v4 v5 σ; exact b_X11_reads_42 C N (lf_X11_reads_42 N  n) ih v1 v2 v4 v5 σ
def bf_X11_reads_19 (N : Nat) (v1 : Int32) (v2 : Int32) (u0 : Int32) (σ : zS) : zA := (if u0 = (0 : Int32) then z_b (f_X11_passesAll N (1 : Int32) (1 : Int32) σ) (fun r_11 t_12 => (lf_X11_reads_42 N N v1 v2 (0 : Int32) (0 : Int32) t_12)) else z_b (f_X11_no N u0 σ) (fun r_13 t_14 => some (r_13, t_14)))
set_option maxHeartbeats 4000000 in
set_option maxRecDepth 100000 in
theorem b_X11_reads_19 {G : zG} {dC : Nat → ClassId} {dI : Nat → Nat → Nat} {A : Nat → Prop} {ad : Nat → Nat} {cI cC cW : ClassId} (C : zC G dC dI A 16 ad (cfM ad cI) (z_ty cI cC cW) cX11_reads RX11 6 6 (some .int)) (N : Nat) (v1 : Int32) (v2 : Int32) (u0 : Int32) (σ : zS) : zW G dC dI A 16 ad (cfM ad cI) 6 true (bf_X11_reads_19 N  v1 v2 u0 σ) σ 19 [(0, .ref (ad 0)), (1, .int v1), (2, .int v2)] [.int u0] := by
  unfold bf_X11_reads_19
  refine zx_istore_n (L1 := [(3, .int u0), (0, .ref (ad 0)), (1, .int v1), (2, .int v2)]) C dX11_reads_19 rfl (by decide) rfl ?_
  refine zx_iload_n C 0 dX11_reads_20 rfl rfl ?_
  refine zx_if_eq (tgt := 30) C dX11_reads_21 (by decide) (fun h_10 => ?_) (fun h_10 => ?_)
  · refine zx_aload_n C 1 dX11_reads_30 rfl rfl ?_
    refine zx_iconst (v := 1) C dX11_reads_31 (by decide) ?_
    refine zx_iconst (v := 1) C dX11_reads_32 (by decide) ?_
    refine zx_callV (As := [.int (1 : Int32), .int (1 : Int32)]) (st := []) C yk_X11_passesAll q_770 q_772 q_14 (by decide) rfl rfl (k_X11_passesAll C.hO N (1 : Int32) (1 : Int32) σ) (by decide) rfl rfl (Nat.le_of_ble_eq_true rfl) dX11_reads_33 (fun h9 => nomatch h9) (fun _ r_11 t_12 => ?_)
    refine zx_iconst (v := 0) C dX11_reads_36 (by decide) ?_
    refine zx_istore (L1 := [(4, .int (0 : Int32)), (3, .int u0), (0, .ref (ad 0)), (1, .int v1), (2, .int v2)]) C dX11_reads_37 (by decide) rfl ?_
    refine zx_iconst (v := 0) C dX11_reads_39 (by decide) ?_
    refine zx_istore (L1 := [(5, .int (0 : Int32)), (4, .int (0 : Int32)), (3, .int u0), (0, .ref (ad 0)), (1, .int v1), (2, .int v2)]) C dX11_reads_40 (by decide) rfl ?_
    exact zx_sub (L1 := [(0, .ref (ad 0)), (1, .int v1), (2, .int v2), (4, .int (0 : Int32)), (5, .int (0 : Int32))]) [3, 4, 5, 1, 0] rfl (l_X11_reads_42 C N N v1 v2 (0 : Int32) (0 : Int32) t_12)
  · refine zx_aload_n C 1 dX11_reads_24 rfl rfl ?_
    refine zx_iload_n C 0 dX11_reads_25 rfl rfl ?_
    refine zx_callV (As := [.int u0]) (st := []) C yk_X11_no q_747 q_749 q_10 (by decide) rfl rfl (k_X11_no C.hO N u0 σ) (by decide) rfl rfl (Nat.le_of_ble_eq_true rfl) dX11_reads_26 (fun _ r_13 t_14 => ?_) (fun h9 => nomatch h9)
    exact zx_iret C dX11_reads_29
def f_X11_reads (N : Nat) (v1 : Int32) (v2 : Int32) (σ : zS) : zA := z_b (f_X11_isOne N v1 σ) (fun r_15 t_16 => (if r_15 = (0 : Int32) then (bf_X11_reads_19 N v1 v2 (-1 : Int32) t_16) else z_b (f_X11_bound N v2 (0 : Int32) (300 : Int32) t_16) (fun r_18 t_19 => (bf_X11_reads_19 N v1 v2 r_18 t_19))))
set_option maxHeartbeats 4000000 in
set_option maxRecDepth 100000 in
theorem k_X11_reads {l : Launch} {dC : Nat → ClassId} {dI : Nat → Nat → Nat} {A : Nat → Prop} {ad : Nat → Nat} {cI cC cW : ClassId} (hO : zO A 16 ad (cfM ad cI)) (N : Nat) (v1 : Int32) (v2 : Int32) (σ : zS) : zM l dC dI A 16 ad (cfM ad cI) (z_ty cI cC cW) true yX11_reads cX11_reads 6 (some .int) 6 [.ref (ad 0), .int v1, .int v2] σ (f_X11_reads N v1 v2 σ) := by
  refine zM_of hO (by decide) (Nat.le_of_ble_eq_true rfl) (fun G hG C => ?_)
  subst hG
  unfold f_X11_reads
  refine zx_sub (L1 := [(0, .ref (ad 0)), (1, .int v1), (2, .int v2)]) [0, 1, 2] rfl ?_
  refine zx_iload_n C 1 dX11_reads_0 rfl rfl ?_
  refine zx_callS (av := [.int v1]) (st := []) C yk_X11_isOne q_790 q_791 (k_X11_isOne C.hO N v1 σ) (by decide) rfl rfl (Nat.le_of_ble_eq_true rfl) dX11_reads_1 (fun _ r_15 t_16 => ?_) (fun h9 => nomatch h9)
  refine zx_if_ne (tgt := 11) C dX11_reads_4 (by decide) (fun h_17 => ?_) (fun h_17 => ?_)
  · refine zx_iload_n C 2 dX11_reads_11 rfl rfl ?_
    refine zx_iconst (v := 0) C dX11_reads_12 (by decide) ?_
    refine zx_sipush (v := 300) C dX11_reads_13 (by decide) ?_
    refine zx_callS (av := [.int v2, .int (0 : Int32), .int (300 : Int32)]) (st := []) C yk_X11_bound q_744 q_745 (k_X11_bound C.hO N v2 (0 : Int32) (300 : Int32) t_16) (by decide) rfl rfl (Nat.le_of_ble_eq_true rfl) dX11_reads_16 (fun _ r_18 t_19 => ?_) (fun h9 => nomatch h9)
    exact zx_sub (L1 := [(0, .ref (ad 0)), (1, .int v1), (2, .int v2)]) [0, 1, 2] rfl (b_X11_reads_19 C N v1 v2 r_18 t_19)
  · refine zx_iconst (v := -1) C dX11_reads_7 (by decide) ?_
    refine zx_goto (tgt := 19) C dX11_reads_8 (by decide) ?_
    exact zx_sub (L1 := [(0, .ref (ad 0)), (1, .int v1), (2, .int v2)]) [0, 1, 2] rfl (b_X11_reads_19 C N v1 v2 (-1 : Int32) t_16)
def bf_X11_ends_57 (N : Nat) (v2 : Int32) (σ : zS) : zA := z_b (f_X11_passesAll N (1 : Int32) (0 : Int32) σ) (fun r_1 t_2 => some (v2, t_2))
set_option maxHeartbeats 4000000 in
set_option maxRecDepth 100000 in
theorem b_X11_ends_57 {G : zG} {dC : Nat → ClassId} {dI : Nat → Nat → Nat} {A : Nat → Prop} {ad : Nat → Nat} {cI cC cW : ClassId} (C : zC G dC dI A 16 ad (cfM ad cI) (z_ty cI cC cW) cX11_ends RX11 4 6 (some .int)) (N : Nat) (v2 : Int32) (σ : zS) : zW G dC dI A 16 ad (cfM ad cI) 4 true (bf_X11_ends_57 N  v2 σ) σ 57 [(0, .ref (ad 0)), (2, .int v2)] [] := by
  unfold bf_X11_ends_57
  refine zx_aload_n C 0 dX11_ends_57 rfl rfl ?_
  refine zx_iconst (v := 1) C dX11_ends_58 (by decide) ?_
  refine zx_iconst (v := 0) C dX11_ends_59 (by decide) ?_
  refine zx_callV (As := [.int (1 : Int32), .int (0 : Int32)]) (st := []) C yk_X11_passesAll q_770 q_772 q_14 (by decide) rfl rfl (k_X11_passesAll C.hO N (1 : Int32) (0 : Int32) σ) (by decide) rfl rfl (Nat.le_of_ble_eq_true rfl) dX11_ends_60 (fun h9 => nomatch h9) (fun _ r_1 t_2 => ?_)
  refine zx_iload_n C 1 dX11_ends_63 rfl rfl ?_
  exact zx_iret C dX11_ends_64
def bf_X11_ends_47 (N : Nat) (rec25 : Int32 → Int32 → Int32 → zS → zA) (v1 : Int32) (v2 : Int32) (v3 : Int32) (σ : zS) : zA := z_b (f_X11_goesMinute N σ) (fun r_3 t_4 => (rec25 v1 v2 (v3 + (1 : Int32)) t_4))
set_option maxHeartbeats 4000000 in
set_option maxRecDepth 100000 in
theorem b_X11_ends_47 {G : zG} {dC : Nat → ClassId} {dI : Nat → Nat → Nat} {A : Nat → Prop} {ad : Nat → Nat} {cI cC cW : ClassId} (C : zC G dC dI A 16 ad (cfM ad cI) (z_ty cI cC cW) cX11_ends RX11 4 6 (some .int)) (N : Nat) (rec25 : Int32 → Int32 → Int32 → zS → zA) (hrec25 : ∀ (v1 : Int32) (v2 : Int32) (v3 : Int32) (σ : zS), zW G dC dI A 16 ad (cfM ad cI) 4 true (rec25 v1 v2 v3 σ) σ 25 [(0, .ref (ad 0)), (1, .int v1), (2, .int v2), (3, .int v3)] []) (v1 : Int32) (v2 : Int32) (v3 : Int32) (σ : zS) : zW G dC dI A 16 ad (cfM ad cI) 4 true (bf_X11_ends_47 N rec25 v1 v2 v3 σ) σ 47 [(0, .ref (ad 0)), (1, .int v1), (2, .int v2), (3, .int v3)] [] := by
  unfold bf_X11_ends_47
  refine zx_aload_n C 0 dX11_ends_47 rfl rfl ?_
  refine zx_callV (As := []) (st := []) C yk_X11_goesMinute q_864 q_866 q_24 (by decide) rfl rfl (k_X11_goesMinute C.hO N σ) (by decide) rfl rfl (Nat.le_of_ble_eq_true rfl) dX11_ends_48 (fun h9 => nomatch h9) (fun _ r_3 t_4 => ?_)
  refine zx_iinc (v := (v3 + (1 : Int32))) (L1 := [(3, .int (v3 + (1 : Int32))), (0, .ref (ad 0)), (1, .int v1), (2, .int v2)]) C 3 dX11_ends_51 rfl rfl (by decide) rfl ?_
  refine zx_goto (tgt := 25) C dX11_ends_54 (by decide) ?_
  exact zx_sub (L1 := [(0, .ref (ad 0)), (1, .int v1), (2, .int v2), (3, .int (v3 + (1 : Int32)))]) [1, 2, 3, 0] rfl (hrec25 v1 v2 (v3 + (1 : Int32)) t_4)
def bf_X11_ends_25 (N : Nat) (rec25 : Int32 → Int32 → Int32 → zS → zA) (v1 : Int32) (v2 : Int32) (v3 : Int32) (σ : zS) : zA := (if (999 : Int32) < v3 then (bf_X11_ends_57 N v2 σ) else (if (0 : Int32) ≤ v2 then (bf_X11_ends_57 N v2 σ) else z_g (z_in v1 6) ((if (σ 3 v1.toNatClampNeg) = (0 : Int32) then (bf_X11_ends_47 N rec25 v1 v3 v3 σ) else (bf_X11_ends_47 N rec25 v1 v2 v3 σ)))))
set_option maxHeartbeats 4000000 in
set_option maxRecDepth 100000 in
theorem b_X11_ends_25 {G : zG} {dC : Nat → ClassId} {dI : Nat → Nat → Nat} {A : Nat → Prop} {ad : Nat → Nat} {cI cC cW : ClassId} (C : zC G dC dI A 16 ad (cfM ad cI) (z_ty cI cC cW) cX11_ends RX11 4 6 (some .int)) (N : Nat) (rec25 : Int32 → Int32 → Int32 → zS → zA) (hrec25 : ∀ (v1 : Int32) (v2 : Int32) (v3 : Int32) (σ : zS), zW G dC dI A 16 ad (cfM ad cI) 4 true (rec25 v1 v2 v3 σ) σ 25 [(0, .ref (ad 0)), (1, .int v1), (2, .int v2), (3, .int v3)] []) (v1 : Int32) (v2 : Int32) (v3 : Int32) (σ : zS) : zW G dC dI A 16 ad (cfM ad cI) 4 true (bf_X11_ends_25 N rec25 v1 v2 v3 σ) σ 25 [(0, .ref (ad 0)), (1, .int v1), (2, .int v2), (3, .int v3)] [] := by
  unfold bf_X11_ends_25
  refine zx_iload_n C 3 dX11_ends_25 rfl rfl ?_
  refine zx_sipush (v := 999) C dX11_ends_26 (by decide) ?_
  refine zx_icmp_gt (tgt := 57) C dX11_ends_29 (by decide) (fun h_5 => ?_) (fun h_5 => ?_)
  · exact zx_sub (L1 := [(0, .ref (ad 0)), (2, .int v2)]) [0, 2] rfl (b_X11_ends_57 C N v2 σ)
  · refine zx_iload_n C 2 dX11_ends_32 rfl rfl ?_
    refine zx_if_ge (tgt := 57) C dX11_ends_33 (by decide) (fun h_6 => ?_) (fun h_6 => ?_)
    · exact zx_sub (L1 := [(0, .ref (ad 0)), (2, .int v2)]) [0, 2] rfl (b_X11_ends_57 C N v2 σ)
    · refine zx_aload_n C 0 dX11_ends_36 rfl rfl ?_
      refine zx_get C 3 (by decide) rfl rfl (by decide) inX11 q_655 rfl rfl dX11_ends_37 ?_
      refine zx_iload_n C 1 dX11_ends_40 rfl rfl ?_
      refine zx_iald C 0 (by decide) rfl rfl dX11_ends_41 ?_
      refine zx_if_ne (tgt := 47) C dX11_ends_42 (by decide) (fun h_7 => ?_) (fun h_7 => ?_)
      · exact zx_sub (L1 := [(0, .ref (ad 0)), (1, .int v1), (2, .int v2), (3, .int v3)]) [0, 1, 2, 3] rfl (b_X11_ends_47 C N rec25 hrec25 v1 v2 v3 σ)
      · refine zx_iload_n C 3 dX11_ends_45 rfl rfl ?_
        refine zx_istore_n (L1 := [(2, .int v3), (0, .ref (ad 0)), (1, .int v1), (3, .int v3)]) C dX11_ends_46 rfl (by decide) rfl ?_
        exact zx_sub (L1 := [(0, .ref (ad 0)), (1, .int v1), (2, .int v3), (3, .int v3)]) [1, 2, 0, 3] rfl (b_X11_ends_47 C N rec25 hrec25 v1 v3 v3 σ)
def lf_X11_ends_25 (N : Nat) : Nat → Int32 → Int32 → Int32 → zS → zA
  | 0, _, _, _, _ => none
  | n + 1, v1, v2, v3, σ => bf_X11_ends_25 N (lf_X11_ends_25 N  n) v1 v2 v3 σ
theorem l_X11_ends_25 {G : zG} {dC : Nat → ClassId} {dI : Nat → Nat → Nat} {A : Nat → Prop} {ad : Nat → Nat} {cI cC cW : ClassId} (C : zC G dC dI A 16 ad (cfM ad cI) (z_ty cI cC cW) cX11_ends RX11 4 6 (some .int)) (N : Nat) : ∀ (n : Nat) (v1 : Int32) (v2 : Int32) (v3 : Int32) (σ : zS), zW G dC dI A 16 ad (cfM ad cI) 4 true (lf_X11_ends_25 N  n v1 v2 v3 σ) σ 25 [(0, .ref (ad 0)), (1, .int v1), (2, .int v2), (3, .int v3)] [] := by
  intro n
  induction n with
  | zero => intro v1 v2 v3 σ; exact zx_none
  | succ n ih => intro v1 v2 v3 σ; exact b_X11_ends_25 C N (lf_X11_ends_25 N  n) ih v1 v2 v3 σ
def f_X11_ends (N : Nat) (v1 : Int32) (σ : zS) : zA := z_b (f_X11_isCandle N v1 σ) (fun r_8 t_9 => (if r_8 = (0 : Int32) then z_b (f_X11_no N (-1 : Int32) t_9) (fun r_13 t_14 => some (r_13, t_14)) else z_b (f_X11_passesAll N (1 : Int32) (1 : Int32) t_9) (fun r_11 t_12 => (lf_X11_ends_25 N N v1 (-9 : Int32) (0 : Int32) t_12))))
set_option maxHeartbeats 4000000 in
set_option maxRecDepth 100000 in
theorem k_X11_ends {l : Launch} {dC : Nat → ClassId} {dI : Nat → Nat → Nat} {A : Nat → Prop} {ad : Nat → Nat} {cI cC cW : ClassId} (hO : zO A 16 ad (cfM ad cI)) (N : Nat) (v1 : Int32) (σ : zS) : zM l dC dI A 16 ad (cfM ad cI) (z_ty cI cC cW) true yX11_ends cX11_ends 4 (some .int) 6 [.ref (ad 0), .int v1] σ (f_X11_ends N v1 σ) := by
  refine zM_of hO (by decide) (Nat.le_of_ble_eq_true rfl) (fun G hG C => ?_)
  subst hG
  unfold f_X11_ends
  refine zx_sub (L1 := [(0, .ref (ad 0)), (1, .int v1)]) [0, 1] rfl ?_
  refine zx_aload_n C 0 dX11_ends_0 rfl rfl ?_
  refine zx_iload_n C 1 dX11_ends_1 rfl rfl ?_
  refine zx_callV (As := [.int v1]) (st := []) C yk_X11_isCandle q_796 q_798 q_19 (by decide) rfl rfl (k_X11_isCandle C.hO N v1 σ) (by decide) rfl rfl (Nat.le_of_ble_eq_true rfl) dX11_ends_2 (fun _ r_8 t_9 => ?_) (fun h9 => nomatch h9)
  refine zx_if_ne (tgt := 14) C dX11_ends_5 (by decide) (fun h_10 => ?_) (fun h_10 => ?_)
  · refine zx_aload_n C 0 dX11_ends_14 rfl rfl ?_
    refine zx_iconst (v := 1) C dX11_ends_15 (by decide) ?_
    refine zx_iconst (v := 1) C dX11_ends_16 (by decide) ?_
    refine zx_callV (As := [.int (1 : Int32), .int (1 : Int32)]) (st := []) C yk_X11_passesAll q_770 q_772 q_14 (by decide) rfl rfl (k_X11_passesAll C.hO N (1 : Int32) (1 : Int32) t_9) (by decide) rfl rfl (Nat.le_of_ble_eq_true rfl) dX11_ends_17 (fun h9 => nomatch h9) (fun _ r_11 t_12 => ?_)
    refine zx_bipush (v := -9) C dX11_ends_20 (by decide) ?_
    refine zx_istore_n (L1 := [(2, .int (-9 : Int32)), (0, .ref (ad 0)), (1, .int v1)]) C dX11_ends_22 rfl (by decide) rfl ?_
    refine zx_iconst (v := 0) C dX11_ends_23 (by decide) ?_
    refine zx_istore_n (L1 := [(3, .int (0 : Int32)), (2, .int (-9 : Int32)), (0, .ref (ad 0)), (1, .int v1)]) C dX11_ends_24 rfl (by decide) rfl ?_
    exact zx_sub (L1 := [(0, .ref (ad 0)), (1, .int v1), (2, .int (-9 : Int32)), (3, .int (0 : Int32))]) [2, 3, 1, 0] rfl (l_X11_ends_25 C N N v1 (-9 : Int32) (0 : Int32) t_12)
  · refine zx_aload_n C 0 dX11_ends_8 rfl rfl ?_
    refine zx_iconst (v := -1) C dX11_ends_9 (by decide) ?_
    refine zx_callV (As := [.int (-1 : Int32)]) (st := []) C yk_X11_no q_747 q_749 q_10 (by decide) rfl rfl (k_X11_no C.hO N (-1 : Int32) t_9) (by decide) rfl rfl (Nat.le_of_ble_eq_true rfl) dX11_ends_10 (fun _ r_13 t_14 => ?_) (fun h9 => nomatch h9)
    exact zx_iret C dX11_ends_13
def bf_X11_debts_4 (N : Nat) (rec4 : Int32 → Int32 → zS → zA) (v1 : Int32) (v2 : Int32) (σ : zS) : zA := (if (16 : Int32) ≤ v2 then some (v1, σ) else z_g (z_in v2 16) (z_n (v1 + (σ 8 v2.toNatClampNeg)) (fun z_2 => (rec4 z_2 (v2 + (1 : Int32)) σ))))
set_option maxHeartbeats 4000000 in
set_option maxRecDepth 100000 in
theorem b_X11_debts_4 {G : zG} {dC : Nat → ClassId} {dI : Nat → Nat → Nat} {A : Nat → Prop} {ad : Nat → Nat} {cI cC cW : ClassId} (C : zC G dC dI A 16 ad (cfM ad cI) (z_ty cI cC cW) cX11_debts RX11 3 0 (some .int)) (N : Nat) (rec4 : Int32 → Int32 → zS → zA) (hrec4 : ∀ (v1 : Int32) (v2 : Int32) (σ : zS), zW G dC dI A 16 ad (cfM ad cI) 3 true (rec4 v1 v2 σ) σ 4 [(0, .ref (ad 0)), (1, .int v1), (2, .int v2)] []) (v1 : Int32) (v2 : Int32) (σ : zS) : zW G dC dI A 16 ad (cfM ad cI) 3 true (bf_X11_debts_4 N rec4 v1 v2 σ) σ 4 [(0, .ref (ad 0)), (1, .int v1), (2, .int v2)] [] := by
  unfold bf_X11_debts_4
  refine zx_iload_n C 2 dX11_debts_4 rfl rfl ?_
  refine zx_bipush (v := 16) C dX11_debts_5 (by decide) ?_
  refine zx_icmp_ge (tgt := 25) C dX11_debts_7 (by decide) (fun h_1 => ?_) (fun h_1 => ?_)
  · refine zx_iload_n C 1 dX11_debts_25 rfl rfl ?_
    exact zx_iret C dX11_debts_26
  · refine zx_iload_n C 1 dX11_debts_10 rfl rfl ?_
    refine zx_aload_n C 0 dX11_debts_11 rfl rfl ?_
    refine zx_get C 8 (by decide) rfl rfl (by decide) inX11 q_660 rfl rfl dX11_debts_12 ?_
    refine zx_iload_n C 2 dX11_debts_15 rfl rfl ?_
    refine zx_iald C 0 (by decide) rfl rfl dX11_debts_16 ?_
    refine zx_iadd C dX11_debts_17 ?_
    refine zx_n (fun z_2 => ?_)
    refine zx_istore_n (L1 := [(1, .int z_2), (0, .ref (ad 0)), (2, .int v2)]) C dX11_debts_18 rfl (by decide) rfl ?_
    refine zx_iinc (v := (v2 + (1 : Int32))) (L1 := [(2, .int (v2 + (1 : Int32))), (1, .int z_2), (0, .ref (ad 0))]) C 2 dX11_debts_19 rfl rfl (by decide) rfl ?_
    refine zx_goto (tgt := 4) C dX11_debts_22 (by decide) ?_
    exact zx_sub (L1 := [(0, .ref (ad 0)), (1, .int z_2), (2, .int (v2 + (1 : Int32)))]) [2, 1, 0] rfl (hrec4 z_2 (v2 + (1 : Int32)) σ)
def lf_X11_debts_4 (N : Nat) : Nat → Int32 → Int32 → zS → zA
  | 0, _, _, _ => none
  | n + 1, v1, v2, σ => bf_X11_debts_4 N (lf_X11_debts_4 N  n) v1 v2 σ
theorem l_X11_debts_4 {G : zG} {dC : Nat → ClassId} {dI : Nat → Nat → Nat} {A : Nat → Prop} {ad : Nat → Nat} {cI cC cW : ClassId} (C : zC G dC dI A 16 ad (cfM ad cI) (z_ty cI cC cW) cX11_debts RX11 3 0 (some .int)) (N : Nat) : ∀ (n : Nat) (v1 : Int32) (v2 : Int32) (σ : zS), zW G dC dI A 16 ad (cfM ad cI) 3 true (lf_X11_debts_4 N  n v1 v2 σ) σ 4 [(0, .ref (ad 0)), (1, .int v1), (2, .int v2)] [] := by
  intro n
  induction n with
  | zero => intro v1 v2 σ; exact zx_none
  | succ n ih => intro v1 v2 σ; exact b_X11_debts_4 C N (lf_X11_debts_4 N  n) ih v1 v2 σ
def f_X11_debts (N : Nat) (σ : zS) : zA := (lf_X11_debts_4 N N (0 : Int32) (0 : Int32) σ)
set_option maxHeartbeats 4000000 in
set_option maxRecDepth 100000 in
theorem k_X11_debts {l : Launch} {dC : Nat → ClassId} {dI : Nat → Nat → Nat} {A : Nat → Prop} {ad : Nat → Nat} {cI cC cW : ClassId} (hO : zO A 16 ad (cfM ad cI)) (N : Nat) (σ : zS) : zM l dC dI A 16 ad (cfM ad cI) (z_ty cI cC cW) true yX11_debts cX11_debts 3 (some .int) 0 [.ref (ad 0)] σ (f_X11_debts N  σ) := by
  refine zM_of hO (by decide) (Nat.le_of_ble_eq_true rfl) (fun G hG C => ?_)
  subst hG
  unfold f_X11_debts
  refine zx_sub (L1 := [(0, .ref (ad 0))]) [0] rfl ?_
  refine zx_iconst (v := 0) C dX11_debts_0 (by decide) ?_
  refine zx_istore_n (L1 := [(1, .int (0 : Int32)), (0, .ref (ad 0))]) C dX11_debts_1 rfl (by decide) rfl ?_
  refine zx_iconst (v := 0) C dX11_debts_2 (by decide) ?_
  refine zx_istore_n (L1 := [(2, .int (0 : Int32)), (1, .int (0 : Int32)), (0, .ref (ad 0))]) C dX11_debts_3 rfl (by decide) rfl ?_
  exact zx_sub (L1 := [(0, .ref (ad 0)), (1, .int (0 : Int32)), (2, .int (0 : Int32))]) [2, 1, 0] rfl (l_X11_debts_4 C N N (0 : Int32) (0 : Int32) σ)
def bf_X11_clearBy_41 (N : Nat) (v1 : Int32) (σ : zS) : zA := z_b (f_X11_passesAll N (1 : Int32) (0 : Int32) σ) (fun r_1 t_2 => some (v1, t_2))
set_option maxHeartbeats 4000000 in
set_option maxRecDepth 100000 in
theorem b_X11_clearBy_41 {G : zG} {dC : Nat → ClassId} {dI : Nat → Nat → Nat} {A : Nat → Prop} {ad : Nat → Nat} {cI cC cW : ClassId} (C : zC G dC dI A 16 ad (cfM ad cI) (z_ty cI cC cW) cX11_clearBy RX11 3 6 (some .int)) (N : Nat) (v1 : Int32) (σ : zS) : zW G dC dI A 16 ad (cfM ad cI) 3 true (bf_X11_clearBy_41 N  v1 σ) σ 41 [(0, .ref (ad 0)), (1, .int v1)] [] := by
  unfold bf_X11_clearBy_41
  refine zx_aload_n C 0 dX11_clearBy_41 rfl rfl ?_
  refine zx_iconst (v := 1) C dX11_clearBy_42 (by decide) ?_
  refine zx_iconst (v := 0) C dX11_clearBy_43 (by decide) ?_
  refine zx_callV (As := [.int (1 : Int32), .int (0 : Int32)]) (st := []) C yk_X11_passesAll q_770 q_772 q_14 (by decide) rfl rfl (k_X11_passesAll C.hO N (1 : Int32) (0 : Int32) σ) (by decide) rfl rfl (Nat.le_of_ble_eq_true rfl) dX11_clearBy_44 (fun h9 => nomatch h9) (fun _ r_1 t_2 => ?_)
  refine zx_iload_n C 1 dX11_clearBy_47 rfl rfl ?_
  exact zx_iret C dX11_clearBy_48
def bf_X11_clearBy_31 (N : Nat) (rec11 : Int32 → Int32 → zS → zA) (v1 : Int32) (v2 : Int32) (σ : zS) : zA := z_b (f_X11_goesMinute N σ) (fun r_3 t_4 => (rec11 v1 (v2 + (1 : Int32)) t_4))
set_option maxHeartbeats 4000000 in
set_option maxRecDepth 100000 in
theorem b_X11_clearBy_31 {G : zG} {dC : Nat → ClassId} {dI : Nat → Nat → Nat} {A : Nat → Prop} {ad : Nat → Nat} {cI cC cW : ClassId} (C : zC G dC dI A 16 ad (cfM ad cI) (z_ty cI cC cW) cX11_clearBy RX11 3 6 (some .int)) (N : Nat) (rec11 : Int32 → Int32 → zS → zA) (hrec11 : ∀ (v1 : Int32) (v2 : Int32) (σ : zS), zW G dC dI A 16 ad (cfM ad cI) 3 true (rec11 v1 v2 σ) σ 11 [(0, .ref (ad 0)), (1, .int v1), (2, .int v2)] []) (v1 : Int32) (v2 : Int32) (σ : zS) : zW G dC dI A 16 ad (cfM ad cI) 3 true (bf_X11_clearBy_31 N rec11 v1 v2 σ) σ 31 [(0, .ref (ad 0)), (1, .int v1), (2, .int v2)] [] := by
  unfold bf_X11_clearBy_31
  refine zx_aload_n C 0 dX11_clearBy_31 rfl rfl ?_
  refine zx_callV (As := []) (st := []) C yk_X11_goesMinute q_864 q_866 q_24 (by decide) rfl rfl (k_X11_goesMinute C.hO N σ) (by decide) rfl rfl (Nat.le_of_ble_eq_true rfl) dX11_clearBy_32 (fun h9 => nomatch h9) (fun _ r_3 t_4 => ?_)
  refine zx_iinc (v := (v2 + (1 : Int32))) (L1 := [(2, .int (v2 + (1 : Int32))), (0, .ref (ad 0)), (1, .int v1)]) C 2 dX11_clearBy_35 rfl rfl (by decide) rfl ?_
  refine zx_goto (tgt := 11) C dX11_clearBy_38 (by decide) ?_
  exact zx_sub (L1 := [(0, .ref (ad 0)), (1, .int v1), (2, .int (v2 + (1 : Int32)))]) [1, 2, 0] rfl (hrec11 v1 (v2 + (1 : Int32)) t_4)
def bf_X11_clearBy_11 (N : Nat) (rec11 : Int32 → Int32 → zS → zA) (v1 : Int32) (v2 : Int32) (σ : zS) : zA := (if (999 : Int32) < v2 then (bf_X11_clearBy_41 N v1 σ) else (if (0 : Int32) ≤ v1 then (bf_X11_clearBy_41 N v1 σ) else z_b (f_X11_debts N σ) (fun r_7 t_8 => (if r_7 = (0 : Int32) then (bf_X11_clearBy_31 N rec11 v2 v2 t_8) else (bf_X11_clearBy_31 N rec11 v1 v2 t_8)))))
set_option maxHeartbeats 4000000 in
set_option maxRecDepth 100000 in
theorem b_X11_clearBy_11 {G : zG} {dC : Nat → ClassId} {dI : Nat → Nat → Nat} {A : Nat → Prop} {ad : Nat → Nat} {cI cC cW : ClassId} (C : zC G dC dI A 16 ad (cfM ad cI) (z_ty cI cC cW) cX11_clearBy RX11 3 6 (some .int)) (N : Nat) (rec11 : Int32 → Int32 → zS → zA) (hrec11 : ∀ (v1 : Int32) (v2 : Int32) (σ : zS), zW G dC dI A 16 ad (cfM ad cI) 3 true (rec11 v1 v2 σ) σ 11 [(0, .ref (ad 0)), (1, .int v1), (2, .int v2)] []) (v1 : Int32) (v2 : Int32) (σ : zS) : zW G dC dI A 16 ad (cfM ad cI) 3 true (bf_X11_clearBy_11 N rec11 v1 v2 σ) σ 11 [(0, .ref (ad 0)), (1, .int v1), (2, .int v2)] [] := by
  unfold bf_X11_clearBy_11
  refine zx_iload_n C 2 dX11_clearBy_11 rfl rfl ?_
  refine zx_sipush (v := 999) C dX11_clearBy_12 (by decide) ?_
  refine zx_icmp_gt (tgt := 41) C dX11_clearBy_15 (by decide) (fun h_5 => ?_) (fun h_5 => ?_)
  · exact zx_sub (L1 := [(0, .ref (ad 0)), (1, .int v1)]) [0, 1] rfl (b_X11_clearBy_41 C N v1 σ)
  · refine zx_iload_n C 1 dX11_clearBy_18 rfl rfl ?_
    refine zx_if_ge (tgt := 41) C dX11_clearBy_19 (by decide) (fun h_6 => ?_) (fun h_6 => ?_)
    · exact zx_sub (L1 := [(0, .ref (ad 0)), (1, .int v1)]) [0, 1] rfl (b_X11_clearBy_41 C N v1 σ)
    · refine zx_aload_n C 0 dX11_clearBy_22 rfl rfl ?_
      refine zx_callV (As := []) (st := []) C yk_X11_debts q_896 q_898 q_27 (by decide) rfl rfl (k_X11_debts C.hO N σ) (by decide) rfl rfl (Nat.le_of_ble_eq_true rfl) dX11_clearBy_23 (fun _ r_7 t_8 => ?_) (fun h9 => nomatch h9)
      refine zx_if_ne (tgt := 31) C dX11_clearBy_26 (by decide) (fun h_9 => ?_) (fun h_9 => ?_)
      · exact zx_sub (L1 := [(0, .ref (ad 0)), (1, .int v1), (2, .int v2)]) [0, 1, 2] rfl (b_X11_clearBy_31 C N rec11 hrec11 v1 v2 t_8)
      · refine zx_iload_n C 2 dX11_clearBy_29 rfl rfl ?_
        refine zx_istore_n (L1 := [(1, .int v2), (0, .ref (ad 0)), (2, .int v2)]) C dX11_clearBy_30 rfl (by decide) rfl ?_
        exact zx_sub (L1 := [(0, .ref (ad 0)), (1, .int v2), (2, .int v2)]) [1, 0, 2] rfl (b_X11_clearBy_31 C N rec11 hrec11 v2 v2 t_8)
def lf_X11_clearBy_11 (N : Nat) : Nat → Int32 → Int32 → zS → zA
  | 0, _, _, _ => none
  | n + 1, v1, v2, σ => bf_X11_clearBy_11 N (lf_X11_clearBy_11 N  n) v1 v2 σ
theorem l_X11_clearBy_11 {G : zG} {dC : Nat → ClassId} {dI : Nat → Nat → Nat} {A : Nat → Prop} {ad : Nat → Nat} {cI cC cW : ClassId} (C : zC G dC dI A 16 ad (cfM ad cI) (z_ty cI cC cW) cX11_clearBy RX11 3 6 (some .int)) (N : Nat) : ∀ (n : Nat) (v1 : Int32) (v2 : Int32) (σ : zS), zW G dC dI A 16 ad (cfM ad cI) 3 true (lf_X11_clearBy_11 N  n v1 v2 σ) σ 11 [(0, .ref (ad 0)), (1, .int v1), (2, .int v2)] [] := by
  intro n
  induction n with
  | zero => intro v1 v2 σ; exact zx_none
  | succ n ih => intro v1 v2 σ; exact b_X11_clearBy_11 C N (lf_X11_clearBy_11 N  n) ih v1 v2 σ
def f_X11_clearBy (N : Nat) (σ : zS) : zA := z_b (f_X11_passesAll N (1 : Int32) (1 : Int32) σ) (fun r_10 t_11 => (lf_X11_clearBy_11 N N (-9 : Int32) (0 : Int32) t_11))
set_option maxHeartbeats 4000000 in
set_option maxRecDepth 100000 in
theorem k_X11_clearBy {l : Launch} {dC : Nat → ClassId} {dI : Nat → Nat → Nat} {A : Nat → Prop} {ad : Nat → Nat} {cI cC cW : ClassId} (hO : zO A 16 ad (cfM ad cI)) (N : Nat) (σ : zS) : zM l dC dI A 16 ad (cfM ad cI) (z_ty cI cC cW) true yX11_clearBy cX11_clearBy 3 (some .int) 6 [.ref (ad 0)] σ (f_X11_clearBy N  σ) := by
  refine zM_of hO (by decide) (Nat.le_of_ble_eq_true rfl) (fun G hG C => ?_)
  subst hG
  unfold f_X11_clearBy
  refine zx_sub (L1 := [(0, .ref (ad 0))]) [0] rfl ?_
  refine zx_aload_n C 0 dX11_clearBy_0 rfl rfl ?_
  refine zx_iconst (v := 1) C dX11_clearBy_1 (by decide) ?_
  refine zx_iconst (v := 1) C dX11_clearBy_2 (by decide) ?_
  refine zx_callV (As := [.int (1 : Int32), .int (1 : Int32)]) (st := []) C yk_X11_passesAll q_770 q_772 q_14 (by decide) rfl rfl (k_X11_passesAll C.hO N (1 : Int32) (1 : Int32) σ) (by decide) rfl rfl (Nat.le_of_ble_eq_true rfl) dX11_clearBy_3 (fun h9 => nomatch h9) (fun _ r_10 t_11 => ?_)
  refine zx_bipush (v := -9) C dX11_clearBy_6 (by decide) ?_
  refine zx_istore_n (L1 := [(1, .int (-9 : Int32)), (0, .ref (ad 0))]) C dX11_clearBy_8 rfl (by decide) rfl ?_
  refine zx_iconst (v := 0) C dX11_clearBy_9 (by decide) ?_
  refine zx_istore_n (L1 := [(2, .int (0 : Int32)), (1, .int (-9 : Int32)), (0, .ref (ad 0))]) C dX11_clearBy_10 rfl (by decide) rfl ?_
  exact zx_sub (L1 := [(0, .ref (ad 0)), (1, .int (-9 : Int32)), (2, .int (0 : Int32))]) [2, 1, 0] rfl (l_X11_clearBy_11 C N N (-9 : Int32) (0 : Int32) t_11)
def bf_X11_dark_87 (N : Nat) (rec87 : Int32 → Int32 → Int32 → zS → zA) (v3 : Int32) (v4 : Int32) (v5 : Int32) (σ : zS) : zA := (if (16 : Int32) ≤ v5 then z_b (f_X11_passesAll N (1 : Int32) (0 : Int32) σ) (fun r_2 t_3 => some ((v4 &&& (v3 ^^^ (-1 : Int32))), t_3)) else z_g (z_in v5 16) ((if (σ 8 v5.toNatClampNeg) ≤ (0 : Int32) then z_n (v4 ||| (0 : Int32)) (fun z_5 => (rec87 v3 z_5 (v5 + (1 : Int32)) σ)) else z_n (v4 ||| ((1 : Int32) <<< ((v5 - v5 / (4 : Int32) * (4 : Int32)) &&& 31))) (fun z_6 => (rec87 v3 z_6 (v5 + (1 : Int32)) σ)))))
set_option maxHeartbeats 4000000 in
set_option maxRecDepth 100000 in
theorem b_X11_dark_87 {G : zG} {dC : Nat → ClassId} {dI : Nat → Nat → Nat} {A : Nat → Prop} {ad : Nat → Nat} {cI cC cW : ClassId} (C : zC G dC dI A 16 ad (cfM ad cI) (z_ty cI cC cW) cX11_dark RX11 6 6 (some .int)) (N : Nat) (rec87 : Int32 → Int32 → Int32 → zS → zA) (hrec87 : ∀ (v3 : Int32) (v4 : Int32) (v5 : Int32) (σ : zS), zW G dC dI A 16 ad (cfM ad cI) 6 true (rec87 v3 v4 v5 σ) σ 87 [(0, .ref (ad 0)), (3, .int v3), (4, .int v4), (5, .int v5)] []) (v3 : Int32) (v4 : Int32) (v5 : Int32) (σ : zS) : zW G dC dI A 16 ad (cfM ad cI) 6 true (bf_X11_dark_87 N rec87 v3 v4 v5 σ) σ 87 [(0, .ref (ad 0)), (3, .int v3), (4, .int v4), (5, .int v5)] [] := by
  unfold bf_X11_dark_87
  refine zx_iload C 3 dX11_dark_87 rfl ?_
  refine zx_bipush (v := 16) C dX11_dark_89 (by decide) ?_
  refine zx_icmp_ge (tgt := 125) C dX11_dark_91 (by decide) (fun h_1 => ?_) (fun h_1 => ?_)
  · refine zx_aload_n C 0 dX11_dark_125 rfl rfl ?_
    refine zx_iconst (v := 1) C dX11_dark_126 (by decide) ?_
    refine zx_iconst (v := 0) C dX11_dark_127 (by decide) ?_
    refine zx_callV (As := [.int (1 : Int32), .int (0 : Int32)]) (st := []) C yk_X11_passesAll q_770 q_772 q_14 (by decide) rfl rfl (k_X11_passesAll C.hO N (1 : Int32) (0 : Int32) σ) (by decide) rfl rfl (Nat.le_of_ble_eq_true rfl) dX11_dark_128 (fun h9 => nomatch h9) (fun _ r_2 t_3 => ?_)
    refine zx_iload C 2 dX11_dark_131 rfl ?_
    refine zx_iload_n C 1 dX11_dark_133 rfl rfl ?_
    refine zx_iconst (v := -1) C dX11_dark_134 (by decide) ?_
    refine zx_ixor C dX11_dark_135 ?_
    refine zx_iand C dX11_dark_136 ?_
    exact zx_iret C dX11_dark_137
  · refine zx_iload C 2 dX11_dark_94 rfl ?_
    refine zx_aload_n C 0 dX11_dark_96 rfl rfl ?_
    refine zx_get C 8 (by decide) rfl rfl (by decide) inX11 q_660 rfl rfl dX11_dark_97 ?_
    refine zx_iload C 3 dX11_dark_100 rfl ?_
    refine zx_iald C 0 (by decide) rfl rfl dX11_dark_102 ?_
    refine zx_if_le (tgt := 115) C dX11_dark_103 (by decide) (fun h_4 => ?_) (fun h_4 => ?_)
    · refine zx_iconst (v := 0) C dX11_dark_115 (by decide) ?_
      refine zx_ior C dX11_dark_116 ?_
      refine zx_n (fun z_5 => ?_)
      refine zx_istore (L1 := [(4, .int z_5), (0, .ref (ad 0)), (3, .int v3), (5, .int v5)]) C dX11_dark_117 (by decide) rfl ?_
      refine zx_iinc (v := (v5 + (1 : Int32))) (L1 := [(5, .int (v5 + (1 : Int32))), (4, .int z_5), (0, .ref (ad 0)), (3, .int v3)]) C 3 dX11_dark_119 rfl rfl (by decide) rfl ?_
      refine zx_goto (tgt := 87) C dX11_dark_122 (by decide) ?_
      exact zx_sub (L1 := [(0, .ref (ad 0)), (3, .int v3), (4, .int z_5), (5, .int (v5 + (1 : Int32)))]) [2, 3, 1, 0] rfl (hrec87 v3 z_5 (v5 + (1 : Int32)) σ)
    · refine zx_iconst (v := 1) C dX11_dark_106 (by decide) ?_
      refine zx_iload C 3 dX11_dark_107 rfl ?_
      refine zx_iconst (v := 4) C dX11_dark_109 (by decide) ?_
      refine zx_irem C dX11_dark_110 (by decide) ?_
      refine zx_ishl C dX11_dark_111 ?_
      refine zx_goto (tgt := 116) C dX11_dark_112 (by decide) ?_
      refine zx_ior C dX11_dark_116 ?_
      refine zx_n (fun z_6 => ?_)
      refine zx_istore (L1 := [(4, .int z_6), (0, .ref (ad 0)), (3, .int v3), (5, .int v5)]) C dX11_dark_117 (by decide) rfl ?_
      refine zx_iinc (v := (v5 + (1 : Int32))) (L1 := [(5, .int (v5 + (1 : Int32))), (4, .int z_6), (0, .ref (ad 0)), (3, .int v3)]) C 3 dX11_dark_119 rfl rfl (by decide) rfl ?_
      refine zx_goto (tgt := 87) C dX11_dark_122 (by decide) ?_
      exact zx_sub (L1 := [(0, .ref (ad 0)), (3, .int v3), (4, .int z_6), (5, .int (v5 + (1 : Int32)))]) [2, 3, 1, 0] rfl (hrec87 v3 z_6 (v5 + (1 : Int32)) σ)
def lf_X11_dark_87 (N : Nat) : Nat → Int32 → Int32 → Int32 → zS → zA
  | 0, _, _, _, _ => none
  | n + 1, v3, v4, v5, σ => bf_X11_dark_87 N (lf_X11_dark_87 N  n) v3 v4 v5 σ
theorem l_X11_dark_87 {G : zG} {dC : Nat → ClassId} {dI : Nat → Nat → Nat} {A : Nat → Prop} {ad : Nat → Nat} {cI cC cW : ClassId} (C : zC G dC dI A 16 ad (cfM ad cI) (z_ty cI cC cW) cX11_dark RX11 6 6 (some .int)) (N : Nat) : ∀ (n : Nat) (v3 : Int32) (v4 : Int32) (v5 : Int32) (σ : zS), zW G dC dI A 16 ad (cfM ad cI) 6 true (lf_X11_dark_87 N  n v3 v4 v5 σ) σ 87 [(0, .ref (ad 0)), (3, .int v3), (4, .int v4), (5, .int v5)] [] := by
  intro n
  induction n with
  | zero => intro v3 v4 v5 σ; exact zx_none
  | succ n ih => intro v3 v4 v5 σ; exact b_X11_dark_87 C N (lf_X11_dark_87 N  n) ih v3 v4 v5 σ
def bf_X11_dark_39 (N : Nat) (rec30 : Int32 → Int32 → Int32 → zS → zA) (rec39 : Int32 → Int32 → Int32 → Int32 → zS → zA) (v1 : Int32) (v3 : Int32) (v4 : Int32) (v5 : Int32) (σ : zS) : zA := (if (4 : Int32) ≤ v5 then z_b (f_X11_goesMinute N σ) (fun r_8 t_9 => (rec30 v1 v3 (v4 + (1 : Int32)) t_9)) else z_b (f_X11_isBright N v5 σ) (fun r_10 t_11 => (if r_10 = (0 : Int32) then z_n (v3 ||| (0 : Int32)) (fun z_13 => (rec39 v1 z_13 v4 (v5 + (1 : Int32)) t_11)) else z_n (v3 ||| ((1 : Int32) <<< (v5 &&& 31))) (fun z_14 => (rec39 v1 z_14 v4 (v5 + (1 : Int32)) t_11)))))
set_option maxHeartbeats 4000000 in
set_option maxRecDepth 100000 in
theorem b_X11_dark_39 {G : zG} {dC : Nat → ClassId} {dI : Nat → Nat → Nat} {A : Nat → Prop} {ad : Nat → Nat} {cI cC cW : ClassId} (C : zC G dC dI A 16 ad (cfM ad cI) (z_ty cI cC cW) cX11_dark RX11 6 6 (some .int)) (N : Nat) (rec30 : Int32 → Int32 → Int32 → zS → zA) (hrec30 : ∀ (v1 : Int32) (v3 : Int32) (v4 : Int32) (σ : zS), zW G dC dI A 16 ad (cfM ad cI) 6 true (rec30 v1 v3 v4 σ) σ 30 [(0, .ref (ad 0)), (1, .int v1), (3, .int v3), (4, .int v4)] []) (rec39 : Int32 → Int32 → Int32 → Int32 → zS → zA) (hrec39 : ∀ (v1 : Int32) (v3 : Int32) (v4 : Int32) (v5 : Int32) (σ : zS), zW G dC dI A 16 ad (cfM ad cI) 6 true (rec39 v1 v3 v4 v5 σ) σ 39 [(0, .ref (ad 0)), (1, .int v1), (3, .int v3), (4, .int v4), (5, .int v5)] []) (v1 : Int32) (v3 : Int32) (v4 : Int32) (v5 : Int32) (σ : zS) : zW G dC dI A 16 ad (cfM ad cI) 6 true (bf_X11_dark_39 N rec30 rec39 v1 v3 v4 v5 σ) σ 39 [(0, .ref (ad 0)), (1, .int v1), (3, .int v3), (4, .int v4), (5, .int v5)] [] := by
  unfold bf_X11_dark_39
  refine zx_iload C 4 dX11_dark_39 rfl ?_
  refine zx_iconst (v := 4) C dX11_dark_41 (by decide) ?_
  refine zx_icmp_ge (tgt := 71) C dX11_dark_42 (by decide) (fun h_7 => ?_) (fun h_7 => ?_)
  · refine zx_aload_n C 0 dX11_dark_71 rfl rfl ?_
    refine zx_callV (As := []) (st := []) C yk_X11_goesMinute q_864 q_866 q_24 (by decide) rfl rfl (k_X11_goesMinute C.hO N σ) (by decide) rfl rfl (Nat.le_of_ble_eq_true rfl) dX11_dark_72 (fun h9 => nomatch h9) (fun _ r_8 t_9 => ?_)
    refine zx_iinc (v := (v4 + (1 : Int32))) (L1 := [(4, .int (v4 + (1 : Int32))), (0, .ref (ad 0)), (1, .int v1), (3, .int v3), (5, .int v5)]) C 3 dX11_dark_75 rfl rfl (by decide) rfl ?_
    refine zx_goto (tgt := 30) C dX11_dark_78 (by decide) ?_
    exact zx_sub (L1 := [(0, .ref (ad 0)), (1, .int v1), (3, .int v3), (4, .int (v4 + (1 : Int32)))]) [1, 2, 3, 0] rfl (hrec30 v1 v3 (v4 + (1 : Int32)) t_9)
  · refine zx_iload_n C 2 dX11_dark_45 rfl rfl ?_
    refine zx_aload_n C 0 dX11_dark_46 rfl rfl ?_
    refine zx_iload C 4 dX11_dark_47 rfl ?_
    refine zx_callV (As := [.int v5]) (st := [.int v3]) C yk_X11_isBright q_884 q_886 q_26 (by decide) rfl rfl (k_X11_isBright C.hO N v5 σ) (by decide) rfl rfl (Nat.le_of_ble_eq_true rfl) dX11_dark_49 (fun _ r_10 t_11 => ?_) (fun h9 => nomatch h9)
    refine zx_if_eq (tgt := 62) C dX11_dark_52 (by decide) (fun h_12 => ?_) (fun h_12 => ?_)
    · refine zx_iconst (v := 0) C dX11_dark_62 (by decide) ?_
      refine zx_ior C dX11_dark_63 ?_
      refine zx_n (fun z_13 => ?_)
      refine zx_istore_n (L1 := [(3, .int z_13), (0, .ref (ad 0)), (1, .int v1), (4, .int v4), (5, .int v5)]) C dX11_dark_64 rfl (by decide) rfl ?_
      refine zx_iinc (v := (v5 + (1 : Int32))) (L1 := [(5, .int (v5 + (1 : Int32))), (3, .int z_13), (0, .ref (ad 0)), (1, .int v1), (4, .int v4)]) C 4 dX11_dark_65 rfl rfl (by decide) rfl ?_
      refine zx_goto (tgt := 39) C dX11_dark_68 (by decide) ?_
      exact zx_sub (L1 := [(0, .ref (ad 0)), (1, .int v1), (3, .int z_13), (4, .int v4), (5, .int (v5 + (1 : Int32)))]) [2, 3, 1, 4, 0] rfl (hrec39 v1 z_13 v4 (v5 + (1 : Int32)) t_11)
    · refine zx_iconst (v := 1) C dX11_dark_55 (by decide) ?_
      refine zx_iload C 4 dX11_dark_56 rfl ?_
      refine zx_ishl C dX11_dark_58 ?_
      refine zx_goto (tgt := 63) C dX11_dark_59 (by decide) ?_
      refine zx_ior C dX11_dark_63 ?_
      refine zx_n (fun z_14 => ?_)
      refine zx_istore_n (L1 := [(3, .int z_14), (0, .ref (ad 0)), (1, .int v1), (4, .int v4), (5, .int v5)]) C dX11_dark_64 rfl (by decide) rfl ?_
      refine zx_iinc (v := (v5 + (1 : Int32))) (L1 := [(5, .int (v5 + (1 : Int32))), (3, .int z_14), (0, .ref (ad 0)), (1, .int v1), (4, .int v4)]) C 4 dX11_dark_65 rfl rfl (by decide) rfl ?_
      refine zx_goto (tgt := 39) C dX11_dark_68 (by decide) ?_
      exact zx_sub (L1 := [(0, .ref (ad 0)), (1, .int v1), (3, .int z_14), (4, .int v4), (5, .int (v5 + (1 : Int32)))]) [2, 3, 1, 4, 0] rfl (hrec39 v1 z_14 v4 (v5 + (1 : Int32)) t_11)
def lf_X11_dark_39 (N : Nat) (rec30 : Int32 → Int32 → Int32 → zS → zA) : Nat → Int32 → Int32 → Int32 → Int32 → zS → zA
  | 0, _, _, _, _, _ => none
  | n + 1, v1, v3, v4, v5, σ => bf_X11_dark_39 N rec30 (lf_X11_dark_39 N rec30 n) v1 v3 v4 v5 σ
theorem l_X11_dark_39 {G : zG} {dC : Nat → ClassId} {dI : Nat → Nat → Nat} {A : Nat → Prop} {ad : Nat → Nat} {cI cC cW : ClassId} (C : zC G dC dI A 16 ad (cfM ad cI) (z_ty cI cC cW) cX11_dark RX11 6 6 (some .int)) (N : Nat) (rec30 : Int32 → Int32 → Int32 → zS → zA) (hrec30 : ∀ (v1 : Int32) (v3 : Int32) (v4 : Int32) (σ : zS), zW G dC dI A 16 ad (cfM ad cI) 6 true (rec30 v1 v3 v4 σ) σ 30 [(0, .ref (ad 0)), (1, .int v1), (3, .int v3), (4, .int v4)] []) : ∀ (n : Nat) (v1 : Int32) (v3 : Int32) (v4 : Int32) (v5 : Int32) (σ : zS), zW G dC dI A 16 ad (cfM ad cI) 6 true (lf_X11_dark_39 N rec30 n v1 v3 v4 v5 σ) σ 39 [(0, .ref (ad 0)), (1, .int v1), (3, .int v3), (4, .int v4), (5, .int v5)] [] := by
  intro n
  induction n with
  | zero => intro v1 v3 v4 v5 σ; exact zx_none
  | succ n ih => intro v1 v3 v4 v5 σ; exact b_X11_dark_39 C N rec30 hrec30 (lf_X11_dark_39 N rec30 n) ih v1 v3 v4 v5 σ
def bf_X11_dark_30 (N : Nat) (rec30 : Int32 → Int32 → Int32 → zS → zA) (v1 : Int32) (v3 : Int32) (v4 : Int32) (σ : zS) : zA := (if v1 ≤ v4 then (lf_X11_dark_87 N N v3 (0 : Int32) (0 : Int32) σ) else (lf_X11_dark_39 N rec30 N v1 v3 v4 (0 : Int32) σ))
set_option maxHeartbeats 4000000 in
set_option maxRecDepth 100000 in
theorem b_X11_dark_30 {G : zG} {dC : Nat → ClassId} {dI : Nat → Nat → Nat} {A : Nat → Prop} {ad : Nat → Nat} {cI cC cW : ClassId} (C : zC G dC dI A 16 ad (cfM ad cI) (z_ty cI cC cW) cX11_dark RX11 6 6 (some .int)) (N : Nat) (rec30 : Int32 → Int32 → Int32 → zS → zA) (hrec30 : ∀ (v1 : Int32) (v3 : Int32) (v4 : Int32) (σ : zS), zW G dC dI A 16 ad (cfM ad cI) 6 true (rec30 v1 v3 v4 σ) σ 30 [(0, .ref (ad 0)), (1, .int v1), (3, .int v3), (4, .int v4)] []) (v1 : Int32) (v3 : Int32) (v4 : Int32) (σ : zS) : zW G dC dI A 16 ad (cfM ad cI) 6 true (bf_X11_dark_30 N rec30 v1 v3 v4 σ) σ 30 [(0, .ref (ad 0)), (1, .int v1), (3, .int v3), (4, .int v4)] [] := by
  unfold bf_X11_dark_30
  refine zx_iload C 3 dX11_dark_30 rfl ?_
  refine zx_iload_n C 1 dX11_dark_32 rfl rfl ?_
  refine zx_icmp_ge (tgt := 81) C dX11_dark_33 (by decide) (fun h_15 => ?_) (fun h_15 => ?_)
  · refine zx_iconst (v := 0) C dX11_dark_81 (by decide) ?_
    refine zx_istore (L1 := [(4, .int (0 : Int32)), (0, .ref (ad 0)), (1, .int v1), (3, .int v3)]) C dX11_dark_82 (by decide) rfl ?_
    refine zx_iconst (v := 0) C dX11_dark_84 (by decide) ?_
    refine zx_istore (L1 := [(5, .int (0 : Int32)), (4, .int (0 : Int32)), (0, .ref (ad 0)), (1, .int v1), (3, .int v3)]) C dX11_dark_85 (by decide) rfl ?_
    exact zx_sub (L1 := [(0, .ref (ad 0)), (3, .int v3), (4, .int (0 : Int32)), (5, .int (0 : Int32))]) [2, 4, 1, 0] rfl (l_X11_dark_87 C N N v3 (0 : Int32) (0 : Int32) σ)
  · refine zx_iconst (v := 0) C dX11_dark_36 (by decide) ?_
    refine zx_istore (L1 := [(5, .int (0 : Int32)), (0, .ref (ad 0)), (1, .int v1), (3, .int v3), (4, .int v4)]) C dX11_dark_37 (by decide) rfl ?_
    exact zx_sub (L1 := [(0, .ref (ad 0)), (1, .int v1), (3, .int v3), (4, .int v4), (5, .int (0 : Int32))]) [1, 2, 3, 4, 0] rfl (l_X11_dark_39 C N rec30 hrec30 N v1 v3 v4 (0 : Int32) σ)
def lf_X11_dark_30 (N : Nat) : Nat → Int32 → Int32 → Int32 → zS → zA
  | 0, _, _, _, _ => none
  | n + 1, v1, v3, v4, σ => bf_X11_dark_30 N (lf_X11_dark_30 N  n) v1 v3 v4 σ
theorem l_X11_dark_30 {G : zG} {dC : Nat → ClassId} {dI : Nat → Nat → Nat} {A : Nat → Prop} {ad : Nat → Nat} {cI cC cW : ClassId} (C : zC G dC dI A 16 ad (cfM ad cI) (z_ty cI cC cW) cX11_dark RX11 6 6 (some .int)) (N : Nat) : ∀ (n : Nat) (v1 : Int32) (v3 : Int32) (v4 : Int32) (σ : zS), zW G dC dI A 16 ad (cfM ad cI) 6 true (lf_X11_dark_30 N  n v1 v3 v4 σ) σ 30 [(0, .ref (ad 0)), (1, .int v1), (3, .int v3), (4, .int v4)] [] := by
  intro n
  induction n with
  | zero => intro v1 v3 v4 σ; exact zx_none
  | succ n ih => intro v1 v3 v4 σ; exact b_X11_dark_30 C N (lf_X11_dark_30 N  n) ih v1 v3 v4 σ
def f_X11_dark (N : Nat) (v1 : Int32) (σ : zS) : zA := z_b (f_X11_bound N v1 (0 : Int32) (300 : Int32) σ) (fun r_16 t_17 => (if r_16 = (0 : Int32) then z_b (f_X11_passesAll N (1 : Int32) (1 : Int32) t_17) (fun r_19 t_20 => (lf_X11_dark_30 N N v1 (0 : Int32) (0 : Int32) t_20)) else z_b (f_X11_no N r_16 t_17) (fun r_21 t_22 => some (r_21, t_22))))
set_option maxHeartbeats 4000000 in
set_option maxRecDepth 100000 in
theorem k_X11_dark {l : Launch} {dC : Nat → ClassId} {dI : Nat → Nat → Nat} {A : Nat → Prop} {ad : Nat → Nat} {cI cC cW : ClassId} (hO : zO A 16 ad (cfM ad cI)) (N : Nat) (v1 : Int32) (σ : zS) : zM l dC dI A 16 ad (cfM ad cI) (z_ty cI cC cW) true yX11_dark cX11_dark 6 (some .int) 6 [.ref (ad 0), .int v1] σ (f_X11_dark N v1 σ) := by
  refine zM_of hO (by decide) (Nat.le_of_ble_eq_true rfl) (fun G hG C => ?_)
  subst hG
  unfold f_X11_dark
  refine zx_sub (L1 := [(0, .ref (ad 0)), (1, .int v1)]) [0, 1] rfl ?_
  refine zx_iload_n C 1 dX11_dark_0 rfl rfl ?_
  refine zx_iconst (v := 0) C dX11_dark_1 (by decide) ?_
  refine zx_sipush (v := 300) C dX11_dark_2 (by decide) ?_
  refine zx_callS (av := [.int v1, .int (0 : Int32), .int (300 : Int32)]) (st := []) C yk_X11_bound q_744 q_745 (k_X11_bound C.hO N v1 (0 : Int32) (300 : Int32) σ) (by decide) rfl rfl (Nat.le_of_ble_eq_true rfl) dX11_dark_5 (fun _ r_16 t_17 => ?_) (fun h9 => nomatch h9)
  refine zx_istore_n (L1 := [(2, .int r_16), (0, .ref (ad 0)), (1, .int v1)]) C dX11_dark_8 rfl (by decide) rfl ?_
  refine zx_iload_n C 0 dX11_dark_9 rfl rfl ?_
  refine zx_if_eq (tgt := 19) C dX11_dark_10 (by decide) (fun h_18 => ?_) (fun h_18 => ?_)
  · refine zx_aload_n C 1 dX11_dark_19 rfl rfl ?_
    refine zx_iconst (v := 1) C dX11_dark_20 (by decide) ?_
    refine zx_iconst (v := 1) C dX11_dark_21 (by decide) ?_
    refine zx_callV (As := [.int (1 : Int32), .int (1 : Int32)]) (st := []) C yk_X11_passesAll q_770 q_772 q_14 (by decide) rfl rfl (k_X11_passesAll C.hO N (1 : Int32) (1 : Int32) t_17) (by decide) rfl rfl (Nat.le_of_ble_eq_true rfl) dX11_dark_22 (fun h9 => nomatch h9) (fun _ r_19 t_20 => ?_)
    refine zx_iconst (v := 0) C dX11_dark_25 (by decide) ?_
    refine zx_istore_n (L1 := [(3, .int (0 : Int32)), (2, .int r_16), (0, .ref (ad 0)), (1, .int v1)]) C dX11_dark_26 rfl (by decide) rfl ?_
    refine zx_iconst (v := 0) C dX11_dark_27 (by decide) ?_
    refine zx_istore (L1 := [(4, .int (0 : Int32)), (3, .int (0 : Int32)), (2, .int r_16), (0, .ref (ad 0)), (1, .int v1)]) C dX11_dark_28 (by decide) rfl ?_
    exact zx_sub (L1 := [(0, .ref (ad 0)), (1, .int v1), (3, .int (0 : Int32)), (4, .int (0 : Int32))]) [3, 4, 1, 0] rfl (l_X11_dark_30 C N N v1 (0 : Int32) (0 : Int32) t_20)
  · refine zx_aload_n C 1 dX11_dark_13 rfl rfl ?_
    refine zx_iload_n C 0 dX11_dark_14 rfl rfl ?_
    refine zx_callV (As := [.int r_16]) (st := []) C yk_X11_no q_747 q_749 q_10 (by decide) rfl rfl (k_X11_no C.hO N r_16 t_17) (by decide) rfl rfl (Nat.le_of_ble_eq_true rfl) dX11_dark_15 (fun _ r_21 t_22 => ?_) (fun h9 => nomatch h9)
    exact zx_iret C dX11_dark_18
def f_X11_roomOf (N : Nat) (v0 : Int32) (v1 : Int32) (v2 : Int32) (σ : zS) : zA := some (((v0 >>> (((2 : Int32) * ((v1 - (1 : Int32)) - v2)) &&& 31)) &&& (3 : Int32)), σ)
set_option maxHeartbeats 4000000 in
set_option maxRecDepth 100000 in
theorem k_X11_roomOf {l : Launch} {dC : Nat → ClassId} {dI : Nat → Nat → Nat} {A : Nat → Prop} {ad : Nat → Nat} {cI cC cW : ClassId} (hO : zO A 16 ad (cfM ad cI)) (N : Nat) (v0 : Int32) (v1 : Int32) (v2 : Int32) (σ : zS) : zM l dC dI A 16 ad (cfM ad cI) (z_ty cI cC cW) true yX11_roomOf cX11_roomOf 3 (some .int) 0 [.int v0, .int v1, .int v2] σ (f_X11_roomOf N v0 v1 v2 σ) := by
  refine zM_of hO (by decide) (Nat.le_of_ble_eq_true rfl) (fun G hG C => ?_)
  subst hG
  unfold f_X11_roomOf
  refine zx_sub (L1 := [(0, .int v0), (1, .int v1), (2, .int v2)]) [0, 1, 2] rfl ?_
  refine zx_iload_n C 0 dX11_roomOf_0 rfl rfl ?_
  refine zx_iconst (v := 2) C dX11_roomOf_1 (by decide) ?_
  refine zx_iload_n C 1 dX11_roomOf_2 rfl rfl ?_
  refine zx_iconst (v := 1) C dX11_roomOf_3 (by decide) ?_
  refine zx_isub C dX11_roomOf_4 ?_
  refine zx_iload_n C 2 dX11_roomOf_5 rfl rfl ?_
  refine zx_isub C dX11_roomOf_6 ?_
  refine zx_imul C dX11_roomOf_7 ?_
  refine zx_ishr C dX11_roomOf_8 ?_
  refine zx_iconst (v := 3) C dX11_roomOf_9 (by decide) ?_
  refine zx_iand C dX11_roomOf_10 ?_
  exact zx_iret C dX11_roomOf_11
def bf_X11_sumBy_8 (N : Nat) (rec8 : Int32 → Int32 → Int32 → zS → zA) (v1 : Int32) (v2 : Int32) (v3 : Int32) (σ : zS) : zA := (if (σ 0 9) ≤ v3 then z_b (f_X11_goesMinutes N v2 σ) (fun r_2 t_3 => z_b (f_X11_debts N t_3) (fun r_4 t_5 => z_b (f_X11_passesAll N (1 : Int32) (0 : Int32) t_5) (fun r_6 t_7 => some (r_4, t_7)))) else z_b (f_X11_roomOf N v1 (σ 0 9) v3 σ) (fun r_8 t_9 => z_g (z_in v3 6) (z_m (z_put t_9 5 v3.toNatClampNeg r_8) (fun t_10 => z_g (z_in v3 6) ((if (t_10 3 v3.toNatClampNeg) ≤ (0 : Int32) then z_g (z_in v3 6) (z_m (z_put t_10 6 v3.toNatClampNeg (0 : Int32)) (fun t_12 => (rec8 v1 v2 (v3 + (1 : Int32)) t_12))) else z_g (z_in v3 6) (z_m (z_put t_10 6 v3.toNatClampNeg (1 : Int32)) (fun t_13 => (rec8 v1 v2 (v3 + (1 : Int32)) t_13)))))))))
set_option maxHeartbeats 4000000 in
set_option maxRecDepth 100000 in
theorem b_X11_sumBy_8 {G : zG} {dC : Nat → ClassId} {dI : Nat → Nat → Nat} {A : Nat → Prop} {ad : Nat → Nat} {cI cC cW : ClassId} (C : zC G dC dI A 16 ad (cfM ad cI) (z_ty cI cC cW) cX11_sumBy RX11 4 7 (some .int)) (N : Nat) (rec8 : Int32 → Int32 → Int32 → zS → zA) (hrec8 : ∀ (v1 : Int32) (v2 : Int32) (v3 : Int32) (σ : zS), zW G dC dI A 16 ad (cfM ad cI) 4 true (rec8 v1 v2 v3 σ) σ 8 [(0, .ref (ad 0)), (1, .int v1), (2, .int v2), (3, .int v3)] []) (v1 : Int32) (v2 : Int32) (v3 : Int32) (σ : zS) : zW G dC dI A 16 ad (cfM ad cI) 4 true (bf_X11_sumBy_8 N rec8 v1 v2 v3 σ) σ 8 [(0, .ref (ad 0)), (1, .int v1), (2, .int v2), (3, .int v3)] [] := by
  unfold bf_X11_sumBy_8
  refine zx_iload_n C 3 dX11_sumBy_8 rfl rfl ?_
  refine zx_aload_n C 0 dX11_sumBy_9 rfl rfl ?_
  refine zx_get C 9 (by decide) rfl rfl (by decide) inX11 q_661 rfl rfl dX11_sumBy_10 ?_
  refine zx_icmp_ge (tgt := 57) C dX11_sumBy_13 (by decide) (fun h_1 => ?_) (fun h_1 => ?_)
  · refine zx_aload_n C 0 dX11_sumBy_57 rfl rfl ?_
    refine zx_iload_n C 2 dX11_sumBy_58 rfl rfl ?_
    refine zx_callV (As := [.int v2]) (st := []) C yk_X11_goesMinutes q_860 q_862 q_23 (by decide) rfl rfl (k_X11_goesMinutes C.hO N v2 σ) (by decide) rfl rfl (Nat.le_of_ble_eq_true rfl) dX11_sumBy_59 (fun h9 => nomatch h9) (fun _ r_2 t_3 => ?_)
    refine zx_aload_n C 0 dX11_sumBy_62 rfl rfl ?_
    refine zx_callV (As := []) (st := []) C yk_X11_debts q_896 q_898 q_27 (by decide) rfl rfl (k_X11_debts C.hO N t_3) (by decide) rfl rfl (Nat.le_of_ble_eq_true rfl) dX11_sumBy_63 (fun _ r_4 t_5 => ?_) (fun h9 => nomatch h9)
    refine zx_istore_n (L1 := [(3, .int r_4), (0, .ref (ad 0)), (1, .int v1), (2, .int v2)]) C dX11_sumBy_66 rfl (by decide) rfl ?_
    refine zx_aload_n C 1 dX11_sumBy_67 rfl rfl ?_
    refine zx_iconst (v := 1) C dX11_sumBy_68 (by decide) ?_
    refine zx_iconst (v := 0) C dX11_sumBy_69 (by decide) ?_
    refine zx_callV (As := [.int (1 : Int32), .int (0 : Int32)]) (st := []) C yk_X11_passesAll q_770 q_772 q_14 (by decide) rfl rfl (k_X11_passesAll C.hO N (1 : Int32) (0 : Int32) t_5) (by decide) rfl rfl (Nat.le_of_ble_eq_true rfl) dX11_sumBy_70 (fun h9 => nomatch h9) (fun _ r_6 t_7 => ?_)
    refine zx_iload_n C 0 dX11_sumBy_73 rfl rfl ?_
    exact zx_iret C dX11_sumBy_74
  · refine zx_aload_n C 0 dX11_sumBy_16 rfl rfl ?_
    refine zx_get C 5 (by decide) rfl rfl (by decide) inX11 q_657 rfl rfl dX11_sumBy_17 ?_
    refine zx_iload_n C 3 dX11_sumBy_20 rfl rfl ?_
    refine zx_iload_n C 1 dX11_sumBy_21 rfl rfl ?_
    refine zx_aload_n C 0 dX11_sumBy_22 rfl rfl ?_
    refine zx_get C 9 (by decide) rfl rfl (by decide) inX11 q_661 rfl rfl dX11_sumBy_23 ?_
    refine zx_iload_n C 3 dX11_sumBy_26 rfl rfl ?_
    refine zx_callS (av := [.int v1, .int (σ 0 9), .int v3]) (st := [.int v3, .ref (ad 5)]) C yk_X11_roomOf q_916 q_917 (k_X11_roomOf C.hO N v1 (σ 0 9) v3 σ) (by decide) rfl rfl (Nat.le_of_ble_eq_true rfl) dX11_sumBy_27 (fun _ r_8 t_9 => ?_) (fun h9 => nomatch h9)
    refine zx_iast C 0 (by decide) (fun _ => rfl) rfl dX11_sumBy_30 (fun t_10 => ?_)
    refine zx_aload_n C 0 dX11_sumBy_31 rfl rfl ?_
    refine zx_get C 6 (by decide) rfl rfl (by decide) inX11 q_658 rfl rfl dX11_sumBy_32 ?_
    refine zx_iload_n C 3 dX11_sumBy_35 rfl rfl ?_
    refine zx_aload_n C 0 dX11_sumBy_36 rfl rfl ?_
    refine zx_get C 3 (by decide) rfl rfl (by decide) inX11 q_655 rfl rfl dX11_sumBy_37 ?_
    refine zx_iload_n C 3 dX11_sumBy_40 rfl rfl ?_
    refine zx_iald C 0 (by decide) rfl rfl dX11_sumBy_41 ?_
    refine zx_if_le (tgt := 49) C dX11_sumBy_42 (by decide) (fun h_11 => ?_) (fun h_11 => ?_)
    · refine zx_iconst (v := 0) C dX11_sumBy_49 (by decide) ?_
      refine zx_iast C 0 (by decide) (fun _ => rfl) rfl dX11_sumBy_50 (fun t_12 => ?_)
      refine zx_iinc (v := (v3 + (1 : Int32))) (L1 := [(3, .int (v3 + (1 : Int32))), (0, .ref (ad 0)), (1, .int v1), (2, .int v2)]) C 3 dX11_sumBy_51 rfl rfl (by decide) rfl ?_
      refine zx_goto (tgt := 8) C dX11_sumBy_54 (by decide) ?_
      exact zx_sub (L1 := [(0, .ref (ad 0)), (1, .int v1), (2, .int v2), (3, .int (v3 + (1 : Int32)))]) [1, 2, 3, 0] rfl (hrec8 v1 v2 (v3 + (1 : Int32)) t_12)
    · refine zx_iconst (v := 1) C dX11_sumBy_45 (by decide) ?_
      refine zx_goto (tgt := 50) C dX11_sumBy_46 (by decide) ?_
      refine zx_iast C 0 (by decide) (fun _ => rfl) rfl dX11_sumBy_50 (fun t_13 => ?_)
      refine zx_iinc (v := (v3 + (1 : Int32))) (L1 := [(3, .int (v3 + (1 : Int32))), (0, .ref (ad 0)), (1, .int v1), (2, .int v2)]) C 3 dX11_sumBy_51 rfl rfl (by decide) rfl ?_
      refine zx_goto (tgt := 8) C dX11_sumBy_54 (by decide) ?_
      exact zx_sub (L1 := [(0, .ref (ad 0)), (1, .int v1), (2, .int v2), (3, .int (v3 + (1 : Int32)))]) [1, 2, 3, 0] rfl (hrec8 v1 v2 (v3 + (1 : Int32)) t_13)
def lf_X11_sumBy_8 (N : Nat) : Nat → Int32 → Int32 → Int32 → zS → zA
  | 0, _, _, _, _ => none
  | n + 1, v1, v2, v3, σ => bf_X11_sumBy_8 N (lf_X11_sumBy_8 N  n) v1 v2 v3 σ
theorem l_X11_sumBy_8 {G : zG} {dC : Nat → ClassId} {dI : Nat → Nat → Nat} {A : Nat → Prop} {ad : Nat → Nat} {cI cC cW : ClassId} (C : zC G dC dI A 16 ad (cfM ad cI) (z_ty cI cC cW) cX11_sumBy RX11 4 7 (some .int)) (N : Nat) : ∀ (n : Nat) (v1 : Int32) (v2 : Int32) (v3 : Int32) (σ : zS), zW G dC dI A 16 ad (cfM ad cI) 4 true (lf_X11_sumBy_8 N  n v1 v2 v3 σ) σ 8 [(0, .ref (ad 0)), (1, .int v1), (2, .int v2), (3, .int v3)] [] := by
  intro n
  induction n with
  | zero => intro v1 v2 v3 σ; exact zx_none
  | succ n ih => intro v1 v2 v3 σ; exact b_X11_sumBy_8 C N (lf_X11_sumBy_8 N  n) ih v1 v2 v3 σ
def f_X11_sumBy (N : Nat) (v1 : Int32) (v2 : Int32) (σ : zS) : zA := z_b (f_X11_passesAll N (1 : Int32) (1 : Int32) σ) (fun r_14 t_15 => (lf_X11_sumBy_8 N N v1 v2 (0 : Int32) t_15))
set_option maxHeartbeats 4000000 in
set_option maxRecDepth 100000 in
theorem k_X11_sumBy {l : Launch} {dC : Nat → ClassId} {dI : Nat → Nat → Nat} {A : Nat → Prop} {ad : Nat → Nat} {cI cC cW : ClassId} (hO : zO A 16 ad (cfM ad cI)) (N : Nat) (v1 : Int32) (v2 : Int32) (σ : zS) : zM l dC dI A 16 ad (cfM ad cI) (z_ty cI cC cW) true yX11_sumBy cX11_sumBy 4 (some .int) 7 [.ref (ad 0), .int v1, .int v2] σ (f_X11_sumBy N v1 v2 σ) := by
  refine zM_of hO (by decide) (Nat.le_of_ble_eq_true rfl) (fun G hG C => ?_)
  subst hG
  unfold f_X11_sumBy
  refine zx_sub (L1 := [(0, .ref (ad 0)), (1, .int v1), (2, .int v2)]) [0, 1, 2] rfl ?_
  refine zx_aload_n C 0 dX11_sumBy_0 rfl rfl ?_
  refine zx_iconst (v := 1) C dX11_sumBy_1 (by decide) ?_
  refine zx_iconst (v := 1) C dX11_sumBy_2 (by decide) ?_
  refine zx_callV (As := [.int (1 : Int32), .int (1 : Int32)]) (st := []) C yk_X11_passesAll q_770 q_772 q_14 (by decide) rfl rfl (k_X11_passesAll C.hO N (1 : Int32) (1 : Int32) σ) (by decide) rfl rfl (Nat.le_of_ble_eq_true rfl) dX11_sumBy_3 (fun h9 => nomatch h9) (fun _ r_14 t_15 => ?_)
  refine zx_iconst (v := 0) C dX11_sumBy_6 (by decide) ?_
  refine zx_istore_n (L1 := [(3, .int (0 : Int32)), (0, .ref (ad 0)), (1, .int v1), (2, .int v2)]) C dX11_sumBy_7 rfl (by decide) rfl ?_
  exact zx_sub (L1 := [(0, .ref (ad 0)), (1, .int v1), (2, .int v2), (3, .int (0 : Int32))]) [1, 2, 3, 0] rfl (l_X11_sumBy_8 C N N v1 v2 (0 : Int32) t_15)
def bf_X11_findBest_45 (N : Nat) (rec8 : Int32 → Int32 → zS → zA) (v1 : Int32) (v2 : Int32) (v3 : Int32) (σ : zS) : zA := z_m (z_put σ 0 25 v3) (fun t_1 => z_m (z_put t_1 0 26 v2) (fun t_2 => (rec8 v1 (v2 + (1 : Int32)) t_2)))
set_option maxHeartbeats 4000000 in
set_option maxRecDepth 100000 in
theorem b_X11_findBest_45 {G : zG} {dC : Nat → ClassId} {dI : Nat → Nat → Nat} {A : Nat → Prop} {ad : Nat → Nat} {cI cC cW : ClassId} (C : zC G dC dI A 16 ad (cfM ad cI) (z_ty cI cC cW) cX11_findBest RX11 4 8 none) (N : Nat) (rec8 : Int32 → Int32 → zS → zA) (hrec8 : ∀ (v1 : Int32) (v2 : Int32) (σ : zS), zW G dC dI A 16 ad (cfM ad cI) 4 false (rec8 v1 v2 σ) σ 8 [(0, .ref (ad 0)), (1, .int v1), (2, .int v2)] []) (v1 : Int32) (v2 : Int32) (v3 : Int32) (σ : zS) : zW G dC dI A 16 ad (cfM ad cI) 4 false (bf_X11_findBest_45 N rec8 v1 v2 v3 σ) σ 45 [(0, .ref (ad 0)), (1, .int v1), (2, .int v2), (3, .int v3)] [] := by
  unfold bf_X11_findBest_45
  refine zx_aload_n C 0 dX11_findBest_45 rfl rfl ?_
  refine zx_iload_n C 3 dX11_findBest_46 rfl rfl ?_
  refine zx_put (ty := .int) C 25 (by decide) rfl rfl (by decide) inX11 tyX11 tyX11_ok nmX11 q_677 rfl rfl (by decide +kernel) rfl rfl (Nat.le_of_ble_eq_true rfl) (by rfl) dX11_findBest_47 (fun t_1 => ?_)
  refine zx_aload_n C 0 dX11_findBest_50 rfl rfl ?_
  refine zx_iload_n C 2 dX11_findBest_51 rfl rfl ?_
  refine zx_put (ty := .int) C 26 (by decide) rfl rfl (by decide) inX11 tyX11 tyX11_ok nmX11 q_678 rfl rfl (by decide +kernel) rfl rfl (Nat.le_of_ble_eq_true rfl) (by rfl) dX11_findBest_52 (fun t_2 => ?_)
  refine zx_iinc (v := (v2 + (1 : Int32))) (L1 := [(2, .int (v2 + (1 : Int32))), (0, .ref (ad 0)), (1, .int v1), (3, .int v3)]) C 2 dX11_findBest_55 rfl rfl (by decide) rfl ?_
  refine zx_goto (tgt := 8) C dX11_findBest_58 (by decide) ?_
  exact zx_sub (L1 := [(0, .ref (ad 0)), (1, .int v1), (2, .int (v2 + (1 : Int32)))]) [1, 2, 0] rfl (hrec8 v1 (v2 + (1 : Int32)) t_2)
def bf_X11_findBest_8 (N : Nat) (rec8 : Int32 → Int32 → zS → zA) (v1 : Int32) (v2 : Int32) (σ : zS) : zA := (if ((1 : Int32) <<< (((2 : Int32) * (σ 0 9)) &&& 31)) ≤ v2 then some (0, σ) else z_b (f_X11_sumBy N v2 v1 σ) (fun r_4 t_5 => (if (t_5 0 25) < (0 : Int32) then (bf_X11_findBest_45 N rec8 v1 v2 r_4 t_5) else (if r_4 < (t_5 0 25) then (bf_X11_findBest_45 N rec8 v1 v2 r_4 t_5) else (rec8 v1 (v2 + (1 : Int32)) t_5)))))
set_option maxHeartbeats 4000000 in
set_option maxRecDepth 100000 in
theorem b_X11_findBest_8 {G : zG} {dC : Nat → ClassId} {dI : Nat → Nat → Nat} {A : Nat → Prop} {ad : Nat → Nat} {cI cC cW : ClassId} (C : zC G dC dI A 16 ad (cfM ad cI) (z_ty cI cC cW) cX11_findBest RX11 4 8 none) (N : Nat) (rec8 : Int32 → Int32 → zS → zA) (hrec8 : ∀ (v1 : Int32) (v2 : Int32) (σ : zS), zW G dC dI A 16 ad (cfM ad cI) 4 false (rec8 v1 v2 σ) σ 8 [(0, .ref (ad 0)), (1, .int v1), (2, .int v2)] []) (v1 : Int32) (v2 : Int32) (σ : zS) : zW G dC dI A 16 ad (cfM ad cI) 4 false (bf_X11_findBest_8 N rec8 v1 v2 σ) σ 8 [(0, .ref (ad 0)), (1, .int v1), (2, .int v2)] [] := by
  unfold bf_X11_findBest_8
  refine zx_iload_n C 2 dX11_findBest_8 rfl rfl ?_
  refine zx_iconst (v := 1) C dX11_findBest_9 (by decide) ?_
  refine zx_iconst (v := 2) C dX11_findBest_10 (by decide) ?_
  refine zx_aload_n C 0 dX11_findBest_11 rfl rfl ?_
  refine zx_get C 9 (by decide) rfl rfl (by decide) inX11 q_661 rfl rfl dX11_findBest_12 ?_
  refine zx_imul C dX11_findBest_15 ?_
  refine zx_ishl C dX11_findBest_16 ?_
  refine zx_icmp_ge (tgt := 61) C dX11_findBest_17 (by decide) (fun h_3 => ?_) (fun h_3 => ?_)
  · exact zx_vret C dX11_findBest_61
  · refine zx_aload_n C 0 dX11_findBest_20 rfl rfl ?_
    refine zx_iload_n C 2 dX11_findBest_21 rfl rfl ?_
    refine zx_iload_n C 1 dX11_findBest_22 rfl rfl ?_
    refine zx_callV (As := [.int v2, .int v1]) (st := []) C yk_X11_sumBy q_912 q_914 q_29 (by decide) rfl rfl (k_X11_sumBy C.hO N v2 v1 σ) (by decide) rfl rfl (Nat.le_of_ble_eq_true rfl) dX11_findBest_23 (fun _ r_4 t_5 => ?_) (fun h9 => nomatch h9)
    refine zx_istore_n (L1 := [(3, .int r_4), (0, .ref (ad 0)), (1, .int v1), (2, .int v2)]) C dX11_findBest_26 rfl (by decide) rfl ?_
    refine zx_aload_n C 1 dX11_findBest_27 rfl rfl ?_
    refine zx_get C 25 (by decide) rfl rfl (by decide) inX11 q_677 rfl rfl dX11_findBest_28 ?_
    refine zx_if_lt (tgt := 45) C dX11_findBest_31 (by decide) (fun h_6 => ?_) (fun h_6 => ?_)
    · exact zx_sub (L1 := [(0, .ref (ad 0)), (1, .int v1), (2, .int v2), (3, .int r_4)]) [1, 2, 3, 0] rfl (b_X11_findBest_45 C N rec8 hrec8 v1 v2 r_4 t_5)
    · refine zx_iload_n C 0 dX11_findBest_34 rfl rfl ?_
      refine zx_aload_n C 1 dX11_findBest_35 rfl rfl ?_
      refine zx_get C 25 (by decide) rfl rfl (by decide) inX11 q_677 rfl rfl dX11_findBest_36 ?_
      refine zx_icmp_lt (tgt := 45) C dX11_findBest_39 (by decide) (fun h_7 => ?_) (fun h_7 => ?_)
      · exact zx_sub (L1 := [(0, .ref (ad 0)), (1, .int v1), (2, .int v2), (3, .int r_4)]) [1, 2, 3, 0] rfl (b_X11_findBest_45 C N rec8 hrec8 v1 v2 r_4 t_5)
      · refine zx_goto (tgt := 55) C dX11_findBest_42 (by decide) ?_
        refine zx_iinc (v := (v2 + (1 : Int32))) (L1 := [(2, .int (v2 + (1 : Int32))), (3, .int r_4), (0, .ref (ad 0)), (1, .int v1)]) C 3 dX11_findBest_55 rfl rfl (by decide) rfl ?_
        refine zx_goto (tgt := 8) C dX11_findBest_58 (by decide) ?_
        exact zx_sub (L1 := [(0, .ref (ad 0)), (1, .int v1), (2, .int (v2 + (1 : Int32)))]) [2, 3, 0] rfl (hrec8 v1 (v2 + (1 : Int32)) t_5)
def lf_X11_findBest_8 (N : Nat) : Nat → Int32 → Int32 → zS → zA
  | 0, _, _, _ => none
  | n + 1, v1, v2, σ => bf_X11_findBest_8 N (lf_X11_findBest_8 N  n) v1 v2 σ
theorem l_X11_findBest_8 {G : zG} {dC : Nat → ClassId} {dI : Nat → Nat → Nat} {A : Nat → Prop} {ad : Nat → Nat} {cI cC cW : ClassId} (C : zC G dC dI A 16 ad (cfM ad cI) (z_ty cI cC cW) cX11_findBest RX11 4 8 none) (N : Nat) : ∀ (n : Nat) (v1 : Int32) (v2 : Int32) (σ : zS), zW G dC dI A 16 ad (cfM ad cI) 4 false (lf_X11_findBest_8 N  n v1 v2 σ) σ 8 [(0, .ref (ad 0)), (1, .int v1), (2, .int v2)] [] := by
  intro n
  induction n with
  | zero => intro v1 v2 σ; exact zx_none
  | succ n ih => intro v1 v2 σ; exact b_X11_findBest_8 C N (lf_X11_findBest_8 N  n) ih v1 v2 σ
def f_X11_findBest (N : Nat) (v1 : Int32) (σ : zS) : zA := z_m (z_put σ 0 25 (-9 : Int32)) (fun t_8 => (lf_X11_findBest_8 N N v1 (0 : Int32) t_8))
set_option maxHeartbeats 4000000 in
set_option maxRecDepth 100000 in
theorem k_X11_findBest {l : Launch} {dC : Nat → ClassId} {dI : Nat → Nat → Nat} {A : Nat → Prop} {ad : Nat → Nat} {cI cC cW : ClassId} (hO : zO A 16 ad (cfM ad cI)) (N : Nat) (v1 : Int32) (σ : zS) : zM l dC dI A 16 ad (cfM ad cI) (z_ty cI cC cW) false yX11_findBest cX11_findBest 4 none 8 [.ref (ad 0), .int v1] σ (f_X11_findBest N v1 σ) := by
  refine zM_of hO (by decide) (Nat.le_of_ble_eq_true rfl) (fun G hG C => ?_)
  subst hG
  unfold f_X11_findBest
  refine zx_sub (L1 := [(0, .ref (ad 0)), (1, .int v1)]) [0, 1] rfl ?_
  refine zx_aload_n C 0 dX11_findBest_0 rfl rfl ?_
  refine zx_bipush (v := -9) C dX11_findBest_1 (by decide) ?_
  refine zx_put (ty := .int) C 25 (by decide) rfl rfl (by decide) inX11 tyX11 tyX11_ok nmX11 q_677 rfl rfl (by decide +kernel) rfl rfl (Nat.le_of_ble_eq_true rfl) (by rfl) dX11_findBest_3 (fun t_8 => ?_)
  refine zx_iconst (v := 0) C dX11_findBest_6 (by decide) ?_
  refine zx_istore_n (L1 := [(2, .int (0 : Int32)), (0, .ref (ad 0)), (1, .int v1)]) C dX11_findBest_7 rfl (by decide) rfl ?_
  exact zx_sub (L1 := [(0, .ref (ad 0)), (1, .int v1), (2, .int (0 : Int32))]) [1, 2, 0] rfl (l_X11_findBest_8 C N N v1 (0 : Int32) t_8)
def bf_X11_best_24 (N : Nat) (v1 : Int32) (v2 : Int32) (u0 : Int32) (σ : zS) : zA := (if u0 = (0 : Int32) then z_b (f_X11_findBest N v1 σ) (fun r_2 t_3 => (if v2 = (-1 : Int32) then some ((t_3 0 25), t_3) else z_b (f_X11_roomOf N (t_3 0 26) (t_3 0 9) v2 t_3) (fun r_5 t_6 => some (r_5, t_6)))) else z_b (f_X11_no N u0 σ) (fun r_7 t_8 => some (r_7, t_8)))
set_option maxHeartbeats 4000000 in
set_option maxRecDepth 100000 in
theorem b_X11_best_24 {G : zG} {dC : Nat → ClassId} {dI : Nat → Nat → Nat} {A : Nat → Prop} {ad : Nat → Nat} {cI cC cW : ClassId} (C : zC G dC dI A 16 ad (cfM ad cI) (z_ty cI cC cW) cX11_best RX11 4 9 (some .int)) (N : Nat) (v1 : Int32) (v2 : Int32) (u0 : Int32) (σ : zS) : zW G dC dI A 16 ad (cfM ad cI) 4 true (bf_X11_best_24 N  v1 v2 u0 σ) σ 24 [(0, .ref (ad 0)), (1, .int v1), (2, .int v2)] [.int u0] := by
  unfold bf_X11_best_24
  refine zx_istore_n (L1 := [(3, .int u0), (0, .ref (ad 0)), (1, .int v1), (2, .int v2)]) C dX11_best_24 rfl (by decide) rfl ?_
  refine zx_iload_n C 0 dX11_best_25 rfl rfl ?_
  refine zx_if_eq (tgt := 35) C dX11_best_26 (by decide) (fun h_1 => ?_) (fun h_1 => ?_)
  · refine zx_aload_n C 1 dX11_best_35 rfl rfl ?_
    refine zx_iload_n C 2 dX11_best_36 rfl rfl ?_
    refine zx_callV (As := [.int v1]) (st := []) C yk_X11_findBest q_908 q_910 q_28 (by decide) rfl rfl (k_X11_findBest C.hO N v1 σ) (by decide) rfl rfl (Nat.le_of_ble_eq_true rfl) dX11_best_37 (fun h9 => nomatch h9) (fun _ r_2 t_3 => ?_)
    refine zx_iload_n C 3 dX11_best_40 rfl rfl ?_
    refine zx_iconst (v := -1) C dX11_best_41 (by decide) ?_
    refine zx_icmp_ne (tgt := 52) C dX11_best_42 (by decide) (fun h_4 => ?_) (fun h_4 => ?_)
    · refine zx_aload_n C 1 dX11_best_52 rfl rfl ?_
      refine zx_get C 26 (by decide) rfl rfl (by decide) inX11 q_678 rfl rfl dX11_best_53 ?_
      refine zx_aload_n C 1 dX11_best_56 rfl rfl ?_
      refine zx_get C 9 (by decide) rfl rfl (by decide) inX11 q_661 rfl rfl dX11_best_57 ?_
      refine zx_iload_n C 3 dX11_best_60 rfl rfl ?_
      refine zx_callS (av := [.int (t_3 0 26), .int (t_3 0 9), .int v2]) (st := []) C yk_X11_roomOf q_916 q_917 (k_X11_roomOf C.hO N (t_3 0 26) (t_3 0 9) v2 t_3) (by decide) rfl rfl (Nat.le_of_ble_eq_true rfl) dX11_best_61 (fun _ r_5 t_6 => ?_) (fun h9 => nomatch h9)
      exact zx_iret C dX11_best_64
    · refine zx_aload_n C 1 dX11_best_45 rfl rfl ?_
      refine zx_get C 25 (by decide) rfl rfl (by decide) inX11 q_677 rfl rfl dX11_best_46 ?_
      refine zx_goto (tgt := 64) C dX11_best_49 (by decide) ?_
      exact zx_iret C dX11_best_64
  · refine zx_aload_n C 1 dX11_best_29 rfl rfl ?_
    refine zx_iload_n C 0 dX11_best_30 rfl rfl ?_
    refine zx_callV (As := [.int u0]) (st := []) C yk_X11_no q_747 q_749 q_10 (by decide) rfl rfl (k_X11_no C.hO N u0 σ) (by decide) rfl rfl (Nat.le_of_ble_eq_true rfl) dX11_best_31 (fun _ r_7 t_8 => ?_) (fun h9 => nomatch h9)
    exact zx_iret C dX11_best_34
def bf_X11_best_17 (N : Nat) (v1 : Int32) (v2 : Int32) (σ : zS) : zA := z_b (f_X11_bound N v1 (0 : Int32) (20 : Int32) σ) (fun r_9 t_10 => (bf_X11_best_24 N v1 v2 r_9 t_10))
set_option maxHeartbeats 4000000 in
set_option maxRecDepth 100000 in
theorem b_X11_best_17 {G : zG} {dC : Nat → ClassId} {dI : Nat → Nat → Nat} {A : Nat → Prop} {ad : Nat → Nat} {cI cC cW : ClassId} (C : zC G dC dI A 16 ad (cfM ad cI) (z_ty cI cC cW) cX11_best RX11 4 9 (some .int)) (N : Nat) (v1 : Int32) (v2 : Int32) (σ : zS) : zW G dC dI A 16 ad (cfM ad cI) 4 true (bf_X11_best_17 N  v1 v2 σ) σ 17 [(0, .ref (ad 0)), (1, .int v1), (2, .int v2)] [] := by
  unfold bf_X11_best_17
  refine zx_iload_n C 1 dX11_best_17 rfl rfl ?_
  refine zx_iconst (v := 0) C dX11_best_18 (by decide) ?_
  refine zx_bipush (v := 20) C dX11_best_19 (by decide) ?_
  refine zx_callS (av := [.int v1, .int (0 : Int32), .int (20 : Int32)]) (st := []) C yk_X11_bound q_744 q_745 (k_X11_bound C.hO N v1 (0 : Int32) (20 : Int32) σ) (by decide) rfl rfl (Nat.le_of_ble_eq_true rfl) dX11_best_21 (fun _ r_9 t_10 => ?_) (fun h9 => nomatch h9)
  exact zx_sub (L1 := [(0, .ref (ad 0)), (1, .int v1), (2, .int v2)]) [0, 1, 2] rfl (b_X11_best_24 C N v1 v2 r_9 t_10)
def f_X11_best (N : Nat) (v1 : Int32) (v2 : Int32) (σ : zS) : zA := (if v2 = (-1 : Int32) then (bf_X11_best_17 N v1 v2 σ) else z_b (f_X11_isCandle N v2 σ) (fun r_12 t_13 => (if r_12 = (0 : Int32) then (bf_X11_best_24 N v1 v2 (-1 : Int32) t_13) else (bf_X11_best_17 N v1 v2 t_13))))
set_option maxHeartbeats 4000000 in
set_option maxRecDepth 100000 in
theorem k_X11_best {l : Launch} {dC : Nat → ClassId} {dI : Nat → Nat → Nat} {A : Nat → Prop} {ad : Nat → Nat} {cI cC cW : ClassId} (hO : zO A 16 ad (cfM ad cI)) (N : Nat) (v1 : Int32) (v2 : Int32) (σ : zS) : zM l dC dI A 16 ad (cfM ad cI) (z_ty cI cC cW) true yX11_best cX11_best 4 (some .int) 9 [.ref (ad 0), .int v1, .int v2] σ (f_X11_best N v1 v2 σ) := by
  refine zM_of hO (by decide) (Nat.le_of_ble_eq_true rfl) (fun G hG C => ?_)
  subst hG
  unfold f_X11_best
  refine zx_sub (L1 := [(0, .ref (ad 0)), (1, .int v1), (2, .int v2)]) [0, 1, 2] rfl ?_
  refine zx_iload_n C 2 dX11_best_0 rfl rfl ?_
  refine zx_iconst (v := -1) C dX11_best_1 (by decide) ?_
  refine zx_icmp_eq (tgt := 17) C dX11_best_2 (by decide) (fun h_11 => ?_) (fun h_11 => ?_)
  · exact zx_sub (L1 := [(0, .ref (ad 0)), (1, .int v1), (2, .int v2)]) [0, 1, 2] rfl (b_X11_best_17 C N v1 v2 σ)
  · refine zx_aload_n C 0 dX11_best_5 rfl rfl ?_
    refine zx_iload_n C 2 dX11_best_6 rfl rfl ?_
    refine zx_callV (As := [.int v2]) (st := []) C yk_X11_isCandle q_796 q_798 q_19 (by decide) rfl rfl (k_X11_isCandle C.hO N v2 σ) (by decide) rfl rfl (Nat.le_of_ble_eq_true rfl) dX11_best_7 (fun _ r_12 t_13 => ?_) (fun h9 => nomatch h9)
    refine zx_if_ne (tgt := 17) C dX11_best_10 (by decide) (fun h_14 => ?_) (fun h_14 => ?_)
    · exact zx_sub (L1 := [(0, .ref (ad 0)), (1, .int v1), (2, .int v2)]) [0, 1, 2] rfl (b_X11_best_17 C N v1 v2 t_13)
    · refine zx_iconst (v := -1) C dX11_best_13 (by decide) ?_
      refine zx_goto (tgt := 24) C dX11_best_14 (by decide) ?_
      exact zx_sub (L1 := [(0, .ref (ad 0)), (1, .int v1), (2, .int v2)]) [0, 1, 2] rfl (b_X11_best_24 C N v1 v2 (-1 : Int32) t_13)
def bf_X11_countsAll_6 (N : Nat) (rec6 : Int32 → Int32 → Int32 → Int32 → Int32 → zS → zA) (v0 : Int32) (v1 : Int32) (v3 : Int32) (v4 : Int32) (v5 : Int32) (σ : zS) : zA := (if v4 ≤ (0 : Int32) then some (v5, σ) else z_b (f_X11_burns N v0 v1 v4 v3 σ) (fun r_2 t_3 => z_b (f_X11_drips N v0 v1 r_2 v3 t_3) (fun r_4 t_5 => z_b (f_X11_counts N v0 (r_2 - r_4) t_5) (fun r_6 t_7 => z_n (v5 + r_6) (fun z_8 => z_n (v4 - r_2) (fun z_9 => (rec6 v0 v1 v3 z_9 z_8 t_7)))))))
set_option maxHeartbeats 4000000 in
set_option maxRecDepth 100000 in
theorem b_X11_countsAll_6 {G : zG} {dC : Nat → ClassId} {dI : Nat → Nat → Nat} {A : Nat → Prop} {ad : Nat → Nat} {cI cC cW : ClassId} (C : zC G dC dI A 16 ad (cfM ad cI) (z_ty cI cC cW) cX11_countsAll RX11 7 2 (some .int)) (N : Nat) (rec6 : Int32 → Int32 → Int32 → Int32 → Int32 → zS → zA) (hrec6 : ∀ (v0 : Int32) (v1 : Int32) (v3 : Int32) (v4 : Int32) (v5 : Int32) (σ : zS), zW G dC dI A 16 ad (cfM ad cI) 7 true (rec6 v0 v1 v3 v4 v5 σ) σ 6 [(0, .int v0), (1, .int v1), (3, .int v3), (4, .int v4), (5, .int v5)] []) (v0 : Int32) (v1 : Int32) (v3 : Int32) (v4 : Int32) (v5 : Int32) (σ : zS) : zW G dC dI A 16 ad (cfM ad cI) 7 true (bf_X11_countsAll_6 N rec6 v0 v1 v3 v4 v5 σ) σ 6 [(0, .int v0), (1, .int v1), (3, .int v3), (4, .int v4), (5, .int v5)] [] := by
  unfold bf_X11_countsAll_6
  refine zx_iload C 3 dX11_countsAll_6 rfl ?_
  refine zx_if_le (tgt := 51) C dX11_countsAll_8 (by decide) (fun h_1 => ?_) (fun h_1 => ?_)
  · refine zx_iload C 4 dX11_countsAll_51 rfl ?_
    exact zx_iret C dX11_countsAll_53
  · refine zx_iload_n C 0 dX11_countsAll_11 rfl rfl ?_
    refine zx_iload_n C 1 dX11_countsAll_12 rfl rfl ?_
    refine zx_iload C 3 dX11_countsAll_13 rfl ?_
    refine zx_iload_n C 2 dX11_countsAll_15 rfl rfl ?_
    refine zx_callS (av := [.int v0, .int v1, .int v4, .int v3]) (st := []) C yk_X11_burns q_816 q_817 (k_X11_burns C.hO N v0 v1 v4 v3 σ) (by decide) rfl rfl (Nat.le_of_ble_eq_true rfl) dX11_countsAll_16 (fun _ r_2 t_3 => ?_) (fun h9 => nomatch h9)
    refine zx_istore (L1 := [(6, .int r_2), (0, .int v0), (1, .int v1), (3, .int v3), (4, .int v4), (5, .int v5)]) C dX11_countsAll_19 (by decide) rfl ?_
    refine zx_iload C 5 dX11_countsAll_21 rfl ?_
    refine zx_iload_n C 1 dX11_countsAll_23 rfl rfl ?_
    refine zx_iload C 0 dX11_countsAll_24 rfl ?_
    refine zx_iload_n C 1 dX11_countsAll_26 rfl rfl ?_
    refine zx_iload_n C 2 dX11_countsAll_27 rfl rfl ?_
    refine zx_iload C 0 dX11_countsAll_28 rfl ?_
    refine zx_iload_n C 3 dX11_countsAll_30 rfl rfl ?_
    refine zx_callS (av := [.int v0, .int v1, .int r_2, .int v3]) (st := [.int r_2, .int v0, .int v5]) C yk_X11_drips q_826 q_827 (k_X11_drips C.hO N v0 v1 r_2 v3 t_3) (by decide) rfl rfl (Nat.le_of_ble_eq_true rfl) dX11_countsAll_31 (fun _ r_4 t_5 => ?_) (fun h9 => nomatch h9)
    refine zx_isub C dX11_countsAll_34 ?_
    refine zx_callS (av := [.int v0, .int (r_2 - r_4)]) (st := [.int v5]) C yk_X11_counts q_833 q_834 (k_X11_counts C.hO N v0 (r_2 - r_4) t_5) (by decide) rfl rfl (Nat.le_of_ble_eq_true rfl) dX11_countsAll_35 (fun _ r_6 t_7 => ?_) (fun h9 => nomatch h9)
    refine zx_iadd C dX11_countsAll_38 ?_
    refine zx_n (fun z_8 => ?_)
    refine zx_istore (L1 := [(5, .int z_8), (6, .int r_2), (0, .int v0), (1, .int v1), (3, .int v3), (4, .int v4)]) C dX11_countsAll_39 (by decide) rfl ?_
    refine zx_iload C 5 dX11_countsAll_41 rfl ?_
    refine zx_iload C 1 dX11_countsAll_43 rfl ?_
    refine zx_isub C dX11_countsAll_45 ?_
    refine zx_n (fun z_9 => ?_)
    refine zx_istore (L1 := [(4, .int z_9), (5, .int z_8), (6, .int r_2), (0, .int v0), (1, .int v1), (3, .int v3)]) C dX11_countsAll_46 (by decide) rfl ?_
    refine zx_goto (tgt := 6) C dX11_countsAll_48 (by decide) ?_
    exact zx_sub (L1 := [(0, .int v0), (1, .int v1), (3, .int v3), (4, .int z_9), (5, .int z_8)]) [3, 4, 5, 0, 1] rfl (hrec6 v0 v1 v3 z_9 z_8 t_7)
def lf_X11_countsAll_6 (N : Nat) : Nat → Int32 → Int32 → Int32 → Int32 → Int32 → zS → zA
  | 0, _, _, _, _, _, _ => none
  | n + 1, v0, v1, v3, v4, v5, σ => bf_X11_countsAll_6 N (lf_X11_countsAll_6 N  n) v0 v1 v3 v4 v5 σ
theorem l_X11_countsAll_6 {G : zG} {dC : Nat → ClassId} {dI : Nat → Nat → Nat} {A : Nat → Prop} {ad : Nat → Nat} {cI cC cW : ClassId} (C : zC G dC dI A 16 ad (cfM ad cI) (z_ty cI cC cW) cX11_countsAll RX11 7 2 (some .int)) (N : Nat) : ∀ (n : Nat) (v0 : Int32) (v1 : Int32) (v3 : Int32) (v4 : Int32) (v5 : Int32) (σ : zS), zW G dC dI A 16 ad (cfM ad cI) 7 true (lf_X11_countsAll_6 N  n v0 v1 v3 v4 v5 σ) σ 6 [(0, .int v0), (1, .int v1), (3, .int v3), (4, .int v4), (5, .int v5)] [] := by
  intro n
  induction n with
  | zero => intro v0 v1 v3 v4 v5 σ; exact zx_none
  | succ n ih => intro v0 v1 v3 v4 v5 σ; exact b_X11_countsAll_6 C N (lf_X11_countsAll_6 N  n) ih v0 v1 v3 v4 v5 σ
def f_X11_countsAll (N : Nat) (v0 : Int32) (v1 : Int32) (v2 : Int32) (v3 : Int32) (σ : zS) : zA := (lf_X11_countsAll_6 N N v0 v1 v3 v2 (0 : Int32) σ)
set_option maxHeartbeats 4000000 in
set_option maxRecDepth 100000 in
theorem k_X11_countsAll {l : Launch} {dC : Nat → ClassId} {dI : Nat → Nat → Nat} {A : Nat → Prop} {ad : Nat → Nat} {cI cC cW : ClassId} (hO : zO A 16 ad (cfM ad cI)) (N : Nat) (v0 : Int32) (v1 : Int32) (v2 : Int32) (v3 : Int32) (σ : zS) : zM l dC dI A 16 ad (cfM ad cI) (z_ty cI cC cW) true yX11_countsAll cX11_countsAll 7 (some .int) 2 [.int v0, .int v1, .int v2, .int v3] σ (f_X11_countsAll N v0 v1 v2 v3 σ) := by
  refine zM_of hO (by decide) (Nat.le_of_ble_eq_true rfl) (fun G hG C => ?_)
  subst hG
  unfold f_X11_countsAll
  refine zx_sub (L1 := [(0, .int v0), (1, .int v1), (2, .int v2), (3, .int v3)]) [0, 1, 2, 3] rfl ?_
  refine zx_iload_n C 2 dX11_countsAll_0 rfl rfl ?_
  refine zx_istore (L1 := [(4, .int v2), (0, .int v0), (1, .int v1), (2, .int v2), (3, .int v3)]) C dX11_countsAll_1 (by decide) rfl ?_
  refine zx_iconst (v := 0) C dX11_countsAll_3 (by decide) ?_
  refine zx_istore (L1 := [(5, .int (0 : Int32)), (4, .int v2), (0, .int v0), (1, .int v1), (2, .int v2), (3, .int v3)]) C dX11_countsAll_4 (by decide) rfl ?_
  exact zx_sub (L1 := [(0, .int v0), (1, .int v1), (3, .int v3), (4, .int v2), (5, .int (0 : Int32))]) [2, 3, 5, 1, 0] rfl (l_X11_countsAll_6 C N N v0 v1 v3 v2 (0 : Int32) σ)
def bf_X11_pour_75 (N : Nat) (rec75 : Int32 → Int32 → Int32 → Int32 → Int32 → zS → zA) (v1 : Int32) (v2 : Int32) (v4 : Int32) (v6 : Int32) (v7 : Int32) (σ : zS) : zA := (if (999 : Int32) < v7 then some ((-9 : Int32), σ) else z_g (z_in v4 4) (z_b (f_X11_countsAll N v1 v2 v7 (σ 7 v4.toNatClampNeg) σ) (fun r_2 t_3 => (if r_2 < v6 then (rec75 v1 v2 v4 v6 (v7 + (1 : Int32)) t_3) else some (v7, t_3)))))
set_option maxHeartbeats 4000000 in
set_option maxRecDepth 100000 in
theorem b_X11_pour_75 {G : zG} {dC : Nat → ClassId} {dI : Nat → Nat → Nat} {A : Nat → Prop} {ad : Nat → Nat} {cI cC cW : ClassId} (C : zC G dC dI A 16 ad (cfM ad cI) (z_ty cI cC cW) cX11_pour RX11 8 3 (some .int)) (N : Nat) (rec75 : Int32 → Int32 → Int32 → Int32 → Int32 → zS → zA) (hrec75 : ∀ (v1 : Int32) (v2 : Int32) (v4 : Int32) (v6 : Int32) (v7 : Int32) (σ : zS), zW G dC dI A 16 ad (cfM ad cI) 8 true (rec75 v1 v2 v4 v6 v7 σ) σ 75 [(0, .ref (ad 0)), (1, .int v1), (2, .int v2), (4, .int v4), (6, .int v6), (7, .int v7)] []) (v1 : Int32) (v2 : Int32) (v4 : Int32) (v6 : Int32) (v7 : Int32) (σ : zS) : zW G dC dI A 16 ad (cfM ad cI) 8 true (bf_X11_pour_75 N rec75 v1 v2 v4 v6 v7 σ) σ 75 [(0, .ref (ad 0)), (1, .int v1), (2, .int v2), (4, .int v4), (6, .int v6), (7, .int v7)] [] := by
  unfold bf_X11_pour_75
  refine zx_iload C 5 dX11_pour_75 rfl ?_
  refine zx_sipush (v := 999) C dX11_pour_77 (by decide) ?_
  refine zx_icmp_gt (tgt := 111) C dX11_pour_80 (by decide) (fun h_1 => ?_) (fun h_1 => ?_)
  · refine zx_bipush (v := -9) C dX11_pour_111 (by decide) ?_
    exact zx_iret C dX11_pour_113
  · refine zx_iload_n C 1 dX11_pour_83 rfl rfl ?_
    refine zx_iload_n C 2 dX11_pour_84 rfl rfl ?_
    refine zx_iload C 5 dX11_pour_85 rfl ?_
    refine zx_aload_n C 0 dX11_pour_87 rfl rfl ?_
    refine zx_get C 7 (by decide) rfl rfl (by decide) inX11 q_659 rfl rfl dX11_pour_88 ?_
    refine zx_iload C 3 dX11_pour_91 rfl ?_
    refine zx_iald C 0 (by decide) rfl rfl dX11_pour_93 ?_
    refine zx_callS (av := [.int v1, .int v2, .int v7, .int (σ 7 v4.toNatClampNeg)]) (st := []) C yk_X11_countsAll q_923 q_924 (k_X11_countsAll C.hO N v1 v2 v7 (σ 7 v4.toNatClampNeg) σ) (by decide) rfl rfl (Nat.le_of_ble_eq_true rfl) dX11_pour_94 (fun _ r_2 t_3 => ?_) (fun h9 => nomatch h9)
    refine zx_iload C 4 dX11_pour_97 rfl ?_
    refine zx_icmp_lt (tgt := 105) C dX11_pour_99 (by decide) (fun h_4 => ?_) (fun h_4 => ?_)
    · refine zx_iinc (v := (v7 + (1 : Int32))) (L1 := [(7, .int (v7 + (1 : Int32))), (0, .ref (ad 0)), (1, .int v1), (2, .int v2), (4, .int v4), (6, .int v6)]) C 5 dX11_pour_105 rfl rfl (by decide) rfl ?_
      refine zx_goto (tgt := 75) C dX11_pour_108 (by decide) ?_
      exact zx_sub (L1 := [(0, .ref (ad 0)), (1, .int v1), (2, .int v2), (4, .int v4), (6, .int v6), (7, .int (v7 + (1 : Int32)))]) [1, 2, 3, 4, 5, 0] rfl (hrec75 v1 v2 v4 v6 (v7 + (1 : Int32)) t_3)
    · refine zx_iload C 5 dX11_pour_102 rfl ?_
      exact zx_iret C dX11_pour_104
def lf_X11_pour_75 (N : Nat) : Nat → Int32 → Int32 → Int32 → Int32 → Int32 → zS → zA
  | 0, _, _, _, _, _, _ => none
  | n + 1, v1, v2, v4, v6, v7, σ => bf_X11_pour_75 N (lf_X11_pour_75 N  n) v1 v2 v4 v6 v7 σ
theorem l_X11_pour_75 {G : zG} {dC : Nat → ClassId} {dI : Nat → Nat → Nat} {A : Nat → Prop} {ad : Nat → Nat} {cI cC cW : ClassId} (C : zC G dC dI A 16 ad (cfM ad cI) (z_ty cI cC cW) cX11_pour RX11 8 3 (some .int)) (N : Nat) : ∀ (n : Nat) (v1 : Int32) (v2 : Int32) (v4 : Int32) (v6 : Int32) (v7 : Int32) (σ : zS), zW G dC dI A 16 ad (cfM ad cI) 8 true (lf_X11_pour_75 N  n v1 v2 v4 v6 v7 σ) σ 75 [(0, .ref (ad 0)), (1, .int v1), (2, .int v2), (4, .int v4), (6, .int v6), (7, .int v7)] [] := by
  intro n
  induction n with
  | zero => intro v1 v2 v4 v6 v7 σ; exact zx_none
  | succ n ih => intro v1 v2 v4 v6 v7 σ; exact b_X11_pour_75 C N (lf_X11_pour_75 N  n) ih v1 v2 v4 v6 v7 σ
def bf_X11_pour_40 (N : Nat) (v1 : Int32) (v2 : Int32) (v3 : Int32) (v4 : Int32) (v5 : Int32) (σ : zS) : zA := (if v5 = (0 : Int32) then z_g (z_in (((4 : Int32) * v3) + v4) 16) (z_n (σ 8 (((4 : Int32) * v3) + v4).toNatClampNeg) (fun z_6 => (if z_6 = (0 : Int32) then some ((0 : Int32), σ) else (lf_X11_pour_75 N N v1 v2 v4 z_6 (1 : Int32) σ)))) else z_b (f_X11_no N v5 σ) (fun r_8 t_9 => some (r_8, t_9)))
set_option maxHeartbeats 4000000 in
set_option maxRecDepth 100000 in
theorem b_X11_pour_40 {G : zG} {dC : Nat → ClassId} {dI : Nat → Nat → Nat} {A : Nat → Prop} {ad : Nat → Nat} {cI cC cW : ClassId} (C : zC G dC dI A 16 ad (cfM ad cI) (z_ty cI cC cW) cX11_pour RX11 8 3 (some .int)) (N : Nat) (v1 : Int32) (v2 : Int32) (v3 : Int32) (v4 : Int32) (v5 : Int32) (σ : zS) : zW G dC dI A 16 ad (cfM ad cI) 8 true (bf_X11_pour_40 N  v1 v2 v3 v4 v5 σ) σ 40 [(0, .ref (ad 0)), (1, .int v1), (2, .int v2), (3, .int v3), (4, .int v4), (5, .int v5)] [] := by
  unfold bf_X11_pour_40
  refine zx_iload C 5 dX11_pour_40 rfl ?_
  refine zx_if_eq (tgt := 52) C dX11_pour_42 (by decide) (fun h_5 => ?_) (fun h_5 => ?_)
  · refine zx_aload_n C 0 dX11_pour_52 rfl rfl ?_
    refine zx_get C 8 (by decide) rfl rfl (by decide) inX11 q_660 rfl rfl dX11_pour_53 ?_
    refine zx_iconst (v := 4) C dX11_pour_56 (by decide) ?_
    refine zx_iload_n C 3 dX11_pour_57 rfl rfl ?_
    refine zx_imul C dX11_pour_58 ?_
    refine zx_iload C 4 dX11_pour_59 rfl ?_
    refine zx_iadd C dX11_pour_61 ?_
    refine zx_iald C 0 (by decide) rfl rfl dX11_pour_62 ?_
    refine zx_n (fun z_6 => ?_)
    refine zx_istore (L1 := [(6, .int z_6), (0, .ref (ad 0)), (1, .int v1), (2, .int v2), (3, .int v3), (4, .int v4), (5, .int v5)]) C dX11_pour_63 (by decide) rfl ?_
    refine zx_iload C 0 dX11_pour_65 rfl ?_
    refine zx_if_ne (tgt := 72) C dX11_pour_67 (by decide) (fun h_7 => ?_) (fun h_7 => ?_)
    · refine zx_iconst (v := 1) C dX11_pour_72 (by decide) ?_
      refine zx_istore (L1 := [(7, .int (1 : Int32)), (6, .int z_6), (0, .ref (ad 0)), (1, .int v1), (2, .int v2), (3, .int v3), (4, .int v4), (5, .int v5)]) C dX11_pour_73 (by decide) rfl ?_
      exact zx_sub (L1 := [(0, .ref (ad 0)), (1, .int v1), (2, .int v2), (4, .int v4), (6, .int z_6), (7, .int (1 : Int32))]) [2, 3, 4, 6, 1, 0] rfl (l_X11_pour_75 C N N v1 v2 v4 z_6 (1 : Int32) σ)
    · refine zx_iconst (v := 0) C dX11_pour_70 (by decide) ?_
      exact zx_iret C dX11_pour_71
  · refine zx_aload_n C 0 dX11_pour_45 rfl rfl ?_
    refine zx_iload C 5 dX11_pour_46 rfl ?_
    refine zx_callV (As := [.int v5]) (st := []) C yk_X11_no q_747 q_749 q_10 (by decide) rfl rfl (k_X11_no C.hO N v5 σ) (by decide) rfl rfl (Nat.le_of_ble_eq_true rfl) dX11_pour_48 (fun _ r_8 t_9 => ?_) (fun h9 => nomatch h9)
    exact zx_iret C dX11_pour_51
def bf_X11_pour_21 (N : Nat) (v1 : Int32) (v2 : Int32) (v3 : Int32) (v4 : Int32) (u0 : Int32) (σ : zS) : zA := (if u0 = (0 : Int32) then z_b (f_X11_areTwo N v3 v4 σ) (fun r_11 t_12 => (if r_11 = (0 : Int32) then (bf_X11_pour_40 N v1 v2 v3 v4 (-1 : Int32) t_12) else (bf_X11_pour_40 N v1 v2 v3 v4 u0 t_12))) else (bf_X11_pour_40 N v1 v2 v3 v4 u0 σ))
set_option maxHeartbeats 4000000 in
set_option maxRecDepth 100000 in
theorem b_X11_pour_21 {G : zG} {dC : Nat → ClassId} {dI : Nat → Nat → Nat} {A : Nat → Prop} {ad : Nat → Nat} {cI cC cW : ClassId} (C : zC G dC dI A 16 ad (cfM ad cI) (z_ty cI cC cW) cX11_pour RX11 8 3 (some .int)) (N : Nat) (v1 : Int32) (v2 : Int32) (v3 : Int32) (v4 : Int32) (u0 : Int32) (σ : zS) : zW G dC dI A 16 ad (cfM ad cI) 8 true (bf_X11_pour_21 N  v1 v2 v3 v4 u0 σ) σ 21 [(0, .ref (ad 0)), (1, .int v1), (2, .int v2), (3, .int v3), (4, .int v4)] [.int u0] := by
  unfold bf_X11_pour_21
  refine zx_istore (L1 := [(5, .int u0), (0, .ref (ad 0)), (1, .int v1), (2, .int v2), (3, .int v3), (4, .int v4)]) C dX11_pour_21 (by decide) rfl ?_
  refine zx_iload C 0 dX11_pour_23 rfl ?_
  refine zx_if_ne (tgt := 40) C dX11_pour_25 (by decide) (fun h_10 => ?_) (fun h_10 => ?_)
  · exact zx_sub (L1 := [(0, .ref (ad 0)), (1, .int v1), (2, .int v2), (3, .int v3), (4, .int v4), (5, .int u0)]) [1, 2, 3, 4, 5, 0] rfl (b_X11_pour_40 C N v1 v2 v3 v4 u0 σ)
  · refine zx_iload_n C 4 dX11_pour_28 rfl rfl ?_
    refine zx_iload C 5 dX11_pour_29 rfl ?_
    refine zx_callS (av := [.int v3, .int v4]) (st := []) C yk_X11_areTwo q_793 q_794 (k_X11_areTwo C.hO N v3 v4 σ) (by decide) rfl rfl (Nat.le_of_ble_eq_true rfl) dX11_pour_31 (fun _ r_11 t_12 => ?_) (fun h9 => nomatch h9)
    refine zx_if_ne (tgt := 40) C dX11_pour_34 (by decide) (fun h_13 => ?_) (fun h_13 => ?_)
    · exact zx_sub (L1 := [(0, .ref (ad 0)), (1, .int v1), (2, .int v2), (3, .int v3), (4, .int v4), (5, .int u0)]) [1, 2, 3, 4, 5, 0] rfl (b_X11_pour_40 C N v1 v2 v3 v4 u0 t_12)
    · refine zx_iconst (v := -1) C dX11_pour_37 (by decide) ?_
      refine zx_istore (L1 := [(5, .int (-1 : Int32)), (0, .ref (ad 0)), (1, .int v1), (2, .int v2), (3, .int v3), (4, .int v4)]) C dX11_pour_38 (by decide) rfl ?_
      exact zx_sub (L1 := [(0, .ref (ad 0)), (1, .int v1), (2, .int v2), (3, .int v3), (4, .int v4), (5, .int (-1 : Int32))]) [1, 2, 3, 4, 5, 0] rfl (b_X11_pour_40 C N v1 v2 v3 v4 (-1 : Int32) t_12)
def f_X11_pour (N : Nat) (v1 : Int32) (v2 : Int32) (v3 : Int32) (v4 : Int32) (σ : zS) : zA := z_b (f_X11_isIn N v1 (0 : Int32) (5 : Int32) σ) (fun r_14 t_15 => (if r_14 = (0 : Int32) then (bf_X11_pour_21 N v1 v2 v3 v4 (-2 : Int32) t_15) else z_b (f_X11_bound N v2 (0 : Int32) (9 : Int32) t_15) (fun r_17 t_18 => (bf_X11_pour_21 N v1 v2 v3 v4 r_17 t_18))))
set_option maxHeartbeats 4000000 in
set_option maxRecDepth 100000 in
theorem k_X11_pour {l : Launch} {dC : Nat → ClassId} {dI : Nat → Nat → Nat} {A : Nat → Prop} {ad : Nat → Nat} {cI cC cW : ClassId} (hO : zO A 16 ad (cfM ad cI)) (N : Nat) (v1 : Int32) (v2 : Int32) (v3 : Int32) (v4 : Int32) (σ : zS) : zM l dC dI A 16 ad (cfM ad cI) (z_ty cI cC cW) true yX11_pour cX11_pour 8 (some .int) 3 [.ref (ad 0), .int v1, .int v2, .int v3, .int v4] σ (f_X11_pour N v1 v2 v3 v4 σ) := by
  refine zM_of hO (by decide) (Nat.le_of_ble_eq_true rfl) (fun G hG C => ?_)
  subst hG
  unfold f_X11_pour
  refine zx_sub (L1 := [(0, .ref (ad 0)), (1, .int v1), (2, .int v2), (3, .int v3), (4, .int v4)]) [0, 1, 2, 3, 4] rfl ?_
  refine zx_iload_n C 1 dX11_pour_0 rfl rfl ?_
  refine zx_iconst (v := 0) C dX11_pour_1 (by decide) ?_
  refine zx_iconst (v := 5) C dX11_pour_2 (by decide) ?_
  refine zx_callS (av := [.int v1, .int (0 : Int32), .int (5 : Int32)]) (st := []) C yk_X11_isIn q_767 q_768 (k_X11_isIn C.hO N v1 (0 : Int32) (5 : Int32) σ) (by decide) rfl rfl (Nat.le_of_ble_eq_true rfl) dX11_pour_3 (fun _ r_14 t_15 => ?_) (fun h9 => nomatch h9)
  refine zx_if_ne (tgt := 14) C dX11_pour_6 (by decide) (fun h_16 => ?_) (fun h_16 => ?_)
  · refine zx_iload_n C 2 dX11_pour_14 rfl rfl ?_
    refine zx_iconst (v := 0) C dX11_pour_15 (by decide) ?_
    refine zx_bipush (v := 9) C dX11_pour_16 (by decide) ?_
    refine zx_callS (av := [.int v2, .int (0 : Int32), .int (9 : Int32)]) (st := []) C yk_X11_bound q_744 q_745 (k_X11_bound C.hO N v2 (0 : Int32) (9 : Int32) t_15) (by decide) rfl rfl (Nat.le_of_ble_eq_true rfl) dX11_pour_18 (fun _ r_17 t_18 => ?_) (fun h9 => nomatch h9)
    exact zx_sub (L1 := [(0, .ref (ad 0)), (1, .int v1), (2, .int v2), (3, .int v3), (4, .int v4)]) [0, 1, 2, 3, 4] rfl (b_X11_pour_21 C N v1 v2 v3 v4 r_17 t_18)
  · refine zx_bipush (v := -2) C dX11_pour_9 (by decide) ?_
    refine zx_goto (tgt := 21) C dX11_pour_11 (by decide) ?_
    exact zx_sub (L1 := [(0, .ref (ad 0)), (1, .int v1), (2, .int v2), (3, .int v3), (4, .int v4)]) [0, 1, 2, 3, 4] rfl (b_X11_pour_21 C N v1 v2 v3 v4 (-2 : Int32) t_15)
def f_X11_doesOwe (N : Nat) (v1 : Int32) (v2 : Int32) (σ : zS) : zA := z_g (z_in (((4 : Int32) * v1) + v2) 16) ((if (σ 8 (((4 : Int32) * v1) + v2).toNatClampNeg) ≤ (0 : Int32) then some ((0 : Int32), σ) else some ((1 : Int32), σ)))
set_option maxHeartbeats 4000000 in
set_option maxRecDepth 100000 in
theorem k_X11_doesOwe {l : Launch} {dC : Nat → ClassId} {dI : Nat → Nat → Nat} {A : Nat → Prop} {ad : Nat → Nat} {cI cC cW : ClassId} (hO : zO A 16 ad (cfM ad cI)) (N : Nat) (v1 : Int32) (v2 : Int32) (σ : zS) : zM l dC dI A 16 ad (cfM ad cI) (z_ty cI cC cW) true yX11_doesOwe cX11_doesOwe 3 (some .boolean) 0 [.ref (ad 0), .int v1, .int v2] σ (f_X11_doesOwe N v1 v2 σ) := by
  refine zM_of hO (by decide) (Nat.le_of_ble_eq_true rfl) (fun G hG C => ?_)
  subst hG
  unfold f_X11_doesOwe
  refine zx_sub (L1 := [(0, .ref (ad 0)), (1, .int v1), (2, .int v2)]) [0, 1, 2] rfl ?_
  refine zx_aload_n C 0 dX11_doesOwe_0 rfl rfl ?_
  refine zx_get C 8 (by decide) rfl rfl (by decide) inX11 q_660 rfl rfl dX11_doesOwe_1 ?_
  refine zx_iconst (v := 4) C dX11_doesOwe_4 (by decide) ?_
  refine zx_iload_n C 1 dX11_doesOwe_5 rfl rfl ?_
  refine zx_imul C dX11_doesOwe_6 ?_
  refine zx_iload_n C 2 dX11_doesOwe_7 rfl rfl ?_
  refine zx_iadd C dX11_doesOwe_8 ?_
  refine zx_iald C 0 (by decide) rfl rfl dX11_doesOwe_9 ?_
  refine zx_if_le (tgt := 17) C dX11_doesOwe_10 (by decide) (fun h_1 => ?_) (fun h_1 => ?_)
  · refine zx_iconst (v := 0) C dX11_doesOwe_17 (by decide) ?_
    exact zx_zret C (by decide) dX11_doesOwe_18
  · refine zx_iconst (v := 1) C dX11_doesOwe_13 (by decide) ?_
    refine zx_goto (tgt := 18) C dX11_doesOwe_14 (by decide) ?_
    exact zx_zret C (by decide) dX11_doesOwe_18
def bf_X11_strikesTwo_11 (N : Nat) (rec2 : Int32 → zS → zA) (rec11 : Int32 → Int32 → zS → zA) (v1 : Int32) (v2 : Int32) (σ : zS) : zA := (if (4 : Int32) ≤ v2 then (rec2 (v1 + (1 : Int32)) σ) else z_b (f_X11_doesOwe N v1 v2 σ) (fun r_2 t_3 => (if r_2 = (0 : Int32) then (rec11 v1 (v2 + (1 : Int32)) t_3) else z_b (f_X11_doesOwe N v2 v1 t_3) (fun r_5 t_6 => (if r_5 = (0 : Int32) then (rec11 v1 (v2 + (1 : Int32)) t_6) else z_g (z_in (((4 : Int32) * v1) + v2) 16) (z_g (z_in (((4 : Int32) * v2) + v1) 16) (z_b (f_X11_least N (t_6 8 (((4 : Int32) * v1) + v2).toNatClampNeg) (t_6 8 (((4 : Int32) * v2) + v1).toNatClampNeg) t_6) (fun r_8 t_9 => z_g (z_in (((4 : Int32) * v1) + v2) 16) (z_g (z_in (((4 : Int32) * v1) + v2) 16) (z_m (z_put t_9 8 (((4 : Int32) * v1) + v2).toNatClampNeg ((t_9 8 (((4 : Int32) * v1) + v2).toNatClampNeg) - r_8)) (fun t_10 => z_g (z_in (((4 : Int32) * v2) + v1) 16) (z_g (z_in (((4 : Int32) * v2) + v1) 16) (z_m (z_put t_10 8 (((4 : Int32) * v2) + v1).toNatClampNeg ((t_10 8 (((4 : Int32) * v2) + v1).toNatClampNeg) - r_8)) (fun t_11 => some ((1 : Int32), t_11)))))))))))))))
set_option maxHeartbeats 4000000 in
set_option maxRecDepth 100000 in
theorem b_X11_strikesTwo_11 {G : zG} {dC : Nat → ClassId} {dI : Nat → Nat → Nat} {A : Nat → Prop} {ad : Nat → Nat} {cI cC cW : ClassId} (C : zC G dC dI A 16 ad (cfM ad cI) (z_ty cI cC cW) cX11_strikesTwo RX11 4 1 (some .boolean)) (N : Nat) (rec2 : Int32 → zS → zA) (hrec2 : ∀ (v1 : Int32) (σ : zS), zW G dC dI A 16 ad (cfM ad cI) 4 true (rec2 v1 σ) σ 2 [(0, .ref (ad 0)), (1, .int v1)] []) (rec11 : Int32 → Int32 → zS → zA) (hrec11 : ∀ (v1 : Int32) (v2 : Int32) (σ : zS), zW G dC dI A 16 ad (cfM ad cI) 4 true (rec11 v1 v2 σ) σ 11 [(0, .ref (ad 0)), (1, .int v1), (2, .int v2)] []) (v1 : Int32) (v2 : Int32) (σ : zS) : zW G dC dI A 16 ad (cfM ad cI) 4 true (bf_X11_strikesTwo_11 N rec2 rec11 v1 v2 σ) σ 11 [(0, .ref (ad 0)), (1, .int v1), (2, .int v2)] [] := by
  unfold bf_X11_strikesTwo_11
  refine zx_iload_n C 2 dX11_strikesTwo_11 rfl rfl ?_
  refine zx_iconst (v := 4) C dX11_strikesTwo_12 (by decide) ?_
  refine zx_icmp_ge (tgt := 97) C dX11_strikesTwo_13 (by decide) (fun h_1 => ?_) (fun h_1 => ?_)
  · refine zx_iinc (v := (v1 + (1 : Int32))) (L1 := [(1, .int (v1 + (1 : Int32))), (0, .ref (ad 0)), (2, .int v2)]) C 1 dX11_strikesTwo_97 rfl rfl (by decide) rfl ?_
    refine zx_goto (tgt := 2) C dX11_strikesTwo_100 (by decide) ?_
    exact zx_sub (L1 := [(0, .ref (ad 0)), (1, .int (v1 + (1 : Int32)))]) [1, 0] rfl (hrec2 (v1 + (1 : Int32)) σ)
  · refine zx_aload_n C 0 dX11_strikesTwo_16 rfl rfl ?_
    refine zx_iload_n C 1 dX11_strikesTwo_17 rfl rfl ?_
    refine zx_iload_n C 2 dX11_strikesTwo_18 rfl rfl ?_
    refine zx_callV (As := [.int v1, .int v2]) (st := []) C yk_X11_doesOwe q_934 q_936 q_31 (by decide) rfl rfl (k_X11_doesOwe C.hO N v1 v2 σ) (by decide) rfl rfl (Nat.le_of_ble_eq_true rfl) dX11_strikesTwo_19 (fun _ r_2 t_3 => ?_) (fun h9 => nomatch h9)
    refine zx_if_eq (tgt := 91) C dX11_strikesTwo_22 (by decide) (fun h_4 => ?_) (fun h_4 => ?_)
    · refine zx_iinc (v := (v2 + (1 : Int32))) (L1 := [(2, .int (v2 + (1 : Int32))), (0, .ref (ad 0)), (1, .int v1)]) C 2 dX11_strikesTwo_91 rfl rfl (by decide) rfl ?_
      refine zx_goto (tgt := 11) C dX11_strikesTwo_94 (by decide) ?_
      exact zx_sub (L1 := [(0, .ref (ad 0)), (1, .int v1), (2, .int (v2 + (1 : Int32)))]) [1, 2, 0] rfl (hrec11 v1 (v2 + (1 : Int32)) t_3)
    · refine zx_aload_n C 0 dX11_strikesTwo_25 rfl rfl ?_
      refine zx_iload_n C 2 dX11_strikesTwo_26 rfl rfl ?_
      refine zx_iload_n C 1 dX11_strikesTwo_27 rfl rfl ?_
      refine zx_callV (As := [.int v2, .int v1]) (st := []) C yk_X11_doesOwe q_934 q_936 q_31 (by decide) rfl rfl (k_X11_doesOwe C.hO N v2 v1 t_3) (by decide) rfl rfl (Nat.le_of_ble_eq_true rfl) dX11_strikesTwo_28 (fun _ r_5 t_6 => ?_) (fun h9 => nomatch h9)
      refine zx_if_ne (tgt := 37) C dX11_strikesTwo_31 (by decide) (fun h_7 => ?_) (fun h_7 => ?_)
      · refine zx_aload_n C 0 dX11_strikesTwo_37 rfl rfl ?_
        refine zx_get C 8 (by decide) rfl rfl (by decide) inX11 q_660 rfl rfl dX11_strikesTwo_38 ?_
        refine zx_iconst (v := 4) C dX11_strikesTwo_41 (by decide) ?_
        refine zx_iload_n C 1 dX11_strikesTwo_42 rfl rfl ?_
        refine zx_imul C dX11_strikesTwo_43 ?_
        refine zx_iload_n C 2 dX11_strikesTwo_44 rfl rfl ?_
        refine zx_iadd C dX11_strikesTwo_45 ?_
        refine zx_iald C 0 (by decide) rfl rfl dX11_strikesTwo_46 ?_
        refine zx_aload_n C 0 dX11_strikesTwo_47 rfl rfl ?_
        refine zx_get C 8 (by decide) rfl rfl (by decide) inX11 q_660 rfl rfl dX11_strikesTwo_48 ?_
        refine zx_iconst (v := 4) C dX11_strikesTwo_51 (by decide) ?_
        refine zx_iload_n C 2 dX11_strikesTwo_52 rfl rfl ?_
        refine zx_imul C dX11_strikesTwo_53 ?_
        refine zx_iload_n C 1 dX11_strikesTwo_54 rfl rfl ?_
        refine zx_iadd C dX11_strikesTwo_55 ?_
        refine zx_iald C 0 (by decide) rfl rfl dX11_strikesTwo_56 ?_
        refine zx_callS (av := [.int (t_6 8 (((4 : Int32) * v1) + v2).toNatClampNeg), .int (t_6 8 (((4 : Int32) * v2) + v1).toNatClampNeg)]) (st := []) C yk_X11_least q_819 q_820 (k_X11_least C.hO N (t_6 8 (((4 : Int32) * v1) + v2).toNatClampNeg) (t_6 8 (((4 : Int32) * v2) + v1).toNatClampNeg) t_6) (by decide) rfl rfl (Nat.le_of_ble_eq_true rfl) dX11_strikesTwo_57 (fun _ r_8 t_9 => ?_) (fun h9 => nomatch h9)
        refine zx_istore_n (L1 := [(3, .int r_8), (0, .ref (ad 0)), (1, .int v1), (2, .int v2)]) C dX11_strikesTwo_60 rfl (by decide) rfl ?_
        refine zx_aload_n C 1 dX11_strikesTwo_61 rfl rfl ?_
        refine zx_get C 8 (by decide) rfl rfl (by decide) inX11 q_660 rfl rfl dX11_strikesTwo_62 ?_
        refine zx_iconst (v := 4) C dX11_strikesTwo_65 (by decide) ?_
        refine zx_iload_n C 2 dX11_strikesTwo_66 rfl rfl ?_
        refine zx_imul C dX11_strikesTwo_67 ?_
        refine zx_iload_n C 3 dX11_strikesTwo_68 rfl rfl ?_
        refine zx_iadd C dX11_strikesTwo_69 ?_
        refine zx_dup2 C dX11_strikesTwo_70 rfl rfl ?_
        refine zx_iald C 0 (by decide) rfl rfl dX11_strikesTwo_71 ?_
        refine zx_iload_n C 0 dX11_strikesTwo_72 rfl rfl ?_
        refine zx_isub C dX11_strikesTwo_73 ?_
        refine zx_iast C 0 (by decide) (fun _ => rfl) rfl dX11_strikesTwo_74 (fun t_10 => ?_)
        refine zx_aload_n C 1 dX11_strikesTwo_75 rfl rfl ?_
        refine zx_get C 8 (by decide) rfl rfl (by decide) inX11 q_660 rfl rfl dX11_strikesTwo_76 ?_
        refine zx_iconst (v := 4) C dX11_strikesTwo_79 (by decide) ?_
        refine zx_iload_n C 3 dX11_strikesTwo_80 rfl rfl ?_
        refine zx_imul C dX11_strikesTwo_81 ?_
        refine zx_iload_n C 2 dX11_strikesTwo_82 rfl rfl ?_
        refine zx_iadd C dX11_strikesTwo_83 ?_
        refine zx_dup2 C dX11_strikesTwo_84 rfl rfl ?_
        refine zx_iald C 0 (by decide) rfl rfl dX11_strikesTwo_85 ?_
        refine zx_iload_n C 0 dX11_strikesTwo_86 rfl rfl ?_
        refine zx_isub C dX11_strikesTwo_87 ?_
        refine zx_iast C 0 (by decide) (fun _ => rfl) rfl dX11_strikesTwo_88 (fun t_11 => ?_)
        refine zx_iconst (v := 1) C dX11_strikesTwo_89 (by decide) ?_
        exact zx_zret C (by decide) dX11_strikesTwo_90
      · refine zx_goto (tgt := 91) C dX11_strikesTwo_34 (by decide) ?_
        refine zx_iinc (v := (v2 + (1 : Int32))) (L1 := [(2, .int (v2 + (1 : Int32))), (0, .ref (ad 0)), (1, .int v1)]) C 2 dX11_strikesTwo_91 rfl rfl (by decide) rfl ?_
        refine zx_goto (tgt := 11) C dX11_strikesTwo_94 (by decide) ?_
        exact zx_sub (L1 := [(0, .ref (ad 0)), (1, .int v1), (2, .int (v2 + (1 : Int32)))]) [1, 2, 0] rfl (hrec11 v1 (v2 + (1 : Int32)) t_6)
def lf_X11_strikesTwo_11 (N : Nat) (rec2 : Int32 → zS → zA) : Nat → Int32 → Int32 → zS → zA
  | 0, _, _, _ => none
  | n + 1, v1, v2, σ => bf_X11_strikesTwo_11 N rec2 (lf_X11_strikesTwo_11 N rec2 n) v1 v2 σ
theorem l_X11_strikesTwo_11 {G : zG} {dC : Nat → ClassId} {dI : Nat → Nat → Nat} {A : Nat → Prop} {ad : Nat → Nat} {cI cC cW : ClassId} (C : zC G dC dI A 16 ad (cfM ad cI) (z_ty cI cC cW) cX11_strikesTwo RX11 4 1 (some .boolean)) (N : Nat) (rec2 : Int32 → zS → zA) (hrec2 : ∀ (v1 : Int32) (σ : zS), zW G dC dI A 16 ad (cfM ad cI) 4 true (rec2 v1 σ) σ 2 [(0, .ref (ad 0)), (1, .int v1)] []) : ∀ (n : Nat) (v1 : Int32) (v2 : Int32) (σ : zS), zW G dC dI A 16 ad (cfM ad cI) 4 true (lf_X11_strikesTwo_11 N rec2 n v1 v2 σ) σ 11 [(0, .ref (ad 0)), (1, .int v1), (2, .int v2)] [] := by
  intro n
  induction n with
  | zero => intro v1 v2 σ; exact zx_none
  | succ n ih => intro v1 v2 σ; exact b_X11_strikesTwo_11 C N rec2 hrec2 (lf_X11_strikesTwo_11 N rec2 n) ih v1 v2 σ
def bf_X11_strikesTwo_2 (N : Nat) (rec2 : Int32 → zS → zA) (v1 : Int32) (σ : zS) : zA := (if (4 : Int32) ≤ v1 then some ((0 : Int32), σ) else z_n (v1 + (1 : Int32)) (fun z_13 => (lf_X11_strikesTwo_11 N rec2 N v1 z_13 σ)))
set_option maxHeartbeats 4000000 in
set_option maxRecDepth 100000 in
theorem b_X11_strikesTwo_2 {G : zG} {dC : Nat → ClassId} {dI : Nat → Nat → Nat} {A : Nat → Prop} {ad : Nat → Nat} {cI cC cW : ClassId} (C : zC G dC dI A 16 ad (cfM ad cI) (z_ty cI cC cW) cX11_strikesTwo RX11 4 1 (some .boolean)) (N : Nat) (rec2 : Int32 → zS → zA) (hrec2 : ∀ (v1 : Int32) (σ : zS), zW G dC dI A 16 ad (cfM ad cI) 4 true (rec2 v1 σ) σ 2 [(0, .ref (ad 0)), (1, .int v1)] []) (v1 : Int32) (σ : zS) : zW G dC dI A 16 ad (cfM ad cI) 4 true (bf_X11_strikesTwo_2 N rec2 v1 σ) σ 2 [(0, .ref (ad 0)), (1, .int v1)] [] := by
  unfold bf_X11_strikesTwo_2
  refine zx_iload_n C 1 dX11_strikesTwo_2 rfl rfl ?_
  refine zx_iconst (v := 4) C dX11_strikesTwo_3 (by decide) ?_
  refine zx_icmp_ge (tgt := 103) C dX11_strikesTwo_4 (by decide) (fun h_12 => ?_) (fun h_12 => ?_)
  · refine zx_iconst (v := 0) C dX11_strikesTwo_103 (by decide) ?_
    exact zx_zret C (by decide) dX11_strikesTwo_104
  · refine zx_iload_n C 1 dX11_strikesTwo_7 rfl rfl ?_
    refine zx_iconst (v := 1) C dX11_strikesTwo_8 (by decide) ?_
    refine zx_iadd C dX11_strikesTwo_9 ?_
    refine zx_n (fun z_13 => ?_)
    refine zx_istore_n (L1 := [(2, .int z_13), (0, .ref (ad 0)), (1, .int v1)]) C dX11_strikesTwo_10 rfl (by decide) rfl ?_
    exact zx_sub (L1 := [(0, .ref (ad 0)), (1, .int v1), (2, .int z_13)]) [1, 2, 0] rfl (l_X11_strikesTwo_11 C N rec2 hrec2 N v1 z_13 σ)
def lf_X11_strikesTwo_2 (N : Nat) : Nat → Int32 → zS → zA
  | 0, _, _ => none
  | n + 1, v1, σ => bf_X11_strikesTwo_2 N (lf_X11_strikesTwo_2 N  n) v1 σ
theorem l_X11_strikesTwo_2 {G : zG} {dC : Nat → ClassId} {dI : Nat → Nat → Nat} {A : Nat → Prop} {ad : Nat → Nat} {cI cC cW : ClassId} (C : zC G dC dI A 16 ad (cfM ad cI) (z_ty cI cC cW) cX11_strikesTwo RX11 4 1 (some .boolean)) (N : Nat) : ∀ (n : Nat) (v1 : Int32) (σ : zS), zW G dC dI A 16 ad (cfM ad cI) 4 true (lf_X11_strikesTwo_2 N  n v1 σ) σ 2 [(0, .ref (ad 0)), (1, .int v1)] [] := by
  intro n
  induction n with
  | zero => intro v1 σ; exact zx_none
  | succ n ih => intro v1 σ; exact b_X11_strikesTwo_2 C N (lf_X11_strikesTwo_2 N  n) ih v1 σ
def f_X11_strikesTwo (N : Nat) (σ : zS) : zA := (lf_X11_strikesTwo_2 N N (0 : Int32) σ)
set_option maxHeartbeats 4000000 in
set_option maxRecDepth 100000 in
theorem k_X11_strikesTwo {l : Launch} {dC : Nat → ClassId} {dI : Nat → Nat → Nat} {A : Nat → Prop} {ad : Nat → Nat} {cI cC cW : ClassId} (hO : zO A 16 ad (cfM ad cI)) (N : Nat) (σ : zS) : zM l dC dI A 16 ad (cfM ad cI) (z_ty cI cC cW) true yX11_strikesTwo cX11_strikesTwo 4 (some .boolean) 1 [.ref (ad 0)] σ (f_X11_strikesTwo N  σ) := by
  refine zM_of hO (by decide) (Nat.le_of_ble_eq_true rfl) (fun G hG C => ?_)
  subst hG
  unfold f_X11_strikesTwo
  refine zx_sub (L1 := [(0, .ref (ad 0))]) [0] rfl ?_
  refine zx_iconst (v := 0) C dX11_strikesTwo_0 (by decide) ?_
  refine zx_istore_n (L1 := [(1, .int (0 : Int32)), (0, .ref (ad 0))]) C dX11_strikesTwo_1 rfl (by decide) rfl ?_
  exact zx_sub (L1 := [(0, .ref (ad 0)), (1, .int (0 : Int32))]) [1, 0] rfl (l_X11_strikesTwo_2 C N N (0 : Int32) σ)
def bf_X11_strikesThree_2 (N : Nat) (rec2 : Int32 → zS → zA) (v1 : Int32) (σ : zS) : zA := (if (64 : Int32) ≤ v1 then some ((0 : Int32), σ) else z_n (v1 / (16 : Int32)) (fun z_2 => z_n ((v1 / (4 : Int32)) - (v1 / (4 : Int32)) / (4 : Int32) * (4 : Int32)) (fun z_3 => z_n (v1 - v1 / (4 : Int32) * (4 : Int32)) (fun z_4 => (if z_3 ≤ z_2 then (rec2 (v1 + (1 : Int32)) σ) else (if z_4 ≤ z_2 then (rec2 (v1 + (1 : Int32)) σ) else (if z_3 = z_4 then (rec2 (v1 + (1 : Int32)) σ) else z_b (f_X11_doesOwe N z_2 z_3 σ) (fun r_8 t_9 => (if r_8 = (0 : Int32) then (rec2 (v1 + (1 : Int32)) t_9) else z_b (f_X11_doesOwe N z_3 z_4 t_9) (fun r_11 t_12 => (if r_11 = (0 : Int32) then (rec2 (v1 + (1 : Int32)) t_12) else z_b (f_X11_doesOwe N z_4 z_2 t_12) (fun r_14 t_15 => (if r_14 = (0 : Int32) then (rec2 (v1 + (1 : Int32)) t_15) else z_g (z_in (((4 : Int32) * z_2) + z_3) 16) (z_g (z_in (((4 : Int32) * z_3) + z_4) 16) (z_g (z_in (((4 : Int32) * z_4) + z_2) 16) (z_b (f_X11_least N (t_15 8 (((4 : Int32) * z_3) + z_4).toNatClampNeg) (t_15 8 (((4 : Int32) * z_4) + z_2).toNatClampNeg) t_15) (fun r_17 t_18 => z_b (f_X11_least N (t_15 8 (((4 : Int32) * z_2) + z_3).toNatClampNeg) r_17 t_18) (fun r_19 t_20 => z_g (z_in (((4 : Int32) * z_2) + z_3) 16) (z_g (z_in (((4 : Int32) * z_2) + z_3) 16) (z_m (z_put t_20 8 (((4 : Int32) * z_2) + z_3).toNatClampNeg ((t_20 8 (((4 : Int32) * z_2) + z_3).toNatClampNeg) - r_19)) (fun t_21 => z_g (z_in (((4 : Int32) * z_3) + z_4) 16) (z_g (z_in (((4 : Int32) * z_3) + z_4) 16) (z_m (z_put t_21 8 (((4 : Int32) * z_3) + z_4).toNatClampNeg ((t_21 8 (((4 : Int32) * z_3) + z_4).toNatClampNeg) - r_19)) (fun t_22 => z_g (z_in (((4 : Int32) * z_4) + z_2) 16) (z_g (z_in (((4 : Int32) * z_4) + z_2) 16) (z_m (z_put t_22 8 (((4 : Int32) * z_4) + z_2).toNatClampNeg ((t_22 8 (((4 : Int32) * z_4) + z_2).toNatClampNeg) - r_19)) (fun t_23 => some ((1 : Int32), t_23))))))))))))))))))))))))))))
set_option maxHeartbeats 4000000 in
set_option maxRecDepth 100000 in
theorem b_X11_strikesThree_2 {G : zG} {dC : Nat → ClassId} {dI : Nat → Nat → Nat} {A : Nat → Prop} {ad : Nat → Nat} {cI cC cW : ClassId} (C : zC G dC dI A 16 ad (cfM ad cI) (z_ty cI cC cW) cX11_strikesThree RX11 6 1 (some .boolean)) (N : Nat) (rec2 : Int32 → zS → zA) (hrec2 : ∀ (v1 : Int32) (σ : zS), zW G dC dI A 16 ad (cfM ad cI) 6 true (rec2 v1 σ) σ 2 [(0, .ref (ad 0)), (1, .int v1)] []) (v1 : Int32) (σ : zS) : zW G dC dI A 16 ad (cfM ad cI) 6 true (bf_X11_strikesThree_2 N rec2 v1 σ) σ 2 [(0, .ref (ad 0)), (1, .int v1)] [] := by
  unfold bf_X11_strikesThree_2
  refine zx_iload_n C 1 dX11_strikesThree_2 rfl rfl ?_
  refine zx_bipush (v := 64) C dX11_strikesThree_3 (by decide) ?_
  refine zx_icmp_ge (tgt := 168) C dX11_strikesThree_5 (by decide) (fun h_1 => ?_) (fun h_1 => ?_)
  · refine zx_iconst (v := 0) C dX11_strikesThree_168 (by decide) ?_
    exact zx_zret C (by decide) dX11_strikesThree_169
  · refine zx_iload_n C 1 dX11_strikesThree_8 rfl rfl ?_
    refine zx_bipush (v := 16) C dX11_strikesThree_9 (by decide) ?_
    refine zx_idiv C dX11_strikesThree_11 (by decide) ?_
    refine zx_n (fun z_2 => ?_)
    refine zx_istore_n (L1 := [(2, .int z_2), (0, .ref (ad 0)), (1, .int v1)]) C dX11_strikesThree_12 rfl (by decide) rfl ?_
    refine zx_iload_n C 2 dX11_strikesThree_13 rfl rfl ?_
    refine zx_iconst (v := 4) C dX11_strikesThree_14 (by decide) ?_
    refine zx_idiv C dX11_strikesThree_15 (by decide) ?_
    refine zx_iconst (v := 4) C dX11_strikesThree_16 (by decide) ?_
    refine zx_irem C dX11_strikesThree_17 (by decide) ?_
    refine zx_n (fun z_3 => ?_)
    refine zx_istore_n (L1 := [(3, .int z_3), (2, .int z_2), (0, .ref (ad 0)), (1, .int v1)]) C dX11_strikesThree_18 rfl (by decide) rfl ?_
    refine zx_iload_n C 3 dX11_strikesThree_19 rfl rfl ?_
    refine zx_iconst (v := 4) C dX11_strikesThree_20 (by decide) ?_
    refine zx_irem C dX11_strikesThree_21 (by decide) ?_
    refine zx_n (fun z_4 => ?_)
    refine zx_istore (L1 := [(4, .int z_4), (3, .int z_3), (2, .int z_2), (0, .ref (ad 0)), (1, .int v1)]) C dX11_strikesThree_22 (by decide) rfl ?_
    refine zx_iload_n C 1 dX11_strikesThree_24 rfl rfl ?_
    refine zx_iload_n C 2 dX11_strikesThree_25 rfl rfl ?_
    refine zx_icmp_le (tgt := 162) C dX11_strikesThree_26 (by decide) (fun h_5 => ?_) (fun h_5 => ?_)
    · refine zx_iinc (v := (v1 + (1 : Int32))) (L1 := [(1, .int (v1 + (1 : Int32))), (4, .int z_4), (3, .int z_3), (2, .int z_2), (0, .ref (ad 0))]) C 4 dX11_strikesThree_162 rfl rfl (by decide) rfl ?_
      refine zx_goto (tgt := 2) C dX11_strikesThree_165 (by decide) ?_
      exact zx_sub (L1 := [(0, .ref (ad 0)), (1, .int (v1 + (1 : Int32)))]) [4, 0] rfl (hrec2 (v1 + (1 : Int32)) σ)
    · refine zx_iload C 0 dX11_strikesThree_29 rfl ?_
      refine zx_iload_n C 2 dX11_strikesThree_31 rfl rfl ?_
      refine zx_icmp_le (tgt := 162) C dX11_strikesThree_32 (by decide) (fun h_6 => ?_) (fun h_6 => ?_)
      · refine zx_iinc (v := (v1 + (1 : Int32))) (L1 := [(1, .int (v1 + (1 : Int32))), (4, .int z_4), (3, .int z_3), (2, .int z_2), (0, .ref (ad 0))]) C 4 dX11_strikesThree_162 rfl rfl (by decide) rfl ?_
        refine zx_goto (tgt := 2) C dX11_strikesThree_165 (by decide) ?_
        exact zx_sub (L1 := [(0, .ref (ad 0)), (1, .int (v1 + (1 : Int32)))]) [4, 0] rfl (hrec2 (v1 + (1 : Int32)) σ)
      · refine zx_iload_n C 1 dX11_strikesThree_35 rfl rfl ?_
        refine zx_iload C 0 dX11_strikesThree_36 rfl ?_
        refine zx_icmp_eq (tgt := 162) C dX11_strikesThree_38 (by decide) (fun h_7 => ?_) (fun h_7 => ?_)
        · refine zx_iinc (v := (v1 + (1 : Int32))) (L1 := [(1, .int (v1 + (1 : Int32))), (4, .int z_4), (3, .int z_3), (2, .int z_2), (0, .ref (ad 0))]) C 4 dX11_strikesThree_162 rfl rfl (by decide) rfl ?_
          refine zx_goto (tgt := 2) C dX11_strikesThree_165 (by decide) ?_
          exact zx_sub (L1 := [(0, .ref (ad 0)), (1, .int (v1 + (1 : Int32)))]) [4, 0] rfl (hrec2 (v1 + (1 : Int32)) σ)
        · refine zx_aload_n C 3 dX11_strikesThree_41 rfl rfl ?_
          refine zx_iload_n C 2 dX11_strikesThree_42 rfl rfl ?_
          refine zx_iload_n C 1 dX11_strikesThree_43 rfl rfl ?_
          refine zx_callV (As := [.int z_2, .int z_3]) (st := []) C yk_X11_doesOwe q_934 q_936 q_31 (by decide) rfl rfl (k_X11_doesOwe C.hO N z_2 z_3 σ) (by decide) rfl rfl (Nat.le_of_ble_eq_true rfl) dX11_strikesThree_44 (fun _ r_8 t_9 => ?_) (fun h9 => nomatch h9)
          refine zx_if_eq (tgt := 162) C dX11_strikesThree_47 (by decide) (fun h_10 => ?_) (fun h_10 => ?_)
          · refine zx_iinc (v := (v1 + (1 : Int32))) (L1 := [(1, .int (v1 + (1 : Int32))), (4, .int z_4), (3, .int z_3), (2, .int z_2), (0, .ref (ad 0))]) C 4 dX11_strikesThree_162 rfl rfl (by decide) rfl ?_
            refine zx_goto (tgt := 2) C dX11_strikesThree_165 (by decide) ?_
            exact zx_sub (L1 := [(0, .ref (ad 0)), (1, .int (v1 + (1 : Int32)))]) [4, 0] rfl (hrec2 (v1 + (1 : Int32)) t_9)
          · refine zx_aload_n C 3 dX11_strikesThree_50 rfl rfl ?_
            refine zx_iload_n C 1 dX11_strikesThree_51 rfl rfl ?_
            refine zx_iload C 0 dX11_strikesThree_52 rfl ?_
            refine zx_callV (As := [.int z_3, .int z_4]) (st := []) C yk_X11_doesOwe q_934 q_936 q_31 (by decide) rfl rfl (k_X11_doesOwe C.hO N z_3 z_4 t_9) (by decide) rfl rfl (Nat.le_of_ble_eq_true rfl) dX11_strikesThree_54 (fun _ r_11 t_12 => ?_) (fun h9 => nomatch h9)
            refine zx_if_eq (tgt := 162) C dX11_strikesThree_57 (by decide) (fun h_13 => ?_) (fun h_13 => ?_)
            · refine zx_iinc (v := (v1 + (1 : Int32))) (L1 := [(1, .int (v1 + (1 : Int32))), (4, .int z_4), (3, .int z_3), (2, .int z_2), (0, .ref (ad 0))]) C 4 dX11_strikesThree_162 rfl rfl (by decide) rfl ?_
              refine zx_goto (tgt := 2) C dX11_strikesThree_165 (by decide) ?_
              exact zx_sub (L1 := [(0, .ref (ad 0)), (1, .int (v1 + (1 : Int32)))]) [4, 0] rfl (hrec2 (v1 + (1 : Int32)) t_12)
            · refine zx_aload_n C 3 dX11_strikesThree_60 rfl rfl ?_
              refine zx_iload C 0 dX11_strikesThree_61 rfl ?_
              refine zx_iload_n C 2 dX11_strikesThree_63 rfl rfl ?_
              refine zx_callV (As := [.int z_4, .int z_2]) (st := []) C yk_X11_doesOwe q_934 q_936 q_31 (by decide) rfl rfl (k_X11_doesOwe C.hO N z_4 z_2 t_12) (by decide) rfl rfl (Nat.le_of_ble_eq_true rfl) dX11_strikesThree_64 (fun _ r_14 t_15 => ?_) (fun h9 => nomatch h9)
              refine zx_if_ne (tgt := 73) C dX11_strikesThree_67 (by decide) (fun h_16 => ?_) (fun h_16 => ?_)
              · refine zx_aload_n C 3 dX11_strikesThree_73 rfl rfl ?_
                refine zx_get C 8 (by decide) rfl rfl (by decide) inX11 q_660 rfl rfl dX11_strikesThree_74 ?_
                refine zx_iconst (v := 4) C dX11_strikesThree_77 (by decide) ?_
                refine zx_iload_n C 2 dX11_strikesThree_78 rfl rfl ?_
                refine zx_imul C dX11_strikesThree_79 ?_
                refine zx_iload_n C 1 dX11_strikesThree_80 rfl rfl ?_
                refine zx_iadd C dX11_strikesThree_81 ?_
                refine zx_iald C 0 (by decide) rfl rfl dX11_strikesThree_82 ?_
                refine zx_aload_n C 3 dX11_strikesThree_83 rfl rfl ?_
                refine zx_get C 8 (by decide) rfl rfl (by decide) inX11 q_660 rfl rfl dX11_strikesThree_84 ?_
                refine zx_iconst (v := 4) C dX11_strikesThree_87 (by decide) ?_
                refine zx_iload_n C 1 dX11_strikesThree_88 rfl rfl ?_
                refine zx_imul C dX11_strikesThree_89 ?_
                refine zx_iload C 0 dX11_strikesThree_90 rfl ?_
                refine zx_iadd C dX11_strikesThree_92 ?_
                refine zx_iald C 0 (by decide) rfl rfl dX11_strikesThree_93 ?_
                refine zx_aload_n C 3 dX11_strikesThree_94 rfl rfl ?_
                refine zx_get C 8 (by decide) rfl rfl (by decide) inX11 q_660 rfl rfl dX11_strikesThree_95 ?_
                refine zx_iconst (v := 4) C dX11_strikesThree_98 (by decide) ?_
                refine zx_iload C 0 dX11_strikesThree_99 rfl ?_
                refine zx_imul C dX11_strikesThree_101 ?_
                refine zx_iload_n C 2 dX11_strikesThree_102 rfl rfl ?_
                refine zx_iadd C dX11_strikesThree_103 ?_
                refine zx_iald C 0 (by decide) rfl rfl dX11_strikesThree_104 ?_
                refine zx_callS (av := [.int (t_15 8 (((4 : Int32) * z_3) + z_4).toNatClampNeg), .int (t_15 8 (((4 : Int32) * z_4) + z_2).toNatClampNeg)]) (st := [.int (t_15 8 (((4 : Int32) * z_2) + z_3).toNatClampNeg)]) C yk_X11_least q_819 q_820 (k_X11_least C.hO N (t_15 8 (((4 : Int32) * z_3) + z_4).toNatClampNeg) (t_15 8 (((4 : Int32) * z_4) + z_2).toNatClampNeg) t_15) (by decide) rfl rfl (Nat.le_of_ble_eq_true rfl) dX11_strikesThree_105 (fun _ r_17 t_18 => ?_) (fun h9 => nomatch h9)
                refine zx_callS (av := [.int (t_15 8 (((4 : Int32) * z_2) + z_3).toNatClampNeg), .int r_17]) (st := []) C yk_X11_least q_819 q_820 (k_X11_least C.hO N (t_15 8 (((4 : Int32) * z_2) + z_3).toNatClampNeg) r_17 t_18) (by decide) rfl rfl (Nat.le_of_ble_eq_true rfl) dX11_strikesThree_108 (fun _ r_19 t_20 => ?_) (fun h9 => nomatch h9)
                refine zx_istore (L1 := [(5, .int r_19), (4, .int z_4), (3, .int z_3), (2, .int z_2), (0, .ref (ad 0)), (1, .int v1)]) C dX11_strikesThree_111 (by decide) rfl ?_
                refine zx_aload_n C 4 dX11_strikesThree_113 rfl rfl ?_
                refine zx_get C 8 (by decide) rfl rfl (by decide) inX11 q_660 rfl rfl dX11_strikesThree_114 ?_
                refine zx_iconst (v := 4) C dX11_strikesThree_117 (by decide) ?_
                refine zx_iload_n C 3 dX11_strikesThree_118 rfl rfl ?_
                refine zx_imul C dX11_strikesThree_119 ?_
                refine zx_iload_n C 2 dX11_strikesThree_120 rfl rfl ?_
                refine zx_iadd C dX11_strikesThree_121 ?_
                refine zx_dup2 C dX11_strikesThree_122 rfl rfl ?_
                refine zx_iald C 0 (by decide) rfl rfl dX11_strikesThree_123 ?_
                refine zx_iload C 0 dX11_strikesThree_124 rfl ?_
                refine zx_isub C dX11_strikesThree_126 ?_
                refine zx_iast C 0 (by decide) (fun _ => rfl) rfl dX11_strikesThree_127 (fun t_21 => ?_)
                refine zx_aload_n C 4 dX11_strikesThree_128 rfl rfl ?_
                refine zx_get C 8 (by decide) rfl rfl (by decide) inX11 q_660 rfl rfl dX11_strikesThree_129 ?_
                refine zx_iconst (v := 4) C dX11_strikesThree_132 (by decide) ?_
                refine zx_iload_n C 2 dX11_strikesThree_133 rfl rfl ?_
                refine zx_imul C dX11_strikesThree_134 ?_
                refine zx_iload C 1 dX11_strikesThree_135 rfl ?_
                refine zx_iadd C dX11_strikesThree_137 ?_
                refine zx_dup2 C dX11_strikesThree_138 rfl rfl ?_
                refine zx_iald C 0 (by decide) rfl rfl dX11_strikesThree_139 ?_
                refine zx_iload C 0 dX11_strikesThree_140 rfl ?_
                refine zx_isub C dX11_strikesThree_142 ?_
                refine zx_iast C 0 (by decide) (fun _ => rfl) rfl dX11_strikesThree_143 (fun t_22 => ?_)
                refine zx_aload_n C 4 dX11_strikesThree_144 rfl rfl ?_
                refine zx_get C 8 (by decide) rfl rfl (by decide) inX11 q_660 rfl rfl dX11_strikesThree_145 ?_
                refine zx_iconst (v := 4) C dX11_strikesThree_148 (by decide) ?_
                refine zx_iload C 1 dX11_strikesThree_149 rfl ?_
                refine zx_imul C dX11_strikesThree_151 ?_
                refine zx_iload_n C 3 dX11_strikesThree_152 rfl rfl ?_
                refine zx_iadd C dX11_strikesThree_153 ?_
                refine zx_dup2 C dX11_strikesThree_154 rfl rfl ?_
                refine zx_iald C 0 (by decide) rfl rfl dX11_strikesThree_155 ?_
                refine zx_iload C 0 dX11_strikesThree_156 rfl ?_
                refine zx_isub C dX11_strikesThree_158 ?_
                refine zx_iast C 0 (by decide) (fun _ => rfl) rfl dX11_strikesThree_159 (fun t_23 => ?_)
                refine zx_iconst (v := 1) C dX11_strikesThree_160 (by decide) ?_
                exact zx_zret C (by decide) dX11_strikesThree_161
              · refine zx_goto (tgt := 162) C dX11_strikesThree_70 (by decide) ?_
                refine zx_iinc (v := (v1 + (1 : Int32))) (L1 := [(1, .int (v1 + (1 : Int32))), (4, .int z_4), (3, .int z_3), (2, .int z_2), (0, .ref (ad 0))]) C 4 dX11_strikesThree_162 rfl rfl (by decide) rfl ?_
                refine zx_goto (tgt := 2) C dX11_strikesThree_165 (by decide) ?_
                exact zx_sub (L1 := [(0, .ref (ad 0)), (1, .int (v1 + (1 : Int32)))]) [4, 0] rfl (hrec2 (v1 + (1 : Int32)) t_15)
def lf_X11_strikesThree_2 (N : Nat) : Nat → Int32 → zS → zA
  | 0, _, _ => none
  | n + 1, v1, σ => bf_X11_strikesThree_2 N (lf_X11_strikesThree_2 N  n) v1 σ
theorem l_X11_strikesThree_2 {G : zG} {dC : Nat → ClassId} {dI : Nat → Nat → Nat} {A : Nat → Prop} {ad : Nat → Nat} {cI cC cW : ClassId} (C : zC G dC dI A 16 ad (cfM ad cI) (z_ty cI cC cW) cX11_strikesThree RX11 6 1 (some .boolean)) (N : Nat) : ∀ (n : Nat) (v1 : Int32) (σ : zS), zW G dC dI A 16 ad (cfM ad cI) 6 true (lf_X11_strikesThree_2 N  n v1 σ) σ 2 [(0, .ref (ad 0)), (1, .int v1)] [] := by
  intro n
  induction n with
  | zero => intro v1 σ; exact zx_none
  | succ n ih => intro v1 σ; exact b_X11_strikesThree_2 C N (lf_X11_strikesThree_2 N  n) ih v1 σ
def f_X11_strikesThree (N : Nat) (σ : zS) : zA := (lf_X11_strikesThree_2 N N (0 : Int32) σ)
set_option maxHeartbeats 4000000 in
set_option maxRecDepth 100000 in
theorem k_X11_strikesThree {l : Launch} {dC : Nat → ClassId} {dI : Nat → Nat → Nat} {A : Nat → Prop} {ad : Nat → Nat} {cI cC cW : ClassId} (hO : zO A 16 ad (cfM ad cI)) (N : Nat) (σ : zS) : zM l dC dI A 16 ad (cfM ad cI) (z_ty cI cC cW) true yX11_strikesThree cX11_strikesThree 6 (some .boolean) 1 [.ref (ad 0)] σ (f_X11_strikesThree N  σ) := by
  refine zM_of hO (by decide) (Nat.le_of_ble_eq_true rfl) (fun G hG C => ?_)
  subst hG
  unfold f_X11_strikesThree
  refine zx_sub (L1 := [(0, .ref (ad 0))]) [0] rfl ?_
  refine zx_iconst (v := 0) C dX11_strikesThree_0 (by decide) ?_
  refine zx_istore_n (L1 := [(1, .int (0 : Int32)), (0, .ref (ad 0))]) C dX11_strikesThree_1 rfl (by decide) rfl ?_
  exact zx_sub (L1 := [(0, .ref (ad 0)), (1, .int (0 : Int32))]) [1, 0] rfl (l_X11_strikesThree_2 C N N (0 : Int32) σ)
def bf_X11_strike_2 (N : Nat) (rec2 : Int32 → zS → zA) (v1 : Int32) (σ : zS) : zA := z_b (f_X11_strikesTwo N σ) (fun r_1 t_2 => (if r_1 = (0 : Int32) then z_b (f_X11_strikesThree N t_2) (fun r_4 t_5 => (if r_4 = (0 : Int32) then some (v1, t_5) else (rec2 (v1 + (1 : Int32)) t_5))) else (rec2 (v1 + (1 : Int32)) t_2)))
set_option maxHeartbeats 4000000 in
set_option maxRecDepth 100000 in
theorem b_X11_strike_2 {G : zG} {dC : Nat → ClassId} {dI : Nat → Nat → Nat} {A : Nat → Prop} {ad : Nat → Nat} {cI cC cW : ClassId} (C : zC G dC dI A 16 ad (cfM ad cI) (z_ty cI cC cW) cX11_strike RX11 2 2 (some .int)) (N : Nat) (rec2 : Int32 → zS → zA) (hrec2 : ∀ (v1 : Int32) (σ : zS), zW G dC dI A 16 ad (cfM ad cI) 2 true (rec2 v1 σ) σ 2 [(0, .ref (ad 0)), (1, .int v1)] []) (v1 : Int32) (σ : zS) : zW G dC dI A 16 ad (cfM ad cI) 2 true (bf_X11_strike_2 N rec2 v1 σ) σ 2 [(0, .ref (ad 0)), (1, .int v1)] [] := by
  unfold bf_X11_strike_2
  refine zx_aload_n C 0 dX11_strike_2 rfl rfl ?_
  refine zx_callV (As := []) (st := []) C yk_X11_strikesTwo q_930 q_932 q_30 (by decide) rfl rfl (k_X11_strikesTwo C.hO N σ) (by decide) rfl rfl (Nat.le_of_ble_eq_true rfl) dX11_strike_3 (fun _ r_1 t_2 => ?_) (fun h9 => nomatch h9)
  refine zx_if_ne (tgt := 16) C dX11_strike_6 (by decide) (fun h_3 => ?_) (fun h_3 => ?_)
  · refine zx_iinc (v := (v1 + (1 : Int32))) (L1 := [(1, .int (v1 + (1 : Int32))), (0, .ref (ad 0))]) C 1 dX11_strike_16 rfl rfl (by decide) rfl ?_
    refine zx_goto (tgt := 2) C dX11_strike_19 (by decide) ?_
    exact zx_sub (L1 := [(0, .ref (ad 0)), (1, .int (v1 + (1 : Int32)))]) [1, 0] rfl (hrec2 (v1 + (1 : Int32)) t_2)
  · refine zx_aload_n C 0 dX11_strike_9 rfl rfl ?_
    refine zx_callV (As := []) (st := []) C yk_X11_strikesThree q_938 q_940 q_32 (by decide) rfl rfl (k_X11_strikesThree C.hO N t_2) (by decide) rfl rfl (Nat.le_of_ble_eq_true rfl) dX11_strike_10 (fun _ r_4 t_5 => ?_) (fun h9 => nomatch h9)
    refine zx_if_eq (tgt := 22) C dX11_strike_13 (by decide) (fun h_6 => ?_) (fun h_6 => ?_)
    · refine zx_iload_n C 1 dX11_strike_22 rfl rfl ?_
      exact zx_iret C dX11_strike_23
    · refine zx_iinc (v := (v1 + (1 : Int32))) (L1 := [(1, .int (v1 + (1 : Int32))), (0, .ref (ad 0))]) C 1 dX11_strike_16 rfl rfl (by decide) rfl ?_
      refine zx_goto (tgt := 2) C dX11_strike_19 (by decide) ?_
      exact zx_sub (L1 := [(0, .ref (ad 0)), (1, .int (v1 + (1 : Int32)))]) [1, 0] rfl (hrec2 (v1 + (1 : Int32)) t_5)
def lf_X11_strike_2 (N : Nat) : Nat → Int32 → zS → zA
  | 0, _, _ => none
  | n + 1, v1, σ => bf_X11_strike_2 N (lf_X11_strike_2 N  n) v1 σ
theorem l_X11_strike_2 {G : zG} {dC : Nat → ClassId} {dI : Nat → Nat → Nat} {A : Nat → Prop} {ad : Nat → Nat} {cI cC cW : ClassId} (C : zC G dC dI A 16 ad (cfM ad cI) (z_ty cI cC cW) cX11_strike RX11 2 2 (some .int)) (N : Nat) : ∀ (n : Nat) (v1 : Int32) (σ : zS), zW G dC dI A 16 ad (cfM ad cI) 2 true (lf_X11_strike_2 N  n v1 σ) σ 2 [(0, .ref (ad 0)), (1, .int v1)] [] := by
  intro n
  induction n with
  | zero => intro v1 σ; exact zx_none
  | succ n ih => intro v1 σ; exact b_X11_strike_2 C N (lf_X11_strike_2 N  n) ih v1 σ
def f_X11_strike (N : Nat) (σ : zS) : zA := (lf_X11_strike_2 N N (0 : Int32) σ)
set_option maxHeartbeats 4000000 in
set_option maxRecDepth 100000 in
theorem k_X11_strike {l : Launch} {dC : Nat → ClassId} {dI : Nat → Nat → Nat} {A : Nat → Prop} {ad : Nat → Nat} {cI cC cW : ClassId} (hO : zO A 16 ad (cfM ad cI)) (N : Nat) (σ : zS) : zM l dC dI A 16 ad (cfM ad cI) (z_ty cI cC cW) true yX11_strike cX11_strike 2 (some .int) 2 [.ref (ad 0)] σ (f_X11_strike N  σ) := by
  refine zM_of hO (by decide) (Nat.le_of_ble_eq_true rfl) (fun G hG C => ?_)
  subst hG
  unfold f_X11_strike
  refine zx_sub (L1 := [(0, .ref (ad 0))]) [0] rfl ?_
  refine zx_iconst (v := 0) C dX11_strike_0 (by decide) ?_
  refine zx_istore_n (L1 := [(1, .int (0 : Int32)), (0, .ref (ad 0))]) C dX11_strike_1 rfl (by decide) rfl ?_
  exact zx_sub (L1 := [(0, .ref (ad 0)), (1, .int (0 : Int32))]) [1, 0] rfl (l_X11_strike_2 C N N (0 : Int32) σ)
def bf_X11_owed_17 (N : Nat) (rec17 : Int32 → Int32 → Int32 → zS → zA) (v1 : Int32) (v2 : Int32) (v3 : Int32) (σ : zS) : zA := (if (4 : Int32) ≤ v3 then some (v2, σ) else z_g (z_in (((4 : Int32) * v3) + v1) 16) (z_g (z_in (((4 : Int32) * v1) + v3) 16) (z_n (v2 + ((σ 8 (((4 : Int32) * v3) + v1).toNatClampNeg) - (σ 8 (((4 : Int32) * v1) + v3).toNatClampNeg))) (fun z_2 => (rec17 v1 z_2 (v3 + (1 : Int32)) σ)))))
set_option maxHeartbeats 4000000 in
set_option maxRecDepth 100000 in
theorem b_X11_owed_17 {G : zG} {dC : Nat → ClassId} {dI : Nat → Nat → Nat} {A : Nat → Prop} {ad : Nat → Nat} {cI cC cW : ClassId} (C : zC G dC dI A 16 ad (cfM ad cI) (z_ty cI cC cW) cX11_owed RX11 4 1 (some .int)) (N : Nat) (rec17 : Int32 → Int32 → Int32 → zS → zA) (hrec17 : ∀ (v1 : Int32) (v2 : Int32) (v3 : Int32) (σ : zS), zW G dC dI A 16 ad (cfM ad cI) 4 true (rec17 v1 v2 v3 σ) σ 17 [(0, .ref (ad 0)), (1, .int v1), (2, .int v2), (3, .int v3)] []) (v1 : Int32) (v2 : Int32) (v3 : Int32) (σ : zS) : zW G dC dI A 16 ad (cfM ad cI) 4 true (bf_X11_owed_17 N rec17 v1 v2 v3 σ) σ 17 [(0, .ref (ad 0)), (1, .int v1), (2, .int v2), (3, .int v3)] [] := by
  unfold bf_X11_owed_17
  refine zx_iload_n C 3 dX11_owed_17 rfl rfl ?_
  refine zx_iconst (v := 4) C dX11_owed_18 (by decide) ?_
  refine zx_icmp_ge (tgt := 52) C dX11_owed_19 (by decide) (fun h_1 => ?_) (fun h_1 => ?_)
  · refine zx_iload_n C 2 dX11_owed_52 rfl rfl ?_
    exact zx_iret C dX11_owed_53
  · refine zx_iload_n C 2 dX11_owed_22 rfl rfl ?_
    refine zx_aload_n C 0 dX11_owed_23 rfl rfl ?_
    refine zx_get C 8 (by decide) rfl rfl (by decide) inX11 q_660 rfl rfl dX11_owed_24 ?_
    refine zx_iconst (v := 4) C dX11_owed_27 (by decide) ?_
    refine zx_iload_n C 3 dX11_owed_28 rfl rfl ?_
    refine zx_imul C dX11_owed_29 ?_
    refine zx_iload_n C 1 dX11_owed_30 rfl rfl ?_
    refine zx_iadd C dX11_owed_31 ?_
    refine zx_iald C 0 (by decide) rfl rfl dX11_owed_32 ?_
    refine zx_aload_n C 0 dX11_owed_33 rfl rfl ?_
    refine zx_get C 8 (by decide) rfl rfl (by decide) inX11 q_660 rfl rfl dX11_owed_34 ?_
    refine zx_iconst (v := 4) C dX11_owed_37 (by decide) ?_
    refine zx_iload_n C 1 dX11_owed_38 rfl rfl ?_
    refine zx_imul C dX11_owed_39 ?_
    refine zx_iload_n C 3 dX11_owed_40 rfl rfl ?_
    refine zx_iadd C dX11_owed_41 ?_
    refine zx_iald C 0 (by decide) rfl rfl dX11_owed_42 ?_
    refine zx_isub C dX11_owed_43 ?_
    refine zx_iadd C dX11_owed_44 ?_
    refine zx_n (fun z_2 => ?_)
    refine zx_istore_n (L1 := [(2, .int z_2), (0, .ref (ad 0)), (1, .int v1), (3, .int v3)]) C dX11_owed_45 rfl (by decide) rfl ?_
    refine zx_iinc (v := (v3 + (1 : Int32))) (L1 := [(3, .int (v3 + (1 : Int32))), (2, .int z_2), (0, .ref (ad 0)), (1, .int v1)]) C 3 dX11_owed_46 rfl rfl (by decide) rfl ?_
    refine zx_goto (tgt := 17) C dX11_owed_49 (by decide) ?_
    exact zx_sub (L1 := [(0, .ref (ad 0)), (1, .int v1), (2, .int z_2), (3, .int (v3 + (1 : Int32)))]) [2, 3, 1, 0] rfl (hrec17 v1 z_2 (v3 + (1 : Int32)) σ)
def lf_X11_owed_17 (N : Nat) : Nat → Int32 → Int32 → Int32 → zS → zA
  | 0, _, _, _, _ => none
  | n + 1, v1, v2, v3, σ => bf_X11_owed_17 N (lf_X11_owed_17 N  n) v1 v2 v3 σ
theorem l_X11_owed_17 {G : zG} {dC : Nat → ClassId} {dI : Nat → Nat → Nat} {A : Nat → Prop} {ad : Nat → Nat} {cI cC cW : ClassId} (C : zC G dC dI A 16 ad (cfM ad cI) (z_ty cI cC cW) cX11_owed RX11 4 1 (some .int)) (N : Nat) : ∀ (n : Nat) (v1 : Int32) (v2 : Int32) (v3 : Int32) (σ : zS), zW G dC dI A 16 ad (cfM ad cI) 4 true (lf_X11_owed_17 N  n v1 v2 v3 σ) σ 17 [(0, .ref (ad 0)), (1, .int v1), (2, .int v2), (3, .int v3)] [] := by
  intro n
  induction n with
  | zero => intro v1 v2 v3 σ; exact zx_none
  | succ n ih => intro v1 v2 v3 σ; exact b_X11_owed_17 C N (lf_X11_owed_17 N  n) ih v1 v2 v3 σ
def f_X11_owed (N : Nat) (v1 : Int32) (σ : zS) : zA := z_b (f_X11_isOne N v1 σ) (fun r_3 t_4 => (if r_3 = (0 : Int32) then z_b (f_X11_lower N (-1 : Int32) t_4) (fun r_6 t_7 => some (r_6, t_7)) else (lf_X11_owed_17 N N v1 (0 : Int32) (0 : Int32) t_4)))
set_option maxHeartbeats 4000000 in
set_option maxRecDepth 100000 in
theorem k_X11_owed {l : Launch} {dC : Nat → ClassId} {dI : Nat → Nat → Nat} {A : Nat → Prop} {ad : Nat → Nat} {cI cC cW : ClassId} (hO : zO A 16 ad (cfM ad cI)) (N : Nat) (v1 : Int32) (σ : zS) : zM l dC dI A 16 ad (cfM ad cI) (z_ty cI cC cW) true yX11_owed cX11_owed 4 (some .int) 1 [.ref (ad 0), .int v1] σ (f_X11_owed N v1 σ) := by
  refine zM_of hO (by decide) (Nat.le_of_ble_eq_true rfl) (fun G hG C => ?_)
  subst hG
  unfold f_X11_owed
  refine zx_sub (L1 := [(0, .ref (ad 0)), (1, .int v1)]) [0, 1] rfl ?_
  refine zx_iload_n C 1 dX11_owed_0 rfl rfl ?_
  refine zx_callS (av := [.int v1]) (st := []) C yk_X11_isOne q_790 q_791 (k_X11_isOne C.hO N v1 σ) (by decide) rfl rfl (Nat.le_of_ble_eq_true rfl) dX11_owed_1 (fun _ r_3 t_4 => ?_) (fun h9 => nomatch h9)
  refine zx_if_ne (tgt := 13) C dX11_owed_4 (by decide) (fun h_5 => ?_) (fun h_5 => ?_)
  · refine zx_iconst (v := 0) C dX11_owed_13 (by decide) ?_
    refine zx_istore_n (L1 := [(2, .int (0 : Int32)), (0, .ref (ad 0)), (1, .int v1)]) C dX11_owed_14 rfl (by decide) rfl ?_
    refine zx_iconst (v := 0) C dX11_owed_15 (by decide) ?_
    refine zx_istore_n (L1 := [(3, .int (0 : Int32)), (2, .int (0 : Int32)), (0, .ref (ad 0)), (1, .int v1)]) C dX11_owed_16 rfl (by decide) rfl ?_
    exact zx_sub (L1 := [(0, .ref (ad 0)), (1, .int v1), (2, .int (0 : Int32)), (3, .int (0 : Int32))]) [2, 3, 1, 0] rfl (l_X11_owed_17 C N N v1 (0 : Int32) (0 : Int32) t_4)
  · refine zx_aload_n C 0 dX11_owed_7 rfl rfl ?_
    refine zx_iconst (v := -1) C dX11_owed_8 (by decide) ?_
    refine zx_callV (As := [.int (-1 : Int32)]) (st := []) C yk_X11_lower q_946 q_948 q_33 (by decide) rfl rfl (k_X11_lower C.hO N (-1 : Int32) t_4) (by decide) rfl rfl (Nat.le_of_ble_eq_true rfl) dX11_owed_9 (fun _ r_6 t_7 => ?_) (fun h9 => nomatch h9)
    exact zx_iret C dX11_owed_12
def bf_X11_cheat_104 (N : Nat) (rec91 : Int32 → Int32 → Int32 → Int32 → Int32 → Int32 → Int32 → zS → zA) (rec104 : Int32 → Int32 → Int32 → Int32 → Int32 → Int32 → Int32 → Int32 → Int32 → zS → zA) (v1 : Int32) (v2 : Int32) (v3 : Int32) (v4 : Int32) (v5 : Int32) (v7 : Int32) (v8 : Int32) (v9 : Int32) (v10 : Int32) (σ : zS) : zA := (if v5 ≤ v10 then (if v9 = v4 then z_n (v7 ||| ((1 : Int32) <<< (v8 &&& 31))) (fun z_4 => (rec91 v1 v2 v3 v4 v5 z_4 (v8 + (1 : Int32)) σ)) else z_n (v7 ||| (0 : Int32)) (fun z_3 => (rec91 v1 v2 v3 v4 v5 z_3 (v8 + (1 : Int32)) σ))) else z_g (z_in v1 4) (z_b (f_X11_burns N v8 v2 v9 (σ 7 v1.toNatClampNeg) σ) (fun r_5 t_6 => z_n (v9 - r_5) (fun z_7 => (rec104 v1 v2 v3 v4 v5 v7 v8 z_7 (v10 + (1 : Int32)) t_6)))))
set_option maxHeartbeats 4000000 in
set_option maxRecDepth 100000 in
theorem b_X11_cheat_104 {G : zG} {dC : Nat → ClassId} {dI : Nat → Nat → Nat} {A : Nat → Prop} {ad : Nat → Nat} {cI cC cW : ClassId} (C : zC G dC dI A 16 ad (cfM ad cI) (z_ty cI cC cW) cX11_cheat RX11 11 2 (some .int)) (N : Nat) (rec91 : Int32 → Int32 → Int32 → Int32 → Int32 → Int32 → Int32 → zS → zA) (hrec91 : ∀ (v1 : Int32) (v2 : Int32) (v3 : Int32) (v4 : Int32) (v5 : Int32) (v7 : Int32) (v8 : Int32) (σ : zS), zW G dC dI A 16 ad (cfM ad cI) 11 true (rec91 v1 v2 v3 v4 v5 v7 v8 σ) σ 91 [(0, .ref (ad 0)), (1, .int v1), (2, .int v2), (3, .int v3), (4, .int v4), (5, .int v5), (7, .int v7), (8, .int v8)] []) (rec104 : Int32 → Int32 → Int32 → Int32 → Int32 → Int32 → Int32 → Int32 → Int32 → zS → zA) (hrec104 : ∀ (v1 : Int32) (v2 : Int32) (v3 : Int32) (v4 : Int32) (v5 : Int32) (v7 : Int32) (v8 : Int32) (v9 : Int32) (v10 : Int32) (σ : zS), zW G dC dI A 16 ad (cfM ad cI) 11 true (rec104 v1 v2 v3 v4 v5 v7 v8 v9 v10 σ) σ 104 [(0, .ref (ad 0)), (1, .int v1), (2, .int v2), (3, .int v3), (4, .int v4), (5, .int v5), (7, .int v7), (8, .int v8), (9, .int v9), (10, .int v10)] []) (v1 : Int32) (v2 : Int32) (v3 : Int32) (v4 : Int32) (v5 : Int32) (v7 : Int32) (v8 : Int32) (v9 : Int32) (v10 : Int32) (σ : zS) : zW G dC dI A 16 ad (cfM ad cI) 11 true (bf_X11_cheat_104 N rec91 rec104 v1 v2 v3 v4 v5 v7 v8 v9 v10 σ) σ 104 [(0, .ref (ad 0)), (1, .int v1), (2, .int v2), (3, .int v3), (4, .int v4), (5, .int v5), (7, .int v7), (8, .int v8), (9, .int v9), (10, .int v10)] [] := by
  unfold bf_X11_cheat_104
  refine zx_iload C 9 dX11_cheat_104 rfl ?_
  refine zx_iload C 5 dX11_cheat_106 rfl ?_
  refine zx_icmp_ge (tgt := 136) C dX11_cheat_108 (by decide) (fun h_1 => ?_) (fun h_1 => ?_)
  · refine zx_iload C 6 dX11_cheat_136 rfl ?_
    refine zx_iload C 8 dX11_cheat_138 rfl ?_
    refine zx_iload C 4 dX11_cheat_140 rfl ?_
    refine zx_icmp_ne (tgt := 152) C dX11_cheat_142 (by decide) (fun h_2 => ?_) (fun h_2 => ?_)
    · refine zx_iconst (v := 0) C dX11_cheat_152 (by decide) ?_
      refine zx_ior C dX11_cheat_153 ?_
      refine zx_n (fun z_3 => ?_)
      refine zx_istore (L1 := [(7, .int z_3), (0, .ref (ad 0)), (1, .int v1), (2, .int v2), (3, .int v3), (4, .int v4), (5, .int v5), (8, .int v8), (9, .int v9), (10, .int v10)]) C dX11_cheat_154 (by decide) rfl ?_
      refine zx_iinc (v := (v8 + (1 : Int32))) (L1 := [(8, .int (v8 + (1 : Int32))), (7, .int z_3), (0, .ref (ad 0)), (1, .int v1), (2, .int v2), (3, .int v3), (4, .int v4), (5, .int v5), (9, .int v9), (10, .int v10)]) C 7 dX11_cheat_156 rfl rfl (by decide) rfl ?_
      refine zx_goto (tgt := 91) C dX11_cheat_159 (by decide) ?_
      exact zx_sub (L1 := [(0, .ref (ad 0)), (1, .int v1), (2, .int v2), (3, .int v3), (4, .int v4), (5, .int v5), (7, .int z_3), (8, .int (v8 + (1 : Int32)))]) [2, 3, 4, 5, 6, 7, 1, 0] rfl (hrec91 v1 v2 v3 v4 v5 z_3 (v8 + (1 : Int32)) σ)
    · refine zx_iconst (v := 1) C dX11_cheat_145 (by decide) ?_
      refine zx_iload C 7 dX11_cheat_146 rfl ?_
      refine zx_ishl C dX11_cheat_148 ?_
      refine zx_goto (tgt := 153) C dX11_cheat_149 (by decide) ?_
      refine zx_ior C dX11_cheat_153 ?_
      refine zx_n (fun z_4 => ?_)
      refine zx_istore (L1 := [(7, .int z_4), (0, .ref (ad 0)), (1, .int v1), (2, .int v2), (3, .int v3), (4, .int v4), (5, .int v5), (8, .int v8), (9, .int v9), (10, .int v10)]) C dX11_cheat_154 (by decide) rfl ?_
      refine zx_iinc (v := (v8 + (1 : Int32))) (L1 := [(8, .int (v8 + (1 : Int32))), (7, .int z_4), (0, .ref (ad 0)), (1, .int v1), (2, .int v2), (3, .int v3), (4, .int v4), (5, .int v5), (9, .int v9), (10, .int v10)]) C 7 dX11_cheat_156 rfl rfl (by decide) rfl ?_
      refine zx_goto (tgt := 91) C dX11_cheat_159 (by decide) ?_
      exact zx_sub (L1 := [(0, .ref (ad 0)), (1, .int v1), (2, .int v2), (3, .int v3), (4, .int v4), (5, .int v5), (7, .int z_4), (8, .int (v8 + (1 : Int32)))]) [2, 3, 4, 5, 6, 7, 1, 0] rfl (hrec91 v1 v2 v3 v4 v5 z_4 (v8 + (1 : Int32)) σ)
  · refine zx_iload C 8 dX11_cheat_111 rfl ?_
    refine zx_iload C 7 dX11_cheat_113 rfl ?_
    refine zx_iload_n C 2 dX11_cheat_115 rfl rfl ?_
    refine zx_iload C 8 dX11_cheat_116 rfl ?_
    refine zx_aload_n C 0 dX11_cheat_118 rfl rfl ?_
    refine zx_get C 7 (by decide) rfl rfl (by decide) inX11 q_659 rfl rfl dX11_cheat_119 ?_
    refine zx_iload_n C 1 dX11_cheat_122 rfl rfl ?_
    refine zx_iald C 0 (by decide) rfl rfl dX11_cheat_123 ?_
    refine zx_callS (av := [.int v8, .int v2, .int v9, .int (σ 7 v1.toNatClampNeg)]) (st := [.int v9]) C yk_X11_burns q_816 q_817 (k_X11_burns C.hO N v8 v2 v9 (σ 7 v1.toNatClampNeg) σ) (by decide) rfl rfl (Nat.le_of_ble_eq_true rfl) dX11_cheat_124 (fun _ r_5 t_6 => ?_) (fun h9 => nomatch h9)
    refine zx_isub C dX11_cheat_127 ?_
    refine zx_n (fun z_7 => ?_)
    refine zx_istore (L1 := [(9, .int z_7), (0, .ref (ad 0)), (1, .int v1), (2, .int v2), (3, .int v3), (4, .int v4), (5, .int v5), (7, .int v7), (8, .int v8), (10, .int v10)]) C dX11_cheat_128 (by decide) rfl ?_
    refine zx_iinc (v := (v10 + (1 : Int32))) (L1 := [(10, .int (v10 + (1 : Int32))), (9, .int z_7), (0, .ref (ad 0)), (1, .int v1), (2, .int v2), (3, .int v3), (4, .int v4), (5, .int v5), (7, .int v7), (8, .int v8)]) C 9 dX11_cheat_130 rfl rfl (by decide) rfl ?_
    refine zx_goto (tgt := 104) C dX11_cheat_133 (by decide) ?_
    exact zx_sub (L1 := [(0, .ref (ad 0)), (1, .int v1), (2, .int v2), (3, .int v3), (4, .int v4), (5, .int v5), (7, .int v7), (8, .int v8), (9, .int z_7), (10, .int (v10 + (1 : Int32)))]) [2, 3, 4, 5, 6, 7, 8, 9, 1, 0] rfl (hrec104 v1 v2 v3 v4 v5 v7 v8 z_7 (v10 + (1 : Int32)) t_6)
def lf_X11_cheat_104 (N : Nat) (rec91 : Int32 → Int32 → Int32 → Int32 → Int32 → Int32 → Int32 → zS → zA) : Nat → Int32 → Int32 → Int32 → Int32 → Int32 → Int32 → Int32 → Int32 → Int32 → zS → zA
  | 0, _, _, _, _, _, _, _, _, _, _ => none
  | n + 1, v1, v2, v3, v4, v5, v7, v8, v9, v10, σ => bf_X11_cheat_104 N rec91 (lf_X11_cheat_104 N rec91 n) v1 v2 v3 v4 v5 v7 v8 v9 v10 σ
theorem l_X11_cheat_104 {G : zG} {dC : Nat → ClassId} {dI : Nat → Nat → Nat} {A : Nat → Prop} {ad : Nat → Nat} {cI cC cW : ClassId} (C : zC G dC dI A 16 ad (cfM ad cI) (z_ty cI cC cW) cX11_cheat RX11 11 2 (some .int)) (N : Nat) (rec91 : Int32 → Int32 → Int32 → Int32 → Int32 → Int32 → Int32 → zS → zA) (hrec91 : ∀ (v1 : Int32) (v2 : Int32) (v3 : Int32) (v4 : Int32) (v5 : Int32) (v7 : Int32) (v8 : Int32) (σ : zS), zW G dC dI A 16 ad (cfM ad cI) 11 true (rec91 v1 v2 v3 v4 v5 v7 v8 σ) σ 91 [(0, .ref (ad 0)), (1, .int v1), (2, .int v2), (3, .int v3), (4, .int v4), (5, .int v5), (7, .int v7), (8, .int v8)] []) : ∀ (n : Nat) (v1 : Int32) (v2 : Int32) (v3 : Int32) (v4 : Int32) (v5 : Int32) (v7 : Int32) (v8 : Int32) (v9 : Int32) (v10 : Int32) (σ : zS), zW G dC dI A 16 ad (cfM ad cI) 11 true (lf_X11_cheat_104 N rec91 n v1 v2 v3 v4 v5 v7 v8 v9 v10 σ) σ 104 [(0, .ref (ad 0)), (1, .int v1), (2, .int v2), (3, .int v3), (4, .int v4), (5, .int v5), (7, .int v7), (8, .int v8), (9, .int v9), (10, .int v10)] [] := by
  intro n
  induction n with
  | zero => intro v1 v2 v3 v4 v5 v7 v8 v9 v10 σ; exact zx_none
  | succ n ih => intro v1 v2 v3 v4 v5 v7 v8 v9 v10 σ; exact b_X11_cheat_104 C N rec91 hrec91 (lf_X11_cheat_104 N rec91 n) ih v1 v2 v3 v4 v5 v7 v8 v9 v10 σ
def bf_X11_cheat_91 (N : Nat) (rec91 : Int32 → Int32 → Int32 → Int32 → Int32 → Int32 → Int32 → zS → zA) (v1 : Int32) (v2 : Int32) (v3 : Int32) (v4 : Int32) (v5 : Int32) (v7 : Int32) (v8 : Int32) (σ : zS) : zA := (if (6 : Int32) ≤ v8 then some (v7, σ) else (lf_X11_cheat_104 N rec91 N v1 v2 v3 v4 v5 v7 v8 v3 (0 : Int32) σ))
set_option maxHeartbeats 4000000 in
set_option maxRecDepth 100000 in
theorem b_X11_cheat_91 {G : zG} {dC : Nat → ClassId} {dI : Nat → Nat → Nat} {A : Nat → Prop} {ad : Nat → Nat} {cI cC cW : ClassId} (C : zC G dC dI A 16 ad (cfM ad cI) (z_ty cI cC cW) cX11_cheat RX11 11 2 (some .int)) (N : Nat) (rec91 : Int32 → Int32 → Int32 → Int32 → Int32 → Int32 → Int32 → zS → zA) (hrec91 : ∀ (v1 : Int32) (v2 : Int32) (v3 : Int32) (v4 : Int32) (v5 : Int32) (v7 : Int32) (v8 : Int32) (σ : zS), zW G dC dI A 16 ad (cfM ad cI) 11 true (rec91 v1 v2 v3 v4 v5 v7 v8 σ) σ 91 [(0, .ref (ad 0)), (1, .int v1), (2, .int v2), (3, .int v3), (4, .int v4), (5, .int v5), (7, .int v7), (8, .int v8)] []) (v1 : Int32) (v2 : Int32) (v3 : Int32) (v4 : Int32) (v5 : Int32) (v7 : Int32) (v8 : Int32) (σ : zS) : zW G dC dI A 16 ad (cfM ad cI) 11 true (bf_X11_cheat_91 N rec91 v1 v2 v3 v4 v5 v7 v8 σ) σ 91 [(0, .ref (ad 0)), (1, .int v1), (2, .int v2), (3, .int v3), (4, .int v4), (5, .int v5), (7, .int v7), (8, .int v8)] [] := by
  unfold bf_X11_cheat_91
  refine zx_iload C 7 dX11_cheat_91 rfl ?_
  refine zx_bipush (v := 6) C dX11_cheat_93 (by decide) ?_
  refine zx_icmp_ge (tgt := 162) C dX11_cheat_95 (by decide) (fun h_8 => ?_) (fun h_8 => ?_)
  · refine zx_iload C 6 dX11_cheat_162 rfl ?_
    exact zx_iret C dX11_cheat_164
  · refine zx_iload_n C 3 dX11_cheat_98 rfl rfl ?_
    refine zx_istore (L1 := [(9, .int v3), (0, .ref (ad 0)), (1, .int v1), (2, .int v2), (3, .int v3), (4, .int v4), (5, .int v5), (7, .int v7), (8, .int v8)]) C dX11_cheat_99 (by decide) rfl ?_
    refine zx_iconst (v := 0) C dX11_cheat_101 (by decide) ?_
    refine zx_istore (L1 := [(10, .int (0 : Int32)), (9, .int v3), (0, .ref (ad 0)), (1, .int v1), (2, .int v2), (3, .int v3), (4, .int v4), (5, .int v5), (7, .int v7), (8, .int v8)]) C dX11_cheat_102 (by decide) rfl ?_
    exact zx_sub (L1 := [(0, .ref (ad 0)), (1, .int v1), (2, .int v2), (3, .int v3), (4, .int v4), (5, .int v5), (7, .int v7), (8, .int v8), (9, .int v3), (10, .int (0 : Int32))]) [2, 3, 4, 5, 6, 7, 8, 9, 1, 0] rfl (l_X11_cheat_104 C N rec91 hrec91 N v1 v2 v3 v4 v5 v7 v8 v3 (0 : Int32) σ)
def lf_X11_cheat_91 (N : Nat) : Nat → Int32 → Int32 → Int32 → Int32 → Int32 → Int32 → Int32 → zS → zA
  | 0, _, _, _, _, _, _, _, _ => none
  | n + 1, v1, v2, v3, v4, v5, v7, v8, σ => bf_X11_cheat_91 N (lf_X11_cheat_91 N  n) v1 v2 v3 v4 v5 v7 v8 σ
theorem l_X11_cheat_91 {G : zG} {dC : Nat → ClassId} {dI : Nat → Nat → Nat} {A : Nat → Prop} {ad : Nat → Nat} {cI cC cW : ClassId} (C : zC G dC dI A 16 ad (cfM ad cI) (z_ty cI cC cW) cX11_cheat RX11 11 2 (some .int)) (N : Nat) : ∀ (n : Nat) (v1 : Int32) (v2 : Int32) (v3 : Int32) (v4 : Int32) (v5 : Int32) (v7 : Int32) (v8 : Int32) (σ : zS), zW G dC dI A 16 ad (cfM ad cI) 11 true (lf_X11_cheat_91 N  n v1 v2 v3 v4 v5 v7 v8 σ) σ 91 [(0, .ref (ad 0)), (1, .int v1), (2, .int v2), (3, .int v3), (4, .int v4), (5, .int v5), (7, .int v7), (8, .int v8)] [] := by
  intro n
  induction n with
  | zero => intro v1 v2 v3 v4 v5 v7 v8 σ; exact zx_none
  | succ n ih => intro v1 v2 v3 v4 v5 v7 v8 σ; exact b_X11_cheat_91 C N (lf_X11_cheat_91 N  n) ih v1 v2 v3 v4 v5 v7 v8 σ
def bf_X11_cheat_71 (N : Nat) (v1 : Int32) (v2 : Int32) (v3 : Int32) (v4 : Int32) (v5 : Int32) (u0 : Int32) (σ : zS) : zA := (if u0 = (0 : Int32) then (lf_X11_cheat_91 N N v1 v2 v3 v4 v5 (0 : Int32) (0 : Int32) σ) else z_b (f_X11_no N u0 σ) (fun r_10 t_11 => some (r_10, t_11)))
set_option maxHeartbeats 4000000 in
set_option maxRecDepth 100000 in
theorem b_X11_cheat_71 {G : zG} {dC : Nat → ClassId} {dI : Nat → Nat → Nat} {A : Nat → Prop} {ad : Nat → Nat} {cI cC cW : ClassId} (C : zC G dC dI A 16 ad (cfM ad cI) (z_ty cI cC cW) cX11_cheat RX11 11 2 (some .int)) (N : Nat) (v1 : Int32) (v2 : Int32) (v3 : Int32) (v4 : Int32) (v5 : Int32) (u0 : Int32) (σ : zS) : zW G dC dI A 16 ad (cfM ad cI) 11 true (bf_X11_cheat_71 N  v1 v2 v3 v4 v5 u0 σ) σ 71 [(0, .ref (ad 0)), (1, .int v1), (2, .int v2), (3, .int v3), (4, .int v4), (5, .int v5)] [.int u0] := by
  unfold bf_X11_cheat_71
  refine zx_istore (L1 := [(6, .int u0), (0, .ref (ad 0)), (1, .int v1), (2, .int v2), (3, .int v3), (4, .int v4), (5, .int v5)]) C dX11_cheat_71 (by decide) rfl ?_
  refine zx_iload C 0 dX11_cheat_73 rfl ?_
  refine zx_if_eq (tgt := 85) C dX11_cheat_75 (by decide) (fun h_9 => ?_) (fun h_9 => ?_)
  · refine zx_iconst (v := 0) C dX11_cheat_85 (by decide) ?_
    refine zx_istore (L1 := [(7, .int (0 : Int32)), (6, .int u0), (0, .ref (ad 0)), (1, .int v1), (2, .int v2), (3, .int v3), (4, .int v4), (5, .int v5)]) C dX11_cheat_86 (by decide) rfl ?_
    refine zx_iconst (v := 0) C dX11_cheat_88 (by decide) ?_
    refine zx_istore (L1 := [(8, .int (0 : Int32)), (7, .int (0 : Int32)), (6, .int u0), (0, .ref (ad 0)), (1, .int v1), (2, .int v2), (3, .int v3), (4, .int v4), (5, .int v5)]) C dX11_cheat_89 (by decide) rfl ?_
    exact zx_sub (L1 := [(0, .ref (ad 0)), (1, .int v1), (2, .int v2), (3, .int v3), (4, .int v4), (5, .int v5), (7, .int (0 : Int32)), (8, .int (0 : Int32))]) [3, 4, 5, 6, 7, 8, 1, 0] rfl (l_X11_cheat_91 C N N v1 v2 v3 v4 v5 (0 : Int32) (0 : Int32) σ)
  · refine zx_aload_n C 1 dX11_cheat_78 rfl rfl ?_
    refine zx_iload C 0 dX11_cheat_79 rfl ?_
    refine zx_callV (As := [.int u0]) (st := []) C yk_X11_no q_747 q_749 q_10 (by decide) rfl rfl (k_X11_no C.hO N u0 σ) (by decide) rfl rfl (Nat.le_of_ble_eq_true rfl) dX11_cheat_81 (fun _ r_10 t_11 => ?_) (fun h9 => nomatch h9)
    exact zx_iret C dX11_cheat_84
def bf_X11_cheat_65 (N : Nat) (v1 : Int32) (v2 : Int32) (v3 : Int32) (v4 : Int32) (v5 : Int32) (σ : zS) : zA := (bf_X11_cheat_71 N v1 v2 v3 v4 v5 (-6 : Int32) σ)
set_option maxHeartbeats 4000000 in
set_option maxRecDepth 100000 in
theorem b_X11_cheat_65 {G : zG} {dC : Nat → ClassId} {dI : Nat → Nat → Nat} {A : Nat → Prop} {ad : Nat → Nat} {cI cC cW : ClassId} (C : zC G dC dI A 16 ad (cfM ad cI) (z_ty cI cC cW) cX11_cheat RX11 11 2 (some .int)) (N : Nat) (v1 : Int32) (v2 : Int32) (v3 : Int32) (v4 : Int32) (v5 : Int32) (σ : zS) : zW G dC dI A 16 ad (cfM ad cI) 11 true (bf_X11_cheat_65 N  v1 v2 v3 v4 v5 σ) σ 65 [(0, .ref (ad 0)), (1, .int v1), (2, .int v2), (3, .int v3), (4, .int v4), (5, .int v5)] [] := by
  unfold bf_X11_cheat_65
  refine zx_bipush (v := -6) C dX11_cheat_65 (by decide) ?_
  refine zx_goto (tgt := 71) C dX11_cheat_67 (by decide) ?_
  exact zx_sub (L1 := [(0, .ref (ad 0)), (1, .int v1), (2, .int v2), (3, .int v3), (4, .int v4), (5, .int v5)]) [0, 1, 2, 3, 4, 5] rfl (b_X11_cheat_71 C N v1 v2 v3 v4 v5 (-6 : Int32) σ)
def bf_X11_cheat_31 (N : Nat) (v1 : Int32) (v2 : Int32) (v3 : Int32) (v4 : Int32) (v5 : Int32) (σ : zS) : zA := (bf_X11_cheat_71 N v1 v2 v3 v4 v5 (-4 : Int32) σ)
set_option maxHeartbeats 4000000 in
set_option maxRecDepth 100000 in
theorem b_X11_cheat_31 {G : zG} {dC : Nat → ClassId} {dI : Nat → Nat → Nat} {A : Nat → Prop} {ad : Nat → Nat} {cI cC cW : ClassId} (C : zC G dC dI A 16 ad (cfM ad cI) (z_ty cI cC cW) cX11_cheat RX11 11 2 (some .int)) (N : Nat) (v1 : Int32) (v2 : Int32) (v3 : Int32) (v4 : Int32) (v5 : Int32) (σ : zS) : zW G dC dI A 16 ad (cfM ad cI) 11 true (bf_X11_cheat_31 N  v1 v2 v3 v4 v5 σ) σ 31 [(0, .ref (ad 0)), (1, .int v1), (2, .int v2), (3, .int v3), (4, .int v4), (5, .int v5)] [] := by
  unfold bf_X11_cheat_31
  refine zx_bipush (v := -4) C dX11_cheat_31 (by decide) ?_
  refine zx_goto (tgt := 71) C dX11_cheat_33 (by decide) ?_
  exact zx_sub (L1 := [(0, .ref (ad 0)), (1, .int v1), (2, .int v2), (3, .int v3), (4, .int v4), (5, .int v5)]) [0, 1, 2, 3, 4, 5] rfl (b_X11_cheat_71 C N v1 v2 v3 v4 v5 (-4 : Int32) σ)
def f_X11_cheat (N : Nat) (v1 : Int32) (v2 : Int32) (v3 : Int32) (v4 : Int32) (v5 : Int32) (σ : zS) : zA := z_b (f_X11_isOne N v1 σ) (fun r_12 t_13 => (if r_12 = (0 : Int32) then z_b (f_X11_no N (-1 : Int32) t_13) (fun r_23 t_24 => some (r_23, t_24)) else (if v2 < (0 : Int32) then (bf_X11_cheat_31 N v1 v2 v3 v4 v5 t_13) else (if v3 < (0 : Int32) then (bf_X11_cheat_31 N v1 v2 v3 v4 v5 t_13) else (if v4 < (0 : Int32) then (bf_X11_cheat_31 N v1 v2 v3 v4 v5 t_13) else (if (0 : Int32) ≤ v5 then (if (9 : Int32) < v2 then (bf_X11_cheat_65 N v1 v2 v3 v4 v5 t_13) else (if (999 : Int32) < v3 then (bf_X11_cheat_65 N v1 v2 v3 v4 v5 t_13) else (if (999 : Int32) < v4 then (bf_X11_cheat_65 N v1 v2 v3 v4 v5 t_13) else (if v5 ≤ (300 : Int32) then (bf_X11_cheat_71 N v1 v2 v3 v4 v5 (0 : Int32) t_13) else (bf_X11_cheat_65 N v1 v2 v3 v4 v5 t_13))))) else (bf_X11_cheat_31 N v1 v2 v3 v4 v5 t_13)))))))
set_option maxHeartbeats 4000000 in
set_option maxRecDepth 100000 in
theorem k_X11_cheat {l : Launch} {dC : Nat → ClassId} {dI : Nat → Nat → Nat} {A : Nat → Prop} {ad : Nat → Nat} {cI cC cW : ClassId} (hO : zO A 16 ad (cfM ad cI)) (N : Nat) (v1 : Int32) (v2 : Int32) (v3 : Int32) (v4 : Int32) (v5 : Int32) (σ : zS) : zM l dC dI A 16 ad (cfM ad cI) (z_ty cI cC cW) true yX11_cheat cX11_cheat 11 (some .int) 2 [.ref (ad 0), .int v1, .int v2, .int v3, .int v4, .int v5] σ (f_X11_cheat N v1 v2 v3 v4 v5 σ) := by
  refine zM_of hO (by decide) (Nat.le_of_ble_eq_true rfl) (fun G hG C => ?_)
  subst hG
  unfold f_X11_cheat
  refine zx_sub (L1 := [(0, .ref (ad 0)), (1, .int v1), (2, .int v2), (3, .int v3), (4, .int v4), (5, .int v5)]) [0, 1, 2, 3, 4, 5] rfl ?_
  refine zx_iload_n C 1 dX11_cheat_0 rfl rfl ?_
  refine zx_callS (av := [.int v1]) (st := []) C yk_X11_isOne q_790 q_791 (k_X11_isOne C.hO N v1 σ) (by decide) rfl rfl (Nat.le_of_ble_eq_true rfl) dX11_cheat_1 (fun _ r_12 t_13 => ?_) (fun h9 => nomatch h9)
  refine zx_if_ne (tgt := 13) C dX11_cheat_4 (by decide) (fun h_14 => ?_) (fun h_14 => ?_)
  · refine zx_iload_n C 2 dX11_cheat_13 rfl rfl ?_
    refine zx_if_lt (tgt := 31) C dX11_cheat_14 (by decide) (fun h_15 => ?_) (fun h_15 => ?_)
    · exact zx_sub (L1 := [(0, .ref (ad 0)), (1, .int v1), (2, .int v2), (3, .int v3), (4, .int v4), (5, .int v5)]) [0, 1, 2, 3, 4, 5] rfl (b_X11_cheat_31 C N v1 v2 v3 v4 v5 t_13)
    · refine zx_iload_n C 3 dX11_cheat_17 rfl rfl ?_
      refine zx_if_lt (tgt := 31) C dX11_cheat_18 (by decide) (fun h_16 => ?_) (fun h_16 => ?_)
      · exact zx_sub (L1 := [(0, .ref (ad 0)), (1, .int v1), (2, .int v2), (3, .int v3), (4, .int v4), (5, .int v5)]) [0, 1, 2, 3, 4, 5] rfl (b_X11_cheat_31 C N v1 v2 v3 v4 v5 t_13)
      · refine zx_iload C 4 dX11_cheat_21 rfl ?_
        refine zx_if_lt (tgt := 31) C dX11_cheat_23 (by decide) (fun h_17 => ?_) (fun h_17 => ?_)
        · exact zx_sub (L1 := [(0, .ref (ad 0)), (1, .int v1), (2, .int v2), (3, .int v3), (4, .int v4), (5, .int v5)]) [0, 1, 2, 3, 4, 5] rfl (b_X11_cheat_31 C N v1 v2 v3 v4 v5 t_13)
        · refine zx_iload C 5 dX11_cheat_26 rfl ?_
          refine zx_if_ge (tgt := 36) C dX11_cheat_28 (by decide) (fun h_18 => ?_) (fun h_18 => ?_)
          · refine zx_iload_n C 2 dX11_cheat_36 rfl rfl ?_
            refine zx_bipush (v := 9) C dX11_cheat_37 (by decide) ?_
            refine zx_icmp_gt (tgt := 65) C dX11_cheat_39 (by decide) (fun h_19 => ?_) (fun h_19 => ?_)
            · exact zx_sub (L1 := [(0, .ref (ad 0)), (1, .int v1), (2, .int v2), (3, .int v3), (4, .int v4), (5, .int v5)]) [0, 1, 2, 3, 4, 5] rfl (b_X11_cheat_65 C N v1 v2 v3 v4 v5 t_13)
            · refine zx_iload_n C 3 dX11_cheat_42 rfl rfl ?_
              refine zx_sipush (v := 999) C dX11_cheat_43 (by decide) ?_
              refine zx_icmp_gt (tgt := 65) C dX11_cheat_46 (by decide) (fun h_20 => ?_) (fun h_20 => ?_)
              · exact zx_sub (L1 := [(0, .ref (ad 0)), (1, .int v1), (2, .int v2), (3, .int v3), (4, .int v4), (5, .int v5)]) [0, 1, 2, 3, 4, 5] rfl (b_X11_cheat_65 C N v1 v2 v3 v4 v5 t_13)
              · refine zx_iload C 4 dX11_cheat_49 rfl ?_
                refine zx_sipush (v := 999) C dX11_cheat_51 (by decide) ?_
                refine zx_icmp_gt (tgt := 65) C dX11_cheat_54 (by decide) (fun h_21 => ?_) (fun h_21 => ?_)
                · exact zx_sub (L1 := [(0, .ref (ad 0)), (1, .int v1), (2, .int v2), (3, .int v3), (4, .int v4), (5, .int v5)]) [0, 1, 2, 3, 4, 5] rfl (b_X11_cheat_65 C N v1 v2 v3 v4 v5 t_13)
                · refine zx_iload C 5 dX11_cheat_57 rfl ?_
                  refine zx_sipush (v := 300) C dX11_cheat_59 (by decide) ?_
                  refine zx_icmp_le (tgt := 70) C dX11_cheat_62 (by decide) (fun h_22 => ?_) (fun h_22 => ?_)
                  · refine zx_iconst (v := 0) C dX11_cheat_70 (by decide) ?_
                    exact zx_sub (L1 := [(0, .ref (ad 0)), (1, .int v1), (2, .int v2), (3, .int v3), (4, .int v4), (5, .int v5)]) [0, 1, 2, 3, 4, 5] rfl (b_X11_cheat_71 C N v1 v2 v3 v4 v5 (0 : Int32) t_13)
                  · exact zx_sub (L1 := [(0, .ref (ad 0)), (1, .int v1), (2, .int v2), (3, .int v3), (4, .int v4), (5, .int v5)]) [0, 1, 2, 3, 4, 5] rfl (b_X11_cheat_65 C N v1 v2 v3 v4 v5 t_13)
          · exact zx_sub (L1 := [(0, .ref (ad 0)), (1, .int v1), (2, .int v2), (3, .int v3), (4, .int v4), (5, .int v5)]) [0, 1, 2, 3, 4, 5] rfl (b_X11_cheat_31 C N v1 v2 v3 v4 v5 t_13)
  · refine zx_aload_n C 0 dX11_cheat_7 rfl rfl ?_
    refine zx_iconst (v := -1) C dX11_cheat_8 (by decide) ?_
    refine zx_callV (As := [.int (-1 : Int32)]) (st := []) C yk_X11_no q_747 q_749 q_10 (by decide) rfl rfl (k_X11_no C.hO N (-1 : Int32) t_13) (by decide) rfl rfl (Nat.le_of_ble_eq_true rfl) dX11_cheat_9 (fun _ r_23 t_24 => ?_) (fun h9 => nomatch h9)
    exact zx_iret C dX11_cheat_12
def bf_X11_dripped_100 (N : Nat) (rec70 : Int32 → Int32 → Int32 → Int32 → Int32 → Int32 → Int32 → Int32 → Int32 → zS → zA) (v1 : Int32) (v2 : Int32) (v3 : Int32) (v4 : Int32) (v5 : Int32) (v6 : Int32) (v7 : Int32) (v8 : Int32) (v9 : Int32) (σ : zS) : zA := z_g (z_in v1 6) (z_g (z_in v1 6) (z_g (z_in v2 4) (z_b (f_X11_burns N (σ 1 v1.toNatClampNeg) (σ 2 v1.toNatClampNeg) v5 (σ 7 v2.toNatClampNeg) σ) (fun r_1 t_2 => z_g (z_in v1 6) (z_g (z_in v1 6) (z_g (z_in v2 4) (z_b (f_X11_drips N (t_2 1 v1.toNatClampNeg) (t_2 2 v1.toNatClampNeg) r_1 (t_2 7 v2.toNatClampNeg) t_2) (fun r_3 t_4 => z_n (v6 + r_3) (fun z_5 => z_n (v5 - r_1) (fun z_6 => (rec70 v1 v2 v3 v4 z_6 z_5 v7 v8 (v9 + (1 : Int32)) t_4)))))))))))
set_option maxHeartbeats 4000000 in
set_option maxRecDepth 100000 in
theorem b_X11_dripped_100 {G : zG} {dC : Nat → ClassId} {dI : Nat → Nat → Nat} {A : Nat → Prop} {ad : Nat → Nat} {cI cC cW : ClassId} (C : zC G dC dI A 16 ad (cfM ad cI) (z_ty cI cC cW) cX11_dripped RX11 11 2 (some .int)) (N : Nat) (rec70 : Int32 → Int32 → Int32 → Int32 → Int32 → Int32 → Int32 → Int32 → Int32 → zS → zA) (hrec70 : ∀ (v1 : Int32) (v2 : Int32) (v3 : Int32) (v4 : Int32) (v5 : Int32) (v6 : Int32) (v7 : Int32) (v8 : Int32) (v9 : Int32) (σ : zS), zW G dC dI A 16 ad (cfM ad cI) 11 true (rec70 v1 v2 v3 v4 v5 v6 v7 v8 v9 σ) σ 70 [(0, .ref (ad 0)), (1, .int v1), (2, .int v2), (3, .int v3), (4, .int v4), (5, .int v5), (6, .int v6), (7, .int v7), (8, .int v8), (9, .int v9)] []) (v1 : Int32) (v2 : Int32) (v3 : Int32) (v4 : Int32) (v5 : Int32) (v6 : Int32) (v7 : Int32) (v8 : Int32) (v9 : Int32) (σ : zS) : zW G dC dI A 16 ad (cfM ad cI) 11 true (bf_X11_dripped_100 N rec70 v1 v2 v3 v4 v5 v6 v7 v8 v9 σ) σ 100 [(0, .ref (ad 0)), (1, .int v1), (2, .int v2), (3, .int v3), (4, .int v4), (5, .int v5), (6, .int v6), (7, .int v7), (8, .int v8), (9, .int v9)] [] := by
  unfold bf_X11_dripped_100
  refine zx_aload_n C 0 dX11_dripped_100 rfl rfl ?_
  refine zx_get C 1 (by decide) rfl rfl (by decide) inX11 q_653 rfl rfl dX11_dripped_101 ?_
  refine zx_iload_n C 1 dX11_dripped_104 rfl rfl ?_
  refine zx_iald C 0 (by decide) rfl rfl dX11_dripped_105 ?_
  refine zx_aload_n C 0 dX11_dripped_106 rfl rfl ?_
  refine zx_get C 2 (by decide) rfl rfl (by decide) inX11 q_654 rfl rfl dX11_dripped_107 ?_
  refine zx_iload_n C 1 dX11_dripped_110 rfl rfl ?_
  refine zx_iald C 0 (by decide) rfl rfl dX11_dripped_111 ?_
  refine zx_iload C 5 dX11_dripped_112 rfl ?_
  refine zx_aload_n C 0 dX11_dripped_114 rfl rfl ?_
  refine zx_get C 7 (by decide) rfl rfl (by decide) inX11 q_659 rfl rfl dX11_dripped_115 ?_
  refine zx_iload_n C 2 dX11_dripped_118 rfl rfl ?_
  refine zx_iald C 0 (by decide) rfl rfl dX11_dripped_119 ?_
  refine zx_callS (av := [.int (σ 1 v1.toNatClampNeg), .int (σ 2 v1.toNatClampNeg), .int v5, .int (σ 7 v2.toNatClampNeg)]) (st := []) C yk_X11_burns q_816 q_817 (k_X11_burns C.hO N (σ 1 v1.toNatClampNeg) (σ 2 v1.toNatClampNeg) v5 (σ 7 v2.toNatClampNeg) σ) (by decide) rfl rfl (Nat.le_of_ble_eq_true rfl) dX11_dripped_120 (fun _ r_1 t_2 => ?_) (fun h9 => nomatch h9)
  refine zx_istore (L1 := [(10, .int r_1), (0, .ref (ad 0)), (1, .int v1), (2, .int v2), (3, .int v3), (4, .int v4), (5, .int v5), (6, .int v6), (7, .int v7), (8, .int v8), (9, .int v9)]) C dX11_dripped_123 (by decide) rfl ?_
  refine zx_iload C 7 dX11_dripped_125 rfl ?_
  refine zx_aload_n C 1 dX11_dripped_127 rfl rfl ?_
  refine zx_get C 1 (by decide) rfl rfl (by decide) inX11 q_653 rfl rfl dX11_dripped_128 ?_
  refine zx_iload_n C 2 dX11_dripped_131 rfl rfl ?_
  refine zx_iald C 0 (by decide) rfl rfl dX11_dripped_132 ?_
  refine zx_aload_n C 1 dX11_dripped_133 rfl rfl ?_
  refine zx_get C 2 (by decide) rfl rfl (by decide) inX11 q_654 rfl rfl dX11_dripped_134 ?_
  refine zx_iload_n C 2 dX11_dripped_137 rfl rfl ?_
  refine zx_iald C 0 (by decide) rfl rfl dX11_dripped_138 ?_
  refine zx_iload C 0 dX11_dripped_139 rfl ?_
  refine zx_aload_n C 1 dX11_dripped_141 rfl rfl ?_
  refine zx_get C 7 (by decide) rfl rfl (by decide) inX11 q_659 rfl rfl dX11_dripped_142 ?_
  refine zx_iload_n C 3 dX11_dripped_145 rfl rfl ?_
  refine zx_iald C 0 (by decide) rfl rfl dX11_dripped_146 ?_
  refine zx_callS (av := [.int (t_2 1 v1.toNatClampNeg), .int (t_2 2 v1.toNatClampNeg), .int r_1, .int (t_2 7 v2.toNatClampNeg)]) (st := [.int v6]) C yk_X11_drips q_826 q_827 (k_X11_drips C.hO N (t_2 1 v1.toNatClampNeg) (t_2 2 v1.toNatClampNeg) r_1 (t_2 7 v2.toNatClampNeg) t_2) (by decide) rfl rfl (Nat.le_of_ble_eq_true rfl) dX11_dripped_147 (fun _ r_3 t_4 => ?_) (fun h9 => nomatch h9)
  refine zx_iadd C dX11_dripped_150 ?_
  refine zx_n (fun z_5 => ?_)
  refine zx_istore (L1 := [(6, .int z_5), (10, .int r_1), (0, .ref (ad 0)), (1, .int v1), (2, .int v2), (3, .int v3), (4, .int v4), (5, .int v5), (7, .int v7), (8, .int v8), (9, .int v9)]) C dX11_dripped_151 (by decide) rfl ?_
  refine zx_iload C 7 dX11_dripped_153 rfl ?_
  refine zx_iload C 1 dX11_dripped_155 rfl ?_
  refine zx_isub C dX11_dripped_157 ?_
  refine zx_n (fun z_6 => ?_)
  refine zx_istore (L1 := [(5, .int z_6), (6, .int z_5), (10, .int r_1), (0, .ref (ad 0)), (1, .int v1), (2, .int v2), (3, .int v3), (4, .int v4), (7, .int v7), (8, .int v8), (9, .int v9)]) C dX11_dripped_158 (by decide) rfl ?_
  refine zx_iinc (v := (v9 + (1 : Int32))) (L1 := [(9, .int (v9 + (1 : Int32))), (5, .int z_6), (6, .int z_5), (10, .int r_1), (0, .ref (ad 0)), (1, .int v1), (2, .int v2), (3, .int v3), (4, .int v4), (7, .int v7), (8, .int v8)]) C 10 dX11_dripped_160 rfl rfl (by decide) rfl ?_
  refine zx_goto (tgt := 70) C dX11_dripped_163 (by decide) ?_
  exact zx_sub (L1 := [(0, .ref (ad 0)), (1, .int v1), (2, .int v2), (3, .int v3), (4, .int v4), (5, .int z_6), (6, .int z_5), (7, .int v7), (8, .int v8), (9, .int (v9 + (1 : Int32)))]) [4, 5, 6, 7, 8, 1, 2, 9, 10, 0] rfl (hrec70 v1 v2 v3 v4 z_6 z_5 v7 v8 (v9 + (1 : Int32)) t_4)
def bf_X11_dripped_95 (N : Nat) (rec70 : Int32 → Int32 → Int32 → Int32 → Int32 → Int32 → Int32 → Int32 → Int32 → zS → zA) (v1 : Int32) (v2 : Int32) (v3 : Int32) (v4 : Int32) (v5 : Int32) (v6 : Int32) (v7 : Int32) (v9 : Int32) (u0 : Int32) (σ : zS) : zA := (bf_X11_dripped_100 N rec70 v1 v2 v3 v4 v5 v6 (v7 + (1 : Int32)) u0 v9 σ)
set_option maxHeartbeats 4000000 in
set_option maxRecDepth 100000 in
theorem b_X11_dripped_95 {G : zG} {dC : Nat → ClassId} {dI : Nat → Nat → Nat} {A : Nat → Prop} {ad : Nat → Nat} {cI cC cW : ClassId} (C : zC G dC dI A 16 ad (cfM ad cI) (z_ty cI cC cW) cX11_dripped RX11 11 2 (some .int)) (N : Nat) (rec70 : Int32 → Int32 → Int32 → Int32 → Int32 → Int32 → Int32 → Int32 → Int32 → zS → zA) (hrec70 : ∀ (v1 : Int32) (v2 : Int32) (v3 : Int32) (v4 : Int32) (v5 : Int32) (v6 : Int32) (v7 : Int32) (v8 : Int32) (v9 : Int32) (σ : zS), zW G dC dI A 16 ad (cfM ad cI) 11 true (rec70 v1 v2 v3 v4 v5 v6 v7 v8 v9 σ) σ 70 [(0, .ref (ad 0)), (1, .int v1), (2, .int v2), (3, .int v3), (4, .int v4), (5, .int v5), (6, .int v6), (7, .int v7), (8, .int v8), (9, .int v9)] []) (v1 : Int32) (v2 : Int32) (v3 : Int32) (v4 : Int32) (v5 : Int32) (v6 : Int32) (v7 : Int32) (v9 : Int32) (u0 : Int32) (σ : zS) : zW G dC dI A 16 ad (cfM ad cI) 11 true (bf_X11_dripped_95 N rec70 v1 v2 v3 v4 v5 v6 v7 v9 u0 σ) σ 95 [(0, .ref (ad 0)), (1, .int v1), (2, .int v2), (3, .int v3), (4, .int v4), (5, .int v5), (6, .int v6), (7, .int v7), (9, .int v9)] [.int u0] := by
  unfold bf_X11_dripped_95
  refine zx_istore (L1 := [(8, .int u0), (0, .ref (ad 0)), (1, .int v1), (2, .int v2), (3, .int v3), (4, .int v4), (5, .int v5), (6, .int v6), (7, .int v7), (9, .int v9)]) C dX11_dripped_95 (by decide) rfl ?_
  refine zx_iinc (v := (v7 + (1 : Int32))) (L1 := [(7, .int (v7 + (1 : Int32))), (8, .int u0), (0, .ref (ad 0)), (1, .int v1), (2, .int v2), (3, .int v3), (4, .int v4), (5, .int v5), (6, .int v6), (9, .int v9)]) C 8 dX11_dripped_97 rfl rfl (by decide) rfl ?_
  exact zx_sub (L1 := [(0, .ref (ad 0)), (1, .int v1), (2, .int v2), (3, .int v3), (4, .int v4), (5, .int v5), (6, .int v6), (7, .int (v7 + (1 : Int32))), (8, .int u0), (9, .int v9)]) [2, 3, 4, 5, 6, 7, 8, 0, 1, 9] rfl (b_X11_dripped_100 C N rec70 hrec70 v1 v2 v3 v4 v5 v6 (v7 + (1 : Int32)) u0 v9 σ)
def bf_X11_dripped_70 (N : Nat) (rec70 : Int32 → Int32 → Int32 → Int32 → Int32 → Int32 → Int32 → Int32 → Int32 → zS → zA) (v1 : Int32) (v2 : Int32) (v3 : Int32) (v4 : Int32) (v5 : Int32) (v6 : Int32) (v7 : Int32) (v8 : Int32) (v9 : Int32) (σ : zS) : zA := (if (100 : Int32) ≤ v9 then (if v4 = (0 : Int32) then some (v7, σ) else some (v8, σ)) else (if v6 = v3 then (if v7 = (0 : Int32) then (bf_X11_dripped_95 N rec70 v1 v2 v3 v4 v5 v6 v7 v9 v9 σ) else (bf_X11_dripped_95 N rec70 v1 v2 v3 v4 v5 v6 v7 v9 v8 σ)) else (bf_X11_dripped_100 N rec70 v1 v2 v3 v4 v5 v6 v7 v8 v9 σ)))
set_option maxHeartbeats 4000000 in
set_option maxRecDepth 100000 in
theorem b_X11_dripped_70 {G : zG} {dC : Nat → ClassId} {dI : Nat → Nat → Nat} {A : Nat → Prop} {ad : Nat → Nat} {cI cC cW : ClassId} (C : zC G dC dI A 16 ad (cfM ad cI) (z_ty cI cC cW) cX11_dripped RX11 11 2 (some .int)) (N : Nat) (rec70 : Int32 → Int32 → Int32 → Int32 → Int32 → Int32 → Int32 → Int32 → Int32 → zS → zA) (hrec70 : ∀ (v1 : Int32) (v2 : Int32) (v3 : Int32) (v4 : Int32) (v5 : Int32) (v6 : Int32) (v7 : Int32) (v8 : Int32) (v9 : Int32) (σ : zS), zW G dC dI A 16 ad (cfM ad cI) 11 true (rec70 v1 v2 v3 v4 v5 v6 v7 v8 v9 σ) σ 70 [(0, .ref (ad 0)), (1, .int v1), (2, .int v2), (3, .int v3), (4, .int v4), (5, .int v5), (6, .int v6), (7, .int v7), (8, .int v8), (9, .int v9)] []) (v1 : Int32) (v2 : Int32) (v3 : Int32) (v4 : Int32) (v5 : Int32) (v6 : Int32) (v7 : Int32) (v8 : Int32) (v9 : Int32) (σ : zS) : zW G dC dI A 16 ad (cfM ad cI) 11 true (bf_X11_dripped_70 N rec70 v1 v2 v3 v4 v5 v6 v7 v8 v9 σ) σ 70 [(0, .ref (ad 0)), (1, .int v1), (2, .int v2), (3, .int v3), (4, .int v4), (5, .int v5), (6, .int v6), (7, .int v7), (8, .int v8), (9, .int v9)] [] := by
  unfold bf_X11_dripped_70
  refine zx_iload C 9 dX11_dripped_70 rfl ?_
  refine zx_bipush (v := 100) C dX11_dripped_72 (by decide) ?_
  refine zx_icmp_ge (tgt := 166) C dX11_dripped_74 (by decide) (fun h_7 => ?_) (fun h_7 => ?_)
  · refine zx_iload C 4 dX11_dripped_166 rfl ?_
    refine zx_if_ne (tgt := 176) C dX11_dripped_168 (by decide) (fun h_8 => ?_) (fun h_8 => ?_)
    · refine zx_iload C 8 dX11_dripped_176 rfl ?_
      exact zx_iret C dX11_dripped_178
    · refine zx_iload C 7 dX11_dripped_171 rfl ?_
      refine zx_goto (tgt := 178) C dX11_dripped_173 (by decide) ?_
      exact zx_iret C dX11_dripped_178
  · refine zx_iload C 6 dX11_dripped_77 rfl ?_
    refine zx_iload_n C 3 dX11_dripped_79 rfl rfl ?_
    refine zx_icmp_ne (tgt := 100) C dX11_dripped_80 (by decide) (fun h_9 => ?_) (fun h_9 => ?_)
    · exact zx_sub (L1 := [(0, .ref (ad 0)), (1, .int v1), (2, .int v2), (3, .int v3), (4, .int v4), (5, .int v5), (6, .int v6), (7, .int v7), (8, .int v8), (9, .int v9)]) [0, 1, 2, 3, 4, 5, 6, 7, 8, 9] rfl (b_X11_dripped_100 C N rec70 hrec70 v1 v2 v3 v4 v5 v6 v7 v8 v9 σ)
    · refine zx_iload C 7 dX11_dripped_83 rfl ?_
      refine zx_if_ne (tgt := 93) C dX11_dripped_85 (by decide) (fun h_10 => ?_) (fun h_10 => ?_)
      · refine zx_iload C 8 dX11_dripped_93 rfl ?_
        exact zx_sub (L1 := [(0, .ref (ad 0)), (1, .int v1), (2, .int v2), (3, .int v3), (4, .int v4), (5, .int v5), (6, .int v6), (7, .int v7), (9, .int v9)]) [0, 1, 2, 3, 4, 5, 6, 7, 9] rfl (b_X11_dripped_95 C N rec70 hrec70 v1 v2 v3 v4 v5 v6 v7 v9 v8 σ)
      · refine zx_iload C 9 dX11_dripped_88 rfl ?_
        refine zx_goto (tgt := 95) C dX11_dripped_90 (by decide) ?_
        exact zx_sub (L1 := [(0, .ref (ad 0)), (1, .int v1), (2, .int v2), (3, .int v3), (4, .int v4), (5, .int v5), (6, .int v6), (7, .int v7), (9, .int v9)]) [0, 1, 2, 3, 4, 5, 6, 7, 9] rfl (b_X11_dripped_95 C N rec70 hrec70 v1 v2 v3 v4 v5 v6 v7 v9 v9 σ)
def lf_X11_dripped_70 (N : Nat) : Nat → Int32 → Int32 → Int32 → Int32 → Int32 → Int32 → Int32 → Int32 → Int32 → zS → zA
  | 0, _, _, _, _, _, _, _, _, _, _ => none
  | n + 1, v1, v2, v3, v4, v5, v6, v7, v8, v9, σ => bf_X11_dripped_70 N (lf_X11_dripped_70 N  n) v1 v2 v3 v4 v5 v6 v7 v8 v9 σ
theorem l_X11_dripped_70 {G : zG} {dC : Nat → ClassId} {dI : Nat → Nat → Nat} {A : Nat → Prop} {ad : Nat → Nat} {cI cC cW : ClassId} (C : zC G dC dI A 16 ad (cfM ad cI) (z_ty cI cC cW) cX11_dripped RX11 11 2 (some .int)) (N : Nat) : ∀ (n : Nat) (v1 : Int32) (v2 : Int32) (v3 : Int32) (v4 : Int32) (v5 : Int32) (v6 : Int32) (v7 : Int32) (v8 : Int32) (v9 : Int32) (σ : zS), zW G dC dI A 16 ad (cfM ad cI) 11 true (lf_X11_dripped_70 N  n v1 v2 v3 v4 v5 v6 v7 v8 v9 σ) σ 70 [(0, .ref (ad 0)), (1, .int v1), (2, .int v2), (3, .int v3), (4, .int v4), (5, .int v5), (6, .int v6), (7, .int v7), (8, .int v8), (9, .int v9)] [] := by
  intro n
  induction n with
  | zero => intro v1 v2 v3 v4 v5 v6 v7 v8 v9 σ; exact zx_none
  | succ n ih => intro v1 v2 v3 v4 v5 v6 v7 v8 v9 σ; exact b_X11_dripped_70 C N (lf_X11_dripped_70 N  n) ih v1 v2 v3 v4 v5 v6 v7 v8 v9 σ
def bf_X11_dripped_15 (N : Nat) (σ : zS) : zA := z_b (f_X11_no N (-1 : Int32) σ) (fun r_11 t_12 => some (r_11, t_12))
set_option maxHeartbeats 4000000 in
set_option maxRecDepth 100000 in
theorem b_X11_dripped_15 {G : zG} {dC : Nat → ClassId} {dI : Nat → Nat → Nat} {A : Nat → Prop} {ad : Nat → Nat} {cI cC cW : ClassId} (C : zC G dC dI A 16 ad (cfM ad cI) (z_ty cI cC cW) cX11_dripped RX11 11 2 (some .int)) (N : Nat) (σ : zS) : zW G dC dI A 16 ad (cfM ad cI) 11 true (bf_X11_dripped_15 N   σ) σ 15 [(0, .ref (ad 0))] [] := by
  unfold bf_X11_dripped_15
  refine zx_aload_n C 0 dX11_dripped_15 rfl rfl ?_
  refine zx_iconst (v := -1) C dX11_dripped_16 (by decide) ?_
  refine zx_callV (As := [.int (-1 : Int32)]) (st := []) C yk_X11_no q_747 q_749 q_10 (by decide) rfl rfl (k_X11_no C.hO N (-1 : Int32) σ) (by decide) rfl rfl (Nat.le_of_ble_eq_true rfl) dX11_dripped_17 (fun _ r_11 t_12 => ?_) (fun h9 => nomatch h9)
  exact zx_iret C dX11_dripped_20
def f_X11_dripped (N : Nat) (v1 : Int32) (v2 : Int32) (v3 : Int32) (v4 : Int32) (σ : zS) : zA := z_b (f_X11_isCandle N v1 σ) (fun r_13 t_14 => (if r_13 = (0 : Int32) then (bf_X11_dripped_15 N t_14) else z_b (f_X11_isOne N v2 t_14) (fun r_16 t_17 => (if r_16 = (0 : Int32) then (bf_X11_dripped_15 N t_17) else z_b (f_X11_isIn N v4 (0 : Int32) (1 : Int32) t_17) (fun r_19 t_20 => (if r_19 = (0 : Int32) then z_b (f_X11_no N (-2 : Int32) t_20) (fun r_26 t_27 => some (r_26, t_27)) else (if (0 : Int32) ≤ v3 then z_g (z_in v1 6) (z_n (t_20 3 v1.toNatClampNeg) (fun z_23 => (lf_X11_dripped_70 N N v1 v2 v3 v4 z_23 (0 : Int32) (0 : Int32) (-9 : Int32) (0 : Int32) t_20))) else z_b (f_X11_no N (-4 : Int32) t_20) (fun r_24 t_25 => some (r_24, t_25)))))))))
set_option maxHeartbeats 4000000 in
set_option maxRecDepth 100000 in
theorem k_X11_dripped {l : Launch} {dC : Nat → ClassId} {dI : Nat → Nat → Nat} {A : Nat → Prop} {ad : Nat → Nat} {cI cC cW : ClassId} (hO : zO A 16 ad (cfM ad cI)) (N : Nat) (v1 : Int32) (v2 : Int32) (v3 : Int32) (v4 : Int32) (σ : zS) : zM l dC dI A 16 ad (cfM ad cI) (z_ty cI cC cW) true yX11_dripped cX11_dripped 11 (some .int) 2 [.ref (ad 0), .int v1, .int v2, .int v3, .int v4] σ (f_X11_dripped N v1 v2 v3 v4 σ) := by
  refine zM_of hO (by decide) (Nat.le_of_ble_eq_true rfl) (fun G hG C => ?_)
  subst hG
  unfold f_X11_dripped
  refine zx_sub (L1 := [(0, .ref (ad 0)), (1, .int v1), (2, .int v2), (3, .int v3), (4, .int v4)]) [0, 1, 2, 3, 4] rfl ?_
  refine zx_aload_n C 0 dX11_dripped_0 rfl rfl ?_
  refine zx_iload_n C 1 dX11_dripped_1 rfl rfl ?_
  refine zx_callV (As := [.int v1]) (st := []) C yk_X11_isCandle q_796 q_798 q_19 (by decide) rfl rfl (k_X11_isCandle C.hO N v1 σ) (by decide) rfl rfl (Nat.le_of_ble_eq_true rfl) dX11_dripped_2 (fun _ r_13 t_14 => ?_) (fun h9 => nomatch h9)
  refine zx_if_eq (tgt := 15) C dX11_dripped_5 (by decide) (fun h_15 => ?_) (fun h_15 => ?_)
  · exact zx_sub (L1 := [(0, .ref (ad 0))]) [0] rfl (b_X11_dripped_15 C N t_14)
  · refine zx_iload_n C 2 dX11_dripped_8 rfl rfl ?_
    refine zx_callS (av := [.int v2]) (st := []) C yk_X11_isOne q_790 q_791 (k_X11_isOne C.hO N v2 t_14) (by decide) rfl rfl (Nat.le_of_ble_eq_true rfl) dX11_dripped_9 (fun _ r_16 t_17 => ?_) (fun h9 => nomatch h9)
    refine zx_if_ne (tgt := 21) C dX11_dripped_12 (by decide) (fun h_18 => ?_) (fun h_18 => ?_)
    · refine zx_iload C 4 dX11_dripped_21 rfl ?_
      refine zx_iconst (v := 0) C dX11_dripped_23 (by decide) ?_
      refine zx_iconst (v := 1) C dX11_dripped_24 (by decide) ?_
      refine zx_callS (av := [.int v4, .int (0 : Int32), .int (1 : Int32)]) (st := []) C yk_X11_isIn q_767 q_768 (k_X11_isIn C.hO N v4 (0 : Int32) (1 : Int32) t_17) (by decide) rfl rfl (Nat.le_of_ble_eq_true rfl) dX11_dripped_25 (fun _ r_19 t_20 => ?_) (fun h9 => nomatch h9)
      refine zx_if_ne (tgt := 38) C dX11_dripped_28 (by decide) (fun h_21 => ?_) (fun h_21 => ?_)
      · refine zx_iload_n C 3 dX11_dripped_38 rfl rfl ?_
        refine zx_if_ge (tgt := 49) C dX11_dripped_39 (by decide) (fun h_22 => ?_) (fun h_22 => ?_)
        · refine zx_aload_n C 0 dX11_dripped_49 rfl rfl ?_
          refine zx_get C 3 (by decide) rfl rfl (by decide) inX11 q_655 rfl rfl dX11_dripped_50 ?_
          refine zx_iload_n C 1 dX11_dripped_53 rfl rfl ?_
          refine zx_iald C 0 (by decide) rfl rfl dX11_dripped_54 ?_
          refine zx_n (fun z_23 => ?_)
          refine zx_istore (L1 := [(5, .int z_23), (0, .ref (ad 0)), (1, .int v1), (2, .int v2), (3, .int v3), (4, .int v4)]) C dX11_dripped_55 (by decide) rfl ?_
          refine zx_iconst (v := 0) C dX11_dripped_57 (by decide) ?_
          refine zx_istore (L1 := [(6, .int (0 : Int32)), (5, .int z_23), (0, .ref (ad 0)), (1, .int v1), (2, .int v2), (3, .int v3), (4, .int v4)]) C dX11_dripped_58 (by decide) rfl ?_
          refine zx_iconst (v := 0) C dX11_dripped_60 (by decide) ?_
          refine zx_istore (L1 := [(7, .int (0 : Int32)), (6, .int (0 : Int32)), (5, .int z_23), (0, .ref (ad 0)), (1, .int v1), (2, .int v2), (3, .int v3), (4, .int v4)]) C dX11_dripped_61 (by decide) rfl ?_
          refine zx_bipush (v := -9) C dX11_dripped_63 (by decide) ?_
          refine zx_istore (L1 := [(8, .int (-9 : Int32)), (7, .int (0 : Int32)), (6, .int (0 : Int32)), (5, .int z_23), (0, .ref (ad 0)), (1, .int v1), (2, .int v2), (3, .int v3), (4, .int v4)]) C dX11_dripped_65 (by decide) rfl ?_
          refine zx_iconst (v := 0) C dX11_dripped_67 (by decide) ?_
          refine zx_istore (L1 := [(9, .int (0 : Int32)), (8, .int (-9 : Int32)), (7, .int (0 : Int32)), (6, .int (0 : Int32)), (5, .int z_23), (0, .ref (ad 0)), (1, .int v1), (2, .int v2), (3, .int v3), (4, .int v4)]) C dX11_dripped_68 (by decide) rfl ?_
          exact zx_sub (L1 := [(0, .ref (ad 0)), (1, .int v1), (2, .int v2), (3, .int v3), (4, .int v4), (5, .int z_23), (6, .int (0 : Int32)), (7, .int (0 : Int32)), (8, .int (-9 : Int32)), (9, .int (0 : Int32))]) [5, 6, 7, 8, 9, 4, 3, 2, 1, 0] rfl (l_X11_dripped_70 C N N v1 v2 v3 v4 z_23 (0 : Int32) (0 : Int32) (-9 : Int32) (0 : Int32) t_20)
        · refine zx_aload_n C 0 dX11_dripped_42 rfl rfl ?_
          refine zx_bipush (v := -4) C dX11_dripped_43 (by decide) ?_
          refine zx_callV (As := [.int (-4 : Int32)]) (st := []) C yk_X11_no q_747 q_749 q_10 (by decide) rfl rfl (k_X11_no C.hO N (-4 : Int32) t_20) (by decide) rfl rfl (Nat.le_of_ble_eq_true rfl) dX11_dripped_45 (fun _ r_24 t_25 => ?_) (fun h9 => nomatch h9)
          exact zx_iret C dX11_dripped_48
      · refine zx_aload_n C 0 dX11_dripped_31 rfl rfl ?_
        refine zx_bipush (v := -2) C dX11_dripped_32 (by decide) ?_
        refine zx_callV (As := [.int (-2 : Int32)]) (st := []) C yk_X11_no q_747 q_749 q_10 (by decide) rfl rfl (k_X11_no C.hO N (-2 : Int32) t_20) (by decide) rfl rfl (Nat.le_of_ble_eq_true rfl) dX11_dripped_34 (fun _ r_26 t_27 => ?_) (fun h9 => nomatch h9)
        exact zx_iret C dX11_dripped_37
    · exact zx_sub (L1 := [(0, .ref (ad 0))]) [0] rfl (b_X11_dripped_15 C N t_17)
def bf_X11_row_25 (N : Nat) (v1 : Int32) (v2 : Int32) (σ : zS) : zA := (if v2 = (0 : Int32) then z_g (z_in (σ 0 28) 6) (z_m (z_put σ 15 (σ 0 28).toNatClampNeg v1) (fun t_2 => z_m (z_put t_2 0 28 ((t_2 0 28) + (1 : Int32))) (fun t_3 => some ((t_3 0 28), t_3)))) else z_b (f_X11_no N v2 σ) (fun r_4 t_5 => some (r_4, t_5)))
set_option maxHeartbeats 4000000 in
set_option maxRecDepth 100000 in
theorem b_X11_row_25 {G : zG} {dC : Nat → ClassId} {dI : Nat → Nat → Nat} {A : Nat → Prop} {ad : Nat → Nat} {cI cC cW : ClassId} (C : zC G dC dI A 16 ad (cfM ad cI) (z_ty cI cC cW) cX11_row RX11 3 1 (some .int)) (N : Nat) (v1 : Int32) (v2 : Int32) (σ : zS) : zW G dC dI A 16 ad (cfM ad cI) 3 true (bf_X11_row_25 N  v1 v2 σ) σ 25 [(0, .ref (ad 0)), (1, .int v1), (2, .int v2)] [] := by
  unfold bf_X11_row_25
  refine zx_iload_n C 2 dX11_row_25 rfl rfl ?_
  refine zx_if_eq (tgt := 35) C dX11_row_26 (by decide) (fun h_1 => ?_) (fun h_1 => ?_)
  · refine zx_aload_n C 0 dX11_row_35 rfl rfl ?_
    refine zx_get C 27 (by decide) rfl rfl (by decide) inX11 q_679 rfl rfl dX11_row_36 ?_
    refine zx_aload_n C 0 dX11_row_39 rfl rfl ?_
    refine zx_get C 28 (by decide) rfl rfl (by decide) inX11 q_680 rfl rfl dX11_row_40 ?_
    refine zx_iload_n C 1 dX11_row_43 rfl rfl ?_
    refine zx_iast C 0 (by decide) (fun _ => rfl) rfl dX11_row_44 (fun t_2 => ?_)
    refine zx_aload_n C 0 dX11_row_45 rfl rfl ?_
    refine zx_dup C dX11_row_46 rfl ?_
    refine zx_get C 28 (by decide) rfl rfl (by decide) inX11 q_680 rfl rfl dX11_row_47 ?_
    refine zx_iconst (v := 1) C dX11_row_50 (by decide) ?_
    refine zx_iadd C dX11_row_51 ?_
    refine zx_put (ty := .int) C 28 (by decide) rfl rfl (by decide) inX11 tyX11 tyX11_ok nmX11 q_680 rfl rfl (by decide +kernel) rfl rfl (Nat.le_of_ble_eq_true rfl) (by rfl) dX11_row_52 (fun t_3 => ?_)
    refine zx_aload_n C 0 dX11_row_55 rfl rfl ?_
    refine zx_get C 28 (by decide) rfl rfl (by decide) inX11 q_680 rfl rfl dX11_row_56 ?_
    exact zx_iret C dX11_row_59
  · refine zx_aload_n C 0 dX11_row_29 rfl rfl ?_
    refine zx_iload_n C 2 dX11_row_30 rfl rfl ?_
    refine zx_callV (As := [.int v2]) (st := []) C yk_X11_no q_747 q_749 q_10 (by decide) rfl rfl (k_X11_no C.hO N v2 σ) (by decide) rfl rfl (Nat.le_of_ble_eq_true rfl) dX11_row_31 (fun _ r_4 t_5 => ?_) (fun h9 => nomatch h9)
    exact zx_iret C dX11_row_34
def f_X11_row (N : Nat) (v1 : Int32) (σ : zS) : zA := z_b (f_X11_bound N v1 (0 : Int32) (999 : Int32) σ) (fun r_6 t_7 => (if r_6 = (0 : Int32) then (if (t_7 0 28) = (6 : Int32) then (bf_X11_row_25 N v1 (-6 : Int32) t_7) else (bf_X11_row_25 N v1 r_6 t_7)) else (bf_X11_row_25 N v1 r_6 t_7)))
set_option maxHeartbeats 4000000 in
set_option maxRecDepth 100000 in
theorem k_X11_row {l : Launch} {dC : Nat → ClassId} {dI : Nat → Nat → Nat} {A : Nat → Prop} {ad : Nat → Nat} {cI cC cW : ClassId} (hO : zO A 16 ad (cfM ad cI)) (N : Nat) (v1 : Int32) (σ : zS) : zM l dC dI A 16 ad (cfM ad cI) (z_ty cI cC cW) true yX11_row cX11_row 3 (some .int) 1 [.ref (ad 0), .int v1] σ (f_X11_row N v1 σ) := by
  refine zM_of hO (by decide) (Nat.le_of_ble_eq_true rfl) (fun G hG C => ?_)
  subst hG
  unfold f_X11_row
  refine zx_sub (L1 := [(0, .ref (ad 0)), (1, .int v1)]) [0, 1] rfl ?_
  refine zx_iload_n C 1 dX11_row_0 rfl rfl ?_
  refine zx_iconst (v := 0) C dX11_row_1 (by decide) ?_
  refine zx_sipush (v := 999) C dX11_row_2 (by decide) ?_
  refine zx_callS (av := [.int v1, .int (0 : Int32), .int (999 : Int32)]) (st := []) C yk_X11_bound q_744 q_745 (k_X11_bound C.hO N v1 (0 : Int32) (999 : Int32) σ) (by decide) rfl rfl (Nat.le_of_ble_eq_true rfl) dX11_row_5 (fun _ r_6 t_7 => ?_) (fun h9 => nomatch h9)
  refine zx_istore_n (L1 := [(2, .int r_6), (0, .ref (ad 0)), (1, .int v1)]) C dX11_row_8 rfl (by decide) rfl ?_
  refine zx_iload_n C 0 dX11_row_9 rfl rfl ?_
  refine zx_if_ne (tgt := 25) C dX11_row_10 (by decide) (fun h_8 => ?_) (fun h_8 => ?_)
  · exact zx_sub (L1 := [(0, .ref (ad 0)), (1, .int v1), (2, .int r_6)]) [1, 2, 0] rfl (b_X11_row_25 C N v1 r_6 t_7)
  · refine zx_aload_n C 1 dX11_row_13 rfl rfl ?_
    refine zx_get C 28 (by decide) rfl rfl (by decide) inX11 q_680 rfl rfl dX11_row_14 ?_
    refine zx_bipush (v := 6) C dX11_row_17 (by decide) ?_
    refine zx_icmp_ne (tgt := 25) C dX11_row_19 (by decide) (fun h_9 => ?_) (fun h_9 => ?_)
    · exact zx_sub (L1 := [(0, .ref (ad 0)), (1, .int v1), (2, .int r_6)]) [1, 2, 0] rfl (b_X11_row_25 C N v1 r_6 t_7)
    · refine zx_bipush (v := -6) C dX11_row_22 (by decide) ?_
      refine zx_istore_n (L1 := [(2, .int (-6 : Int32)), (0, .ref (ad 0)), (1, .int v1)]) C dX11_row_24 rfl (by decide) rfl ?_
      exact zx_sub (L1 := [(0, .ref (ad 0)), (1, .int v1), (2, .int (-6 : Int32))]) [1, 2, 0] rfl (b_X11_row_25 C N v1 (-6 : Int32) t_7)
def bf_X11_judge_21 (N : Nat) (rec21 : Int32 → Int32 → Int32 → zS → zA) (v1 : Int32) (v2 : Int32) (v3 : Int32) (σ : zS) : zA := (if v2 ≤ v3 then (if v1 = (σ 0 9) then some ((-9 : Int32), σ) else some (v2, σ)) else z_g (z_in v3 6) (z_g (z_in v3 6) ((if (σ 15 v3.toNatClampNeg) = (σ 3 v3.toNatClampNeg) then (rec21 v1 v2 (v3 + (1 : Int32)) σ) else some (v3, σ)))))
set_option maxHeartbeats 4000000 in
set_option maxRecDepth 100000 in
theorem b_X11_judge_21 {G : zG} {dC : Nat → ClassId} {dI : Nat → Nat → Nat} {A : Nat → Prop} {ad : Nat → Nat} {cI cC cW : ClassId} (C : zC G dC dI A 16 ad (cfM ad cI) (z_ty cI cC cW) cX11_judge RX11 4 1 (some .int)) (N : Nat) (rec21 : Int32 → Int32 → Int32 → zS → zA) (hrec21 : ∀ (v1 : Int32) (v2 : Int32) (v3 : Int32) (σ : zS), zW G dC dI A 16 ad (cfM ad cI) 4 true (rec21 v1 v2 v3 σ) σ 21 [(0, .ref (ad 0)), (1, .int v1), (2, .int v2), (3, .int v3)] []) (v1 : Int32) (v2 : Int32) (v3 : Int32) (σ : zS) : zW G dC dI A 16 ad (cfM ad cI) 4 true (bf_X11_judge_21 N rec21 v1 v2 v3 σ) σ 21 [(0, .ref (ad 0)), (1, .int v1), (2, .int v2), (3, .int v3)] [] := by
  unfold bf_X11_judge_21
  refine zx_iload_n C 3 dX11_judge_21 rfl rfl ?_
  refine zx_iload_n C 2 dX11_judge_22 rfl rfl ?_
  refine zx_icmp_ge (tgt := 49) C dX11_judge_23 (by decide) (fun h_1 => ?_) (fun h_1 => ?_)
  · refine zx_iload_n C 1 dX11_judge_49 rfl rfl ?_
    refine zx_aload_n C 0 dX11_judge_50 rfl rfl ?_
    refine zx_get C 9 (by decide) rfl rfl (by decide) inX11 q_661 rfl rfl dX11_judge_51 ?_
    refine zx_icmp_ne (tgt := 62) C dX11_judge_54 (by decide) (fun h_2 => ?_) (fun h_2 => ?_)
    · refine zx_iload_n C 2 dX11_judge_62 rfl rfl ?_
      exact zx_iret C dX11_judge_63
    · refine zx_bipush (v := -9) C dX11_judge_57 (by decide) ?_
      refine zx_goto (tgt := 63) C dX11_judge_59 (by decide) ?_
      exact zx_iret C dX11_judge_63
  · refine zx_aload_n C 0 dX11_judge_26 rfl rfl ?_
    refine zx_get C 27 (by decide) rfl rfl (by decide) inX11 q_679 rfl rfl dX11_judge_27 ?_
    refine zx_iload_n C 3 dX11_judge_30 rfl rfl ?_
    refine zx_iald C 0 (by decide) rfl rfl dX11_judge_31 ?_
    refine zx_aload_n C 0 dX11_judge_32 rfl rfl ?_
    refine zx_get C 3 (by decide) rfl rfl (by decide) inX11 q_655 rfl rfl dX11_judge_33 ?_
    refine zx_iload_n C 3 dX11_judge_36 rfl rfl ?_
    refine zx_iald C 0 (by decide) rfl rfl dX11_judge_37 ?_
    refine zx_icmp_eq (tgt := 43) C dX11_judge_38 (by decide) (fun h_3 => ?_) (fun h_3 => ?_)
    · refine zx_iinc (v := (v3 + (1 : Int32))) (L1 := [(3, .int (v3 + (1 : Int32))), (0, .ref (ad 0)), (1, .int v1), (2, .int v2)]) C 3 dX11_judge_43 rfl rfl (by decide) rfl ?_
      refine zx_goto (tgt := 21) C dX11_judge_46 (by decide) ?_
      exact zx_sub (L1 := [(0, .ref (ad 0)), (1, .int v1), (2, .int v2), (3, .int (v3 + (1 : Int32)))]) [1, 2, 3, 0] rfl (hrec21 v1 v2 (v3 + (1 : Int32)) σ)
    · refine zx_iload_n C 3 dX11_judge_41 rfl rfl ?_
      exact zx_iret C dX11_judge_42
def lf_X11_judge_21 (N : Nat) : Nat → Int32 → Int32 → Int32 → zS → zA
  | 0, _, _, _, _ => none
  | n + 1, v1, v2, v3, σ => bf_X11_judge_21 N (lf_X11_judge_21 N  n) v1 v2 v3 σ
theorem l_X11_judge_21 {G : zG} {dC : Nat → ClassId} {dI : Nat → Nat → Nat} {A : Nat → Prop} {ad : Nat → Nat} {cI cC cW : ClassId} (C : zC G dC dI A 16 ad (cfM ad cI) (z_ty cI cC cW) cX11_judge RX11 4 1 (some .int)) (N : Nat) : ∀ (n : Nat) (v1 : Int32) (v2 : Int32) (v3 : Int32) (σ : zS), zW G dC dI A 16 ad (cfM ad cI) 4 true (lf_X11_judge_21 N  n v1 v2 v3 σ) σ 21 [(0, .ref (ad 0)), (1, .int v1), (2, .int v2), (3, .int v3)] [] := by
  intro n
  induction n with
  | zero => intro v1 v2 v3 σ; exact zx_none
  | succ n ih => intro v1 v2 v3 σ; exact b_X11_judge_21 C N (lf_X11_judge_21 N  n) ih v1 v2 v3 σ
def f_X11_judge (N : Nat) (σ : zS) : zA := z_n (σ 0 28) (fun z_4 => z_m (z_put σ 0 28 (0 : Int32)) (fun t_5 => z_b (f_X11_least N z_4 (t_5 0 9) t_5) (fun r_6 t_7 => (lf_X11_judge_21 N N z_4 r_6 (0 : Int32) t_7))))
set_option maxHeartbeats 4000000 in
set_option maxRecDepth 100000 in
theorem k_X11_judge {l : Launch} {dC : Nat → ClassId} {dI : Nat → Nat → Nat} {A : Nat → Prop} {ad : Nat → Nat} {cI cC cW : ClassId} (hO : zO A 16 ad (cfM ad cI)) (N : Nat) (σ : zS) : zM l dC dI A 16 ad (cfM ad cI) (z_ty cI cC cW) true yX11_judge cX11_judge 4 (some .int) 1 [.ref (ad 0)] σ (f_X11_judge N  σ) := by
  refine zM_of hO (by decide) (Nat.le_of_ble_eq_true rfl) (fun G hG C => ?_)
  subst hG
  unfold f_X11_judge
  refine zx_sub (L1 := [(0, .ref (ad 0))]) [0] rfl ?_
  refine zx_aload_n C 0 dX11_judge_0 rfl rfl ?_
  refine zx_get C 28 (by decide) rfl rfl (by decide) inX11 q_680 rfl rfl dX11_judge_1 ?_
  refine zx_n (fun z_4 => ?_)
  refine zx_istore_n (L1 := [(1, .int z_4), (0, .ref (ad 0))]) C dX11_judge_4 rfl (by decide) rfl ?_
  refine zx_aload_n C 1 dX11_judge_5 rfl rfl ?_
  refine zx_iconst (v := 0) C dX11_judge_6 (by decide) ?_
  refine zx_put (ty := .int) C 28 (by decide) rfl rfl (by decide) inX11 tyX11 tyX11_ok nmX11 q_680 rfl rfl (by decide +kernel) rfl rfl (Nat.le_of_ble_eq_true rfl) (by rfl) dX11_judge_7 (fun t_5 => ?_)
  refine zx_iload_n C 0 dX11_judge_10 rfl rfl ?_
  refine zx_aload_n C 1 dX11_judge_11 rfl rfl ?_
  refine zx_get C 9 (by decide) rfl rfl (by decide) inX11 q_661 rfl rfl dX11_judge_12 ?_
  refine zx_callS (av := [.int z_4, .int (t_5 0 9)]) (st := []) C yk_X11_least q_819 q_820 (k_X11_least C.hO N z_4 (t_5 0 9) t_5) (by decide) rfl rfl (Nat.le_of_ble_eq_true rfl) dX11_judge_15 (fun _ r_6 t_7 => ?_) (fun h9 => nomatch h9)
  refine zx_istore_n (L1 := [(2, .int r_6), (1, .int z_4), (0, .ref (ad 0))]) C dX11_judge_18 rfl (by decide) rfl ?_
  refine zx_iconst (v := 0) C dX11_judge_19 (by decide) ?_
  refine zx_istore_n (L1 := [(3, .int (0 : Int32)), (2, .int r_6), (1, .int z_4), (0, .ref (ad 0))]) C dX11_judge_20 rfl (by decide) rfl ?_
  exact zx_sub (L1 := [(0, .ref (ad 0)), (1, .int z_4), (2, .int r_6), (3, .int (0 : Int32))]) [3, 2, 1, 0] rfl (l_X11_judge_21 C N N z_4 r_6 (0 : Int32) t_7)
def bf_X11_grainsOfAll_4 (N : Nat) (rec4 : Int32 → Int32 → zS → zA) (v1 : Int32) (v2 : Int32) (σ : zS) : zA := (if (σ 0 9) ≤ v2 then some (v1, σ) else z_g (z_in v2 6) (z_n (v1 + (σ 3 v2.toNatClampNeg)) (fun z_2 => (rec4 z_2 (v2 + (1 : Int32)) σ))))
set_option maxHeartbeats 4000000 in
set_option maxRecDepth 100000 in
theorem b_X11_grainsOfAll_4 {G : zG} {dC : Nat → ClassId} {dI : Nat → Nat → Nat} {A : Nat → Prop} {ad : Nat → Nat} {cI cC cW : ClassId} (C : zC G dC dI A 16 ad (cfM ad cI) (z_ty cI cC cW) cX11_grainsOfAll RX11 3 0 (some .int)) (N : Nat) (rec4 : Int32 → Int32 → zS → zA) (hrec4 : ∀ (v1 : Int32) (v2 : Int32) (σ : zS), zW G dC dI A 16 ad (cfM ad cI) 3 true (rec4 v1 v2 σ) σ 4 [(0, .ref (ad 0)), (1, .int v1), (2, .int v2)] []) (v1 : Int32) (v2 : Int32) (σ : zS) : zW G dC dI A 16 ad (cfM ad cI) 3 true (bf_X11_grainsOfAll_4 N rec4 v1 v2 σ) σ 4 [(0, .ref (ad 0)), (1, .int v1), (2, .int v2)] [] := by
  unfold bf_X11_grainsOfAll_4
  refine zx_iload_n C 2 dX11_grainsOfAll_4 rfl rfl ?_
  refine zx_aload_n C 0 dX11_grainsOfAll_5 rfl rfl ?_
  refine zx_get C 9 (by decide) rfl rfl (by decide) inX11 q_661 rfl rfl dX11_grainsOfAll_6 ?_
  refine zx_icmp_ge (tgt := 27) C dX11_grainsOfAll_9 (by decide) (fun h_1 => ?_) (fun h_1 => ?_)
  · refine zx_iload_n C 1 dX11_grainsOfAll_27 rfl rfl ?_
    exact zx_iret C dX11_grainsOfAll_28
  · refine zx_iload_n C 1 dX11_grainsOfAll_12 rfl rfl ?_
    refine zx_aload_n C 0 dX11_grainsOfAll_13 rfl rfl ?_
    refine zx_get C 3 (by decide) rfl rfl (by decide) inX11 q_655 rfl rfl dX11_grainsOfAll_14 ?_
    refine zx_iload_n C 2 dX11_grainsOfAll_17 rfl rfl ?_
    refine zx_iald C 0 (by decide) rfl rfl dX11_grainsOfAll_18 ?_
    refine zx_iadd C dX11_grainsOfAll_19 ?_
    refine zx_n (fun z_2 => ?_)
    refine zx_istore_n (L1 := [(1, .int z_2), (0, .ref (ad 0)), (2, .int v2)]) C dX11_grainsOfAll_20 rfl (by decide) rfl ?_
    refine zx_iinc (v := (v2 + (1 : Int32))) (L1 := [(2, .int (v2 + (1 : Int32))), (1, .int z_2), (0, .ref (ad 0))]) C 2 dX11_grainsOfAll_21 rfl rfl (by decide) rfl ?_
    refine zx_goto (tgt := 4) C dX11_grainsOfAll_24 (by decide) ?_
    exact zx_sub (L1 := [(0, .ref (ad 0)), (1, .int z_2), (2, .int (v2 + (1 : Int32)))]) [2, 1, 0] rfl (hrec4 z_2 (v2 + (1 : Int32)) σ)
def lf_X11_grainsOfAll_4 (N : Nat) : Nat → Int32 → Int32 → zS → zA
  | 0, _, _, _ => none
  | n + 1, v1, v2, σ => bf_X11_grainsOfAll_4 N (lf_X11_grainsOfAll_4 N  n) v1 v2 σ
theorem l_X11_grainsOfAll_4 {G : zG} {dC : Nat → ClassId} {dI : Nat → Nat → Nat} {A : Nat → Prop} {ad : Nat → Nat} {cI cC cW : ClassId} (C : zC G dC dI A 16 ad (cfM ad cI) (z_ty cI cC cW) cX11_grainsOfAll RX11 3 0 (some .int)) (N : Nat) : ∀ (n : Nat) (v1 : Int32) (v2 : Int32) (σ : zS), zW G dC dI A 16 ad (cfM ad cI) 3 true (lf_X11_grainsOfAll_4 N  n v1 v2 σ) σ 4 [(0, .ref (ad 0)), (1, .int v1), (2, .int v2)] [] := by
  intro n
  induction n with
  | zero => intro v1 v2 σ; exact zx_none
  | succ n ih => intro v1 v2 σ; exact b_X11_grainsOfAll_4 C N (lf_X11_grainsOfAll_4 N  n) ih v1 v2 σ
def f_X11_grainsOfAll (N : Nat) (σ : zS) : zA := (lf_X11_grainsOfAll_4 N N (0 : Int32) (0 : Int32) σ)
set_option maxHeartbeats 4000000 in
set_option maxRecDepth 100000 in
theorem k_X11_grainsOfAll {l : Launch} {dC : Nat → ClassId} {dI : Nat → Nat → Nat} {A : Nat → Prop} {ad : Nat → Nat} {cI cC cW : ClassId} (hO : zO A 16 ad (cfM ad cI)) (N : Nat) (σ : zS) : zM l dC dI A 16 ad (cfM ad cI) (z_ty cI cC cW) true yX11_grainsOfAll cX11_grainsOfAll 3 (some .int) 0 [.ref (ad 0)] σ (f_X11_grainsOfAll N  σ) := by
  refine zM_of hO (by decide) (Nat.le_of_ble_eq_true rfl) (fun G hG C => ?_)
  subst hG
  unfold f_X11_grainsOfAll
  refine zx_sub (L1 := [(0, .ref (ad 0))]) [0] rfl ?_
  refine zx_iconst (v := 0) C dX11_grainsOfAll_0 (by decide) ?_
  refine zx_istore_n (L1 := [(1, .int (0 : Int32)), (0, .ref (ad 0))]) C dX11_grainsOfAll_1 rfl (by decide) rfl ?_
  refine zx_iconst (v := 0) C dX11_grainsOfAll_2 (by decide) ?_
  refine zx_istore_n (L1 := [(2, .int (0 : Int32)), (1, .int (0 : Int32)), (0, .ref (ad 0))]) C dX11_grainsOfAll_3 rfl (by decide) rfl ?_
  exact zx_sub (L1 := [(0, .ref (ad 0)), (1, .int (0 : Int32)), (2, .int (0 : Int32))]) [2, 1, 0] rfl (l_X11_grainsOfAll_4 C N N (0 : Int32) (0 : Int32) σ)
def bf_X11_seeds_44 (N : Nat) (rec44 : Int32 → Int32 → Int32 → zS → zA) (v1 : Int32) (v4 : Int32) (v5 : Int32) (σ : zS) : zA := (if v1 ≤ v5 then z_b (f_X11_grainsOfAll N σ) (fun r_2 t_3 => z_b (f_X11_passesAll N (1 : Int32) (0 : Int32) t_3) (fun r_4 t_5 => some (r_2, t_5))) else z_n ((v4 * (1103515245 : Int32)) + (12345 : Int32)) (fun z_6 => z_g (z_nz (σ 0 9)) (z_n (((z_6 &&& (2147483647 : Int32)) / (65536 : Int32)) - ((z_6 &&& (2147483647 : Int32)) / (65536 : Int32)) / (σ 0 9) * (σ 0 9)) (fun z_7 => z_g (z_in z_7 6) (z_g (z_in z_7 6) (z_m (z_put σ 6 z_7.toNatClampNeg ((1 : Int32) - (σ 6 z_7.toNatClampNeg))) (fun t_8 => z_b (f_X11_goesMinute N t_8) (fun r_9 t_10 => (rec44 v1 z_6 (v5 + (1 : Int32)) t_10)))))))))
set_option maxHeartbeats 4000000 in
set_option maxRecDepth 100000 in
theorem b_X11_seeds_44 {G : zG} {dC : Nat → ClassId} {dI : Nat → Nat → Nat} {A : Nat → Prop} {ad : Nat → Nat} {cI cC cW : ClassId} (C : zC G dC dI A 16 ad (cfM ad cI) (z_ty cI cC cW) cX11_seeds RX11 7 6 (some .int)) (N : Nat) (rec44 : Int32 → Int32 → Int32 → zS → zA) (hrec44 : ∀ (v1 : Int32) (v4 : Int32) (v5 : Int32) (σ : zS), zW G dC dI A 16 ad (cfM ad cI) 7 true (rec44 v1 v4 v5 σ) σ 44 [(0, .ref (ad 0)), (1, .int v1), (4, .int v4), (5, .int v5)] []) (v1 : Int32) (v4 : Int32) (v5 : Int32) (σ : zS) : zW G dC dI A 16 ad (cfM ad cI) 7 true (bf_X11_seeds_44 N rec44 v1 v4 v5 σ) σ 44 [(0, .ref (ad 0)), (1, .int v1), (4, .int v4), (5, .int v5)] [] := by
  unfold bf_X11_seeds_44
  refine zx_iload C 3 dX11_seeds_44 rfl ?_
  refine zx_iload_n C 1 dX11_seeds_46 rfl rfl ?_
  refine zx_icmp_ge (tgt := 102) C dX11_seeds_47 (by decide) (fun h_1 => ?_) (fun h_1 => ?_)
  · refine zx_aload_n C 0 dX11_seeds_102 rfl rfl ?_
    refine zx_callV (As := []) (st := []) C yk_X11_grainsOfAll q_974 q_976 q_34 (by decide) rfl rfl (k_X11_grainsOfAll C.hO N σ) (by decide) rfl rfl (Nat.le_of_ble_eq_true rfl) dX11_seeds_103 (fun _ r_2 t_3 => ?_) (fun h9 => nomatch h9)
    refine zx_istore (L1 := [(5, .int r_2), (0, .ref (ad 0)), (1, .int v1), (4, .int v4)]) C dX11_seeds_106 (by decide) rfl ?_
    refine zx_aload_n C 1 dX11_seeds_108 rfl rfl ?_
    refine zx_iconst (v := 1) C dX11_seeds_109 (by decide) ?_
    refine zx_iconst (v := 0) C dX11_seeds_110 (by decide) ?_
    refine zx_callV (As := [.int (1 : Int32), .int (0 : Int32)]) (st := []) C yk_X11_passesAll q_770 q_772 q_14 (by decide) rfl rfl (k_X11_passesAll C.hO N (1 : Int32) (0 : Int32) t_3) (by decide) rfl rfl (Nat.le_of_ble_eq_true rfl) dX11_seeds_111 (fun h9 => nomatch h9) (fun _ r_4 t_5 => ?_)
    refine zx_iload C 0 dX11_seeds_114 rfl ?_
    exact zx_iret C dX11_seeds_116
  · refine zx_iload C 2 dX11_seeds_50 rfl ?_
    refine zx_ldc (v := 1103515245) C dX11_seeds_52 q_971 ?_
    refine zx_imul C dX11_seeds_54 ?_
    refine zx_sipush (v := 12345) C dX11_seeds_55 (by decide) ?_
    refine zx_iadd C dX11_seeds_58 ?_
    refine zx_n (fun z_6 => ?_)
    refine zx_istore (L1 := [(4, .int z_6), (0, .ref (ad 0)), (1, .int v1), (5, .int v5)]) C dX11_seeds_59 (by decide) rfl ?_
    refine zx_iload C 0 dX11_seeds_61 rfl ?_
    refine zx_ldc (v := 2147483647) C dX11_seeds_63 q_972 ?_
    refine zx_iand C dX11_seeds_65 ?_
    refine zx_ldc (v := 65536) C dX11_seeds_66 q_973 ?_
    refine zx_idiv C dX11_seeds_68 (by decide) ?_
    refine zx_aload_n C 1 dX11_seeds_69 rfl rfl ?_
    refine zx_get C 9 (by decide) rfl rfl (by decide) inX11 q_661 rfl rfl dX11_seeds_70 ?_
    refine zx_iremg C dX11_seeds_73 ?_
    refine zx_n (fun z_7 => ?_)
    refine zx_istore (L1 := [(6, .int z_7), (4, .int z_6), (0, .ref (ad 0)), (1, .int v1), (5, .int v5)]) C dX11_seeds_74 (by decide) rfl ?_
    refine zx_aload_n C 2 dX11_seeds_76 rfl rfl ?_
    refine zx_get C 6 (by decide) rfl rfl (by decide) inX11 q_658 rfl rfl dX11_seeds_77 ?_
    refine zx_iload C 0 dX11_seeds_80 rfl ?_
    refine zx_iconst (v := 1) C dX11_seeds_82 (by decide) ?_
    refine zx_aload_n C 2 dX11_seeds_83 rfl rfl ?_
    refine zx_get C 6 (by decide) rfl rfl (by decide) inX11 q_658 rfl rfl dX11_seeds_84 ?_
    refine zx_iload C 0 dX11_seeds_87 rfl ?_
    refine zx_iald C 0 (by decide) rfl rfl dX11_seeds_89 ?_
    refine zx_isub C dX11_seeds_90 ?_
    refine zx_iast C 0 (by decide) (fun _ => rfl) rfl dX11_seeds_91 (fun t_8 => ?_)
    refine zx_aload_n C 2 dX11_seeds_92 rfl rfl ?_
    refine zx_callV (As := []) (st := []) C yk_X11_goesMinute q_864 q_866 q_24 (by decide) rfl rfl (k_X11_goesMinute C.hO N t_8) (by decide) rfl rfl (Nat.le_of_ble_eq_true rfl) dX11_seeds_93 (fun h9 => nomatch h9) (fun _ r_9 t_10 => ?_)
    refine zx_iinc (v := (v5 + (1 : Int32))) (L1 := [(5, .int (v5 + (1 : Int32))), (6, .int z_7), (4, .int z_6), (0, .ref (ad 0)), (1, .int v1)]) C 4 dX11_seeds_96 rfl rfl (by decide) rfl ?_
    refine zx_goto (tgt := 44) C dX11_seeds_99 (by decide) ?_
    exact zx_sub (L1 := [(0, .ref (ad 0)), (1, .int v1), (4, .int z_6), (5, .int (v5 + (1 : Int32)))]) [3, 4, 2, 0] rfl (hrec44 v1 z_6 (v5 + (1 : Int32)) t_10)
def lf_X11_seeds_44 (N : Nat) : Nat → Int32 → Int32 → Int32 → zS → zA
  | 0, _, _, _, _ => none
  | n + 1, v1, v4, v5, σ => bf_X11_seeds_44 N (lf_X11_seeds_44 N  n) v1 v4 v5 σ
theorem l_X11_seeds_44 {G : zG} {dC : Nat → ClassId} {dI : Nat → Nat → Nat} {A : Nat → Prop} {ad : Nat → Nat} {cI cC cW : ClassId} (C : zC G dC dI A 16 ad (cfM ad cI) (z_ty cI cC cW) cX11_seeds RX11 7 6 (some .int)) (N : Nat) : ∀ (n : Nat) (v1 : Int32) (v4 : Int32) (v5 : Int32) (σ : zS), zW G dC dI A 16 ad (cfM ad cI) 7 true (lf_X11_seeds_44 N  n v1 v4 v5 σ) σ 44 [(0, .ref (ad 0)), (1, .int v1), (4, .int v4), (5, .int v5)] [] := by
  intro n
  induction n with
  | zero => intro v1 v4 v5 σ; exact zx_none
  | succ n ih => intro v1 v4 v5 σ; exact b_X11_seeds_44 C N (lf_X11_seeds_44 N  n) ih v1 v4 v5 σ
def bf_X11_seeds_22 (N : Nat) (v1 : Int32) (v2 : Int32) (v3 : Int32) (σ : zS) : zA := (if v3 = (0 : Int32) then z_b (f_X11_passesAll N (1 : Int32) (1 : Int32) σ) (fun r_12 t_13 => (lf_X11_seeds_44 N N v1 v2 (0 : Int32) t_13)) else z_b (f_X11_no N v3 σ) (fun r_14 t_15 => some (r_14, t_15)))
set_option maxHeartbeats 4000000 in
set_option maxRecDepth 100000 in
theorem b_X11_seeds_22 {G : zG} {dC : Nat → ClassId} {dI : Nat → Nat → Nat} {A : Nat → Prop} {ad : Nat → Nat} {cI cC cW : ClassId} (C : zC G dC dI A 16 ad (cfM ad cI) (z_ty cI cC cW) cX11_seeds RX11 7 6 (some .int)) (N : Nat) (v1 : Int32) (v2 : Int32) (v3 : Int32) (σ : zS) : zW G dC dI A 16 ad (cfM ad cI) 7 true (bf_X11_seeds_22 N  v1 v2 v3 σ) σ 22 [(0, .ref (ad 0)), (1, .int v1), (2, .int v2), (3, .int v3)] [] := by
  unfold bf_X11_seeds_22
  refine zx_iload_n C 3 dX11_seeds_22 rfl rfl ?_
  refine zx_if_eq (tgt := 32) C dX11_seeds_23 (by decide) (fun h_11 => ?_) (fun h_11 => ?_)
  · refine zx_aload_n C 0 dX11_seeds_32 rfl rfl ?_
    refine zx_iconst (v := 1) C dX11_seeds_33 (by decide) ?_
    refine zx_iconst (v := 1) C dX11_seeds_34 (by decide) ?_
    refine zx_callV (As := [.int (1 : Int32), .int (1 : Int32)]) (st := []) C yk_X11_passesAll q_770 q_772 q_14 (by decide) rfl rfl (k_X11_passesAll C.hO N (1 : Int32) (1 : Int32) σ) (by decide) rfl rfl (Nat.le_of_ble_eq_true rfl) dX11_seeds_35 (fun h9 => nomatch h9) (fun _ r_12 t_13 => ?_)
    refine zx_iload_n C 2 dX11_seeds_38 rfl rfl ?_
    refine zx_istore (L1 := [(4, .int v2), (0, .ref (ad 0)), (1, .int v1), (2, .int v2), (3, .int v3)]) C dX11_seeds_39 (by decide) rfl ?_
    refine zx_iconst (v := 0) C dX11_seeds_41 (by decide) ?_
    refine zx_istore (L1 := [(5, .int (0 : Int32)), (4, .int v2), (0, .ref (ad 0)), (1, .int v1), (2, .int v2), (3, .int v3)]) C dX11_seeds_42 (by decide) rfl ?_
    exact zx_sub (L1 := [(0, .ref (ad 0)), (1, .int v1), (4, .int v2), (5, .int (0 : Int32))]) [2, 3, 1, 0] rfl (l_X11_seeds_44 C N N v1 v2 (0 : Int32) t_13)
  · refine zx_aload_n C 0 dX11_seeds_26 rfl rfl ?_
    refine zx_iload_n C 3 dX11_seeds_27 rfl rfl ?_
    refine zx_callV (As := [.int v3]) (st := []) C yk_X11_no q_747 q_749 q_10 (by decide) rfl rfl (k_X11_no C.hO N v3 σ) (by decide) rfl rfl (Nat.le_of_ble_eq_true rfl) dX11_seeds_28 (fun _ r_14 t_15 => ?_) (fun h9 => nomatch h9)
    exact zx_iret C dX11_seeds_31
def f_X11_seeds (N : Nat) (v1 : Int32) (v2 : Int32) (σ : zS) : zA := z_b (f_X11_bound N v1 (1 : Int32) (60 : Int32) σ) (fun r_16 t_17 => (if r_16 = (0 : Int32) then (if (t_17 0 9) = (0 : Int32) then (bf_X11_seeds_22 N v1 v2 (-3 : Int32) t_17) else (bf_X11_seeds_22 N v1 v2 r_16 t_17)) else (bf_X11_seeds_22 N v1 v2 r_16 t_17)))
set_option maxHeartbeats 4000000 in
set_option maxRecDepth 100000 in
theorem k_X11_seeds {l : Launch} {dC : Nat → ClassId} {dI : Nat → Nat → Nat} {A : Nat → Prop} {ad : Nat → Nat} {cI cC cW : ClassId} (hO : zO A 16 ad (cfM ad cI)) (N : Nat) (v1 : Int32) (v2 : Int32) (σ : zS) : zM l dC dI A 16 ad (cfM ad cI) (z_ty cI cC cW) true yX11_seeds cX11_seeds 7 (some .int) 6 [.ref (ad 0), .int v1, .int v2] σ (f_X11_seeds N v1 v2 σ) := by
  refine zM_of hO (by decide) (Nat.le_of_ble_eq_true rfl) (fun G hG C => ?_)
  subst hG
  unfold f_X11_seeds
  refine zx_sub (L1 := [(0, .ref (ad 0)), (1, .int v1), (2, .int v2)]) [0, 1, 2] rfl ?_
  refine zx_iload_n C 1 dX11_seeds_0 rfl rfl ?_
  refine zx_iconst (v := 1) C dX11_seeds_1 (by decide) ?_
  refine zx_bipush (v := 60) C dX11_seeds_2 (by decide) ?_
  refine zx_callS (av := [.int v1, .int (1 : Int32), .int (60 : Int32)]) (st := []) C yk_X11_bound q_744 q_745 (k_X11_bound C.hO N v1 (1 : Int32) (60 : Int32) σ) (by decide) rfl rfl (Nat.le_of_ble_eq_true rfl) dX11_seeds_4 (fun _ r_16 t_17 => ?_) (fun h9 => nomatch h9)
  refine zx_istore_n (L1 := [(3, .int r_16), (0, .ref (ad 0)), (1, .int v1), (2, .int v2)]) C dX11_seeds_7 rfl (by decide) rfl ?_
  refine zx_iload_n C 0 dX11_seeds_8 rfl rfl ?_
  refine zx_if_ne (tgt := 22) C dX11_seeds_9 (by decide) (fun h_18 => ?_) (fun h_18 => ?_)
  · exact zx_sub (L1 := [(0, .ref (ad 0)), (1, .int v1), (2, .int v2), (3, .int r_16)]) [1, 2, 3, 0] rfl (b_X11_seeds_22 C N v1 v2 r_16 t_17)
  · refine zx_aload_n C 1 dX11_seeds_12 rfl rfl ?_
    refine zx_get C 9 (by decide) rfl rfl (by decide) inX11 q_661 rfl rfl dX11_seeds_13 ?_
    refine zx_if_ne (tgt := 22) C dX11_seeds_16 (by decide) (fun h_19 => ?_) (fun h_19 => ?_)
    · exact zx_sub (L1 := [(0, .ref (ad 0)), (1, .int v1), (2, .int v2), (3, .int r_16)]) [1, 2, 3, 0] rfl (b_X11_seeds_22 C N v1 v2 r_16 t_17)
    · refine zx_bipush (v := -3) C dX11_seeds_19 (by decide) ?_
      refine zx_istore_n (L1 := [(3, .int (-3 : Int32)), (0, .ref (ad 0)), (1, .int v1), (2, .int v2)]) C dX11_seeds_21 rfl (by decide) rfl ?_
      exact zx_sub (L1 := [(0, .ref (ad 0)), (1, .int v1), (2, .int v2), (3, .int (-3 : Int32))]) [1, 2, 3, 0] rfl (b_X11_seeds_22 C N v1 v2 (-3 : Int32) t_17)
def bf_X11_count_102 (N : Nat) (rec102 : Int32 → Int32 → zS → zA) (v2 : Int32) (v3 : Int32) (σ : zS) : zA := (if (σ 0 9) ≤ v3 then some (v2, σ) else z_g (z_in v3 6) (z_n (v2 + (σ 6 v3.toNatClampNeg)) (fun z_2 => (rec102 z_2 (v3 + (1 : Int32)) σ))))
set_option maxHeartbeats 4000000 in
set_option maxRecDepth 100000 in
theorem b_X11_count_102 {G : zG} {dC : Nat → ClassId} {dI : Nat → Nat → Nat} {A : Nat → Prop} {ad : Nat → Nat} {cI cC cW : ClassId} (C : zC G dC dI A 16 ad (cfM ad cI) (z_ty cI cC cW) cX11_count RX11 4 1 (some .int)) (N : Nat) (rec102 : Int32 → Int32 → zS → zA) (hrec102 : ∀ (v2 : Int32) (v3 : Int32) (σ : zS), zW G dC dI A 16 ad (cfM ad cI) 4 true (rec102 v2 v3 σ) σ 102 [(0, .ref (ad 0)), (2, .int v2), (3, .int v3)] []) (v2 : Int32) (v3 : Int32) (σ : zS) : zW G dC dI A 16 ad (cfM ad cI) 4 true (bf_X11_count_102 N rec102 v2 v3 σ) σ 102 [(0, .ref (ad 0)), (2, .int v2), (3, .int v3)] [] := by
  unfold bf_X11_count_102
  refine zx_iload_n C 2 dX11_count_102 rfl rfl ?_
  refine zx_aload_n C 0 dX11_count_103 rfl rfl ?_
  refine zx_get C 9 (by decide) rfl rfl (by decide) inX11 q_661 rfl rfl dX11_count_104 ?_
  refine zx_icmp_ge (tgt := 125) C dX11_count_107 (by decide) (fun h_1 => ?_) (fun h_1 => ?_)
  · refine zx_iload_n C 1 dX11_count_125 rfl rfl ?_
    exact zx_iret C dX11_count_126
  · refine zx_iload_n C 1 dX11_count_110 rfl rfl ?_
    refine zx_aload_n C 0 dX11_count_111 rfl rfl ?_
    refine zx_get C 6 (by decide) rfl rfl (by decide) inX11 q_658 rfl rfl dX11_count_112 ?_
    refine zx_iload_n C 2 dX11_count_115 rfl rfl ?_
    refine zx_iald C 0 (by decide) rfl rfl dX11_count_116 ?_
    refine zx_iadd C dX11_count_117 ?_
    refine zx_n (fun z_2 => ?_)
    refine zx_istore_n (L1 := [(2, .int z_2), (0, .ref (ad 0)), (3, .int v3)]) C dX11_count_118 rfl (by decide) rfl ?_
    refine zx_iinc (v := (v3 + (1 : Int32))) (L1 := [(3, .int (v3 + (1 : Int32))), (2, .int z_2), (0, .ref (ad 0))]) C 2 dX11_count_119 rfl rfl (by decide) rfl ?_
    refine zx_goto (tgt := 102) C dX11_count_122 (by decide) ?_
    exact zx_sub (L1 := [(0, .ref (ad 0)), (2, .int z_2), (3, .int (v3 + (1 : Int32)))]) [2, 1, 0] rfl (hrec102 z_2 (v3 + (1 : Int32)) σ)
def lf_X11_count_102 (N : Nat) : Nat → Int32 → Int32 → zS → zA
  | 0, _, _, _ => none
  | n + 1, v2, v3, σ => bf_X11_count_102 N (lf_X11_count_102 N  n) v2 v3 σ
theorem l_X11_count_102 {G : zG} {dC : Nat → ClassId} {dI : Nat → Nat → Nat} {A : Nat → Prop} {ad : Nat → Nat} {cI cC cW : ClassId} (C : zC G dC dI A 16 ad (cfM ad cI) (z_ty cI cC cW) cX11_count RX11 4 1 (some .int)) (N : Nat) : ∀ (n : Nat) (v2 : Int32) (v3 : Int32) (σ : zS), zW G dC dI A 16 ad (cfM ad cI) 4 true (lf_X11_count_102 N  n v2 v3 σ) σ 102 [(0, .ref (ad 0)), (2, .int v2), (3, .int v3)] [] := by
  intro n
  induction n with
  | zero => intro v2 v3 σ; exact zx_none
  | succ n ih => intro v2 v3 σ; exact b_X11_count_102 C N (lf_X11_count_102 N  n) ih v2 v3 σ
def f_X11_count (N : Nat) (v1 : Int32) (σ : zS) : zA := z_b (f_X11_isIn N v1 (11 : Int32) (16 : Int32) σ) (fun r_3 t_4 => (if r_3 = (0 : Int32) then (if v1 = (0 : Int32) then some ((t_4 0 9), t_4) else (if v1 = (1 : Int32) then some ((t_4 0 10), t_4) else (if v1 = (2 : Int32) then z_b (f_X11_grainsOfAll N t_4) (fun r_9 t_10 => some (r_9, t_10)) else (if v1 = (3 : Int32) then z_b (f_X11_debts N t_4) (fun r_12 t_13 => some (r_12, t_13)) else (if v1 = (4 : Int32) then (lf_X11_count_102 N N (0 : Int32) (0 : Int32) t_4) else (if v1 = (5 : Int32) then some ((t_4 0 11), t_4) else (if v1 = (6 : Int32) then some ((t_4 0 12), t_4) else (if v1 = (7 : Int32) then some ((t_4 0 13), t_4) else (if v1 = (8 : Int32) then some ((t_4 0 18), t_4) else (if v1 = (9 : Int32) then some ((t_4 0 28), t_4) else some ((-9 : Int32), t_4))))))))))) else z_g (z_in (v1 - (10 : Int32)) 7) (some ((t_4 9 (v1 - (10 : Int32)).toNatClampNeg), t_4))))
set_option maxHeartbeats 4000000 in
set_option maxRecDepth 100000 in
theorem k_X11_count {l : Launch} {dC : Nat → ClassId} {dI : Nat → Nat → Nat} {A : Nat → Prop} {ad : Nat → Nat} {cI cC cW : ClassId} (hO : zO A 16 ad (cfM ad cI)) (N : Nat) (v1 : Int32) (σ : zS) : zM l dC dI A 16 ad (cfM ad cI) (z_ty cI cC cW) true yX11_count cX11_count 4 (some .int) 1 [.ref (ad 0), .int v1] σ (f_X11_count N v1 σ) := by
  refine zM_of hO (by decide) (Nat.le_of_ble_eq_true rfl) (fun G hG C => ?_)
  subst hG
  unfold f_X11_count
  refine zx_sub (L1 := [(0, .ref (ad 0)), (1, .int v1)]) [0, 1] rfl ?_
  refine zx_iload_n C 1 dX11_count_0 rfl rfl ?_
  refine zx_bipush (v := 11) C dX11_count_1 (by decide) ?_
  refine zx_bipush (v := 16) C dX11_count_3 (by decide) ?_
  refine zx_callS (av := [.int v1, .int (11 : Int32), .int (16 : Int32)]) (st := []) C yk_X11_isIn q_767 q_768 (k_X11_isIn C.hO N v1 (11 : Int32) (16 : Int32) σ) (by decide) rfl rfl (Nat.le_of_ble_eq_true rfl) dX11_count_5 (fun _ r_3 t_4 => ?_) (fun h9 => nomatch h9)
  refine zx_if_eq (tgt := 21) C dX11_count_8 (by decide) (fun h_5 => ?_) (fun h_5 => ?_)
  · refine zx_iconst (v := 0) C dX11_count_21 (by decide) ?_
    refine zx_istore_n (L1 := [(2, .int (0 : Int32)), (0, .ref (ad 0)), (1, .int v1)]) C dX11_count_22 rfl (by decide) rfl ?_
    refine zx_iload_n C 2 dX11_count_23 rfl rfl ?_
    refine zx_ite (fun h_6 => ?_) (fun h_6 => ?_)
    · refine zx_tableIn (tgt := 80) C dX11_count_24 (by rw [h_6] <;> decide) (by rw [h_6] <;> decide) (by rw [h_6] <;> rfl) (by decide) ?_
      refine zx_aload_n C 1 dX11_count_80 rfl rfl ?_
      refine zx_get C 9 (by decide) rfl rfl (by decide) inX11 q_661 rfl rfl dX11_count_81 ?_
      exact zx_iret C dX11_count_84
    · refine zx_ite (fun h_7 => ?_) (fun h_7 => ?_)
      · refine zx_tableIn (tgt := 85) C dX11_count_24 (by rw [h_7] <;> decide) (by rw [h_7] <;> decide) (by rw [h_7] <;> rfl) (by decide) ?_
        refine zx_aload_n C 1 dX11_count_85 rfl rfl ?_
        refine zx_get C 10 (by decide) rfl rfl (by decide) inX11 q_662 rfl rfl dX11_count_86 ?_
        exact zx_iret C dX11_count_89
      · refine zx_ite (fun h_8 => ?_) (fun h_8 => ?_)
        · refine zx_tableIn (tgt := 90) C dX11_count_24 (by rw [h_8] <;> decide) (by rw [h_8] <;> decide) (by rw [h_8] <;> rfl) (by decide) ?_
          refine zx_aload_n C 1 dX11_count_90 rfl rfl ?_
          refine zx_callV (As := []) (st := []) C yk_X11_grainsOfAll q_974 q_976 q_34 (by decide) rfl rfl (k_X11_grainsOfAll C.hO N t_4) (by decide) rfl rfl (Nat.le_of_ble_eq_true rfl) dX11_count_91 (fun _ r_9 t_10 => ?_) (fun h9 => nomatch h9)
          exact zx_iret C dX11_count_94
        · refine zx_ite (fun h_11 => ?_) (fun h_11 => ?_)
          · refine zx_tableIn (tgt := 95) C dX11_count_24 (by rw [h_11] <;> decide) (by rw [h_11] <;> decide) (by rw [h_11] <;> rfl) (by decide) ?_
            refine zx_aload_n C 1 dX11_count_95 rfl rfl ?_
            refine zx_callV (As := []) (st := []) C yk_X11_debts q_896 q_898 q_27 (by decide) rfl rfl (k_X11_debts C.hO N t_4) (by decide) rfl rfl (Nat.le_of_ble_eq_true rfl) dX11_count_96 (fun _ r_12 t_13 => ?_) (fun h9 => nomatch h9)
            exact zx_iret C dX11_count_99
          · refine zx_ite (fun h_14 => ?_) (fun h_14 => ?_)
            · refine zx_tableIn (tgt := 100) C dX11_count_24 (by rw [h_14] <;> decide) (by rw [h_14] <;> decide) (by rw [h_14] <;> rfl) (by decide) ?_
              refine zx_iconst (v := 0) C dX11_count_100 (by decide) ?_
              refine zx_istore_n (L1 := [(3, .int (0 : Int32)), (2, .int (0 : Int32)), (0, .ref (ad 0)), (1, .int v1)]) C dX11_count_101 rfl (by decide) rfl ?_
              exact zx_sub (L1 := [(0, .ref (ad 0)), (2, .int (0 : Int32)), (3, .int (0 : Int32))]) [2, 1, 0] rfl (l_X11_count_102 C N N (0 : Int32) (0 : Int32) t_4)
            · refine zx_ite (fun h_15 => ?_) (fun h_15 => ?_)
              · refine zx_tableIn (tgt := 127) C dX11_count_24 (by rw [h_15] <;> decide) (by rw [h_15] <;> decide) (by rw [h_15] <;> rfl) (by decide) ?_
                refine zx_aload_n C 1 dX11_count_127 rfl rfl ?_
                refine zx_get C 11 (by decide) rfl rfl (by decide) inX11 q_663 rfl rfl dX11_count_128 ?_
                exact zx_iret C dX11_count_131
              · refine zx_ite (fun h_16 => ?_) (fun h_16 => ?_)
                · refine zx_tableIn (tgt := 132) C dX11_count_24 (by rw [h_16] <;> decide) (by rw [h_16] <;> decide) (by rw [h_16] <;> rfl) (by decide) ?_
                  refine zx_aload_n C 1 dX11_count_132 rfl rfl ?_
                  refine zx_get C 12 (by decide) rfl rfl (by decide) inX11 q_664 rfl rfl dX11_count_133 ?_
                  exact zx_iret C dX11_count_136
                · refine zx_ite (fun h_17 => ?_) (fun h_17 => ?_)
                  · refine zx_tableIn (tgt := 137) C dX11_count_24 (by rw [h_17] <;> decide) (by rw [h_17] <;> decide) (by rw [h_17] <;> rfl) (by decide) ?_
                    refine zx_aload_n C 1 dX11_count_137 rfl rfl ?_
                    refine zx_get C 13 (by decide) rfl rfl (by decide) inX11 q_665 rfl rfl dX11_count_138 ?_
                    exact zx_iret C dX11_count_141
                  · refine zx_ite (fun h_18 => ?_) (fun h_18 => ?_)
                    · refine zx_tableIn (tgt := 142) C dX11_count_24 (by rw [h_18] <;> decide) (by rw [h_18] <;> decide) (by rw [h_18] <;> rfl) (by decide) ?_
                      refine zx_aload_n C 1 dX11_count_142 rfl rfl ?_
                      refine zx_get C 18 (by decide) rfl rfl (by decide) inX11 q_670 rfl rfl dX11_count_143 ?_
                      exact zx_iret C dX11_count_146
                    · refine zx_ite (fun h_19 => ?_) (fun h_19 => ?_)
                      · refine zx_tableIn (tgt := 147) C dX11_count_24 (by rw [h_19] <;> decide) (by rw [h_19] <;> decide) (by rw [h_19] <;> rfl) (by decide) ?_
                        refine zx_aload_n C 1 dX11_count_147 rfl rfl ?_
                        refine zx_get C 28 (by decide) rfl rfl (by decide) inX11 q_680 rfl rfl dX11_count_148 ?_
                        exact zx_iret C dX11_count_151
                      · refine zx_tableOut (tgt := 152) C dX11_count_24 (z_out (fun c h1 h2 hx => by rcases (show c = 0 ∨ c = 1 ∨ c = 2 ∨ c = 3 ∨ c = 4 ∨ c = 5 ∨ c = 6 ∨ c = 7 ∨ c = 8 ∨ c = 9 by omega) with rfl | rfl | rfl | rfl | rfl | rfl | rfl | rfl | rfl | rfl <;> first | exact h_6 hx | exact h_7 hx | exact h_8 hx | exact h_11 hx | exact h_14 hx | exact h_15 hx | exact h_16 hx | exact h_17 hx | exact h_18 hx | exact h_19 hx)) (by decide) ?_
                        refine zx_bipush (v := -9) C dX11_count_152 (by decide) ?_
                        exact zx_iret C dX11_count_154
  · refine zx_aload_n C 0 dX11_count_11 rfl rfl ?_
    refine zx_get C 0 (by decide) rfl rfl (by decide) inX11 q_652 rfl rfl dX11_count_12 ?_
    refine zx_iload_n C 1 dX11_count_15 rfl rfl ?_
    refine zx_bipush (v := 10) C dX11_count_16 (by decide) ?_
    refine zx_isub C dX11_count_18 ?_
    refine zx_iald C 0 (by decide) rfl rfl dX11_count_19 ?_
    exact zx_iret C dX11_count_20
