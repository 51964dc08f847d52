def f_X5_signAt (N : Nat) (v1 : Int32) (σ : zS) : zA := (if v1 < (0 : Int32) then some ((-1 : Int32), σ) else (if (σ 38 1) ≤ v1 then some ((-1 : Int32), σ) else z_g (z_in v1 80) (some ((σ 39 v1.toNatClampNeg), σ))))
set_option maxHeartbeats 4000000 in
set_option maxRecDepth 100000 in
theorem k_X5_signAt {l : Launch} {dC : Nat → ClassId} {dI : Nat → Nat → Nat} {A : Nat → Prop} {ad : Nat → Nat} {cI cC cW : ClassId} (hO : zO A 48 ad (cfC ad cI cC cW)) (N : Nat) (v1 : Int32) (σ : zS) : zM l dC dI A 48 ad (cfC ad cI cC cW) (z_ty cI cC cW) true yX5_signAt cX5_signAt 2 (some .int) 0 [.ref (ad 38), .int v1] σ (f_X5_signAt N v1 σ) := by
  refine zM_of hO (by decide) (Nat.le_of_ble_eq_true rfl) (fun G hG C => ?_)
  subst hG
  unfold f_X5_signAt
  refine zx_sub (L1 := [(0, .ref (ad 38)), (1, .int v1)]) [0, 1] rfl ?_
  refine zx_iload_n C 1 dX5_signAt_0 rfl rfl ?_
  refine zx_if_lt (tgt := 21) C dX5_signAt_1 (by decide) (fun h_1 => ?_) (fun h_1 => ?_)
  · refine zx_iconst (v := -1) C dX5_signAt_21 (by decide) ?_
    exact zx_iret C dX5_signAt_22
  · refine zx_iload_n C 1 dX5_signAt_4 rfl rfl ?_
    refine zx_aload_n C 0 dX5_signAt_5 rfl rfl ?_
    refine zx_get C 1 (by decide) rfl rfl (by decide) inX5 q_199 rfl rfl dX5_signAt_6 ?_
    refine zx_icmp_ge (tgt := 21) C dX5_signAt_9 (by decide) (fun h_2 => ?_) (fun h_2 => ?_)
    · refine zx_iconst (v := -1) C dX5_signAt_21 (by decide) ?_
      exact zx_iret C dX5_signAt_22
    · refine zx_aload_n C 0 dX5_signAt_12 rfl rfl ?_
      refine zx_get C 0 (by decide) rfl rfl (by decide) inX5 q_197 rfl rfl dX5_signAt_13 ?_
      refine zx_iload_n C 1 dX5_signAt_16 rfl rfl ?_
      refine zx_iald C 0 (by decide) rfl rfl dX5_signAt_17 ?_
      refine zx_goto (tgt := 22) C dX5_signAt_18 (by decide) ?_
      exact zx_iret C dX5_signAt_22
def f_X5_digitAt (N : Nat) (v1 : Int32) (σ : zS) : zA := z_b (f_X5_signAt N v1 σ) (fun r_1 t_2 => some ((r_1 - (48 : Int32)), t_2))
set_option maxHeartbeats 4000000 in
set_option maxRecDepth 100000 in
theorem k_X5_digitAt {l : Launch} {dC : Nat → ClassId} {dI : Nat → Nat → Nat} {A : Nat → Prop} {ad : Nat → Nat} {cI cC cW : ClassId} (hO : zO A 48 ad (cfC ad cI cC cW)) (N : Nat) (v1 : Int32) (σ : zS) : zM l dC dI A 48 ad (cfC ad cI cC cW) (z_ty cI cC cW) true yX5_digitAt cX5_digitAt 2 (some .int) 1 [.ref (ad 38), .int v1] σ (f_X5_digitAt N v1 σ) := by
  refine zM_of hO (by decide) (Nat.le_of_ble_eq_true rfl) (fun G hG C => ?_)
  subst hG
  unfold f_X5_digitAt
  refine zx_sub (L1 := [(0, .ref (ad 38)), (1, .int v1)]) [0, 1] rfl ?_
  refine zx_aload_n C 0 dX5_digitAt_0 rfl rfl ?_
  refine zx_iload_n C 1 dX5_digitAt_1 rfl rfl ?_
  refine zx_callV (As := [.int v1]) (st := []) C yk_X5_signAt q_288 q_289 q_290 (by decide) rfl rfl (k_X5_signAt C.hO N v1 σ) (by decide) rfl rfl (Nat.le_of_ble_eq_true rfl) dX5_digitAt_2 (fun _ r_1 t_2 => ?_) (fun h9 => nomatch h9)
  refine zx_bipush (v := 48) C dX5_digitAt_5 (by decide) ?_
  refine zx_isub C dX5_digitAt_7 ?_
  exact zx_iret C dX5_digitAt_8
def f_X5_isDigitAt (N : Nat) (v1 : Int32) (σ : zS) : zA := z_b (f_X5_signAt N v1 σ) (fun r_1 t_2 => (if r_1 < (48 : Int32) then some ((0 : Int32), t_2) else z_b (f_X5_signAt N v1 t_2) (fun r_4 t_5 => (if (57 : Int32) < r_4 then some ((0 : Int32), t_5) else some ((1 : Int32), t_5)))))
set_option maxHeartbeats 4000000 in
set_option maxRecDepth 100000 in
theorem k_X5_isDigitAt {l : Launch} {dC : Nat → ClassId} {dI : Nat → Nat → Nat} {A : Nat → Prop} {ad : Nat → Nat} {cI cC cW : ClassId} (hO : zO A 48 ad (cfC ad cI cC cW)) (N : Nat) (v1 : Int32) (σ : zS) : zM l dC dI A 48 ad (cfC ad cI cC cW) (z_ty cI cC cW) true yX5_isDigitAt cX5_isDigitAt 2 (some .boolean) 1 [.ref (ad 38), .int v1] σ (f_X5_isDigitAt N v1 σ) := by
  refine zM_of hO (by decide) (Nat.le_of_ble_eq_true rfl) (fun G hG C => ?_)
  subst hG
  unfold f_X5_isDigitAt
  refine zx_sub (L1 := [(0, .ref (ad 38)), (1, .int v1)]) [0, 1] rfl ?_
  refine zx_aload_n C 0 dX5_isDigitAt_0 rfl rfl ?_
  refine zx_iload_n C 1 dX5_isDigitAt_1 rfl rfl ?_
  refine zx_callV (As := [.int v1]) (st := []) C yk_X5_signAt q_288 q_289 q_290 (by decide) rfl rfl (k_X5_signAt C.hO N v1 σ) (by decide) rfl rfl (Nat.le_of_ble_eq_true rfl) dX5_isDigitAt_2 (fun _ r_1 t_2 => ?_) (fun h9 => nomatch h9)
  refine zx_bipush (v := 48) C dX5_isDigitAt_5 (by decide) ?_
  refine zx_icmp_lt (tgt := 24) C dX5_isDigitAt_7 (by decide) (fun h_3 => ?_) (fun h_3 => ?_)
  · refine zx_iconst (v := 0) C dX5_isDigitAt_24 (by decide) ?_
    exact zx_zret C (by decide) dX5_isDigitAt_25
  · refine zx_aload_n C 0 dX5_isDigitAt_10 rfl rfl ?_
    refine zx_iload_n C 1 dX5_isDigitAt_11 rfl rfl ?_
    refine zx_callV (As := [.int v1]) (st := []) C yk_X5_signAt q_288 q_289 q_290 (by decide) rfl rfl (k_X5_signAt C.hO N v1 t_2) (by decide) rfl rfl (Nat.le_of_ble_eq_true rfl) dX5_isDigitAt_12 (fun _ r_4 t_5 => ?_) (fun h9 => nomatch h9)
    refine zx_bipush (v := 57) C dX5_isDigitAt_15 (by decide) ?_
    refine zx_icmp_gt (tgt := 24) C dX5_isDigitAt_17 (by decide) (fun h_6 => ?_) (fun h_6 => ?_)
    · refine zx_iconst (v := 0) C dX5_isDigitAt_24 (by decide) ?_
      exact zx_zret C (by decide) dX5_isDigitAt_25
    · refine zx_iconst (v := 1) C dX5_isDigitAt_20 (by decide) ?_
      refine zx_goto (tgt := 25) C dX5_isDigitAt_21 (by decide) ?_
      exact zx_zret C (by decide) dX5_isDigitAt_25
def bf_X5_numberAt_4 (N : Nat) (rec4 : Int32 → Int32 → Int32 → zS → zA) (v1 : Int32) (v2 : Int32) (v3 : Int32) (σ : zS) : zA := (if (3 : Int32) ≤ v3 then some (v2, σ) else z_b (f_X5_isDigitAt N (v1 + v3) σ) (fun r_2 t_3 => (if r_2 = (0 : Int32) then some (v2, t_3) else z_b (f_X5_digitAt N (v1 + v3) t_3) (fun r_5 t_6 => z_n ((v2 * (10 : Int32)) + r_5) (fun z_7 => (rec4 v1 z_7 (v3 + (1 : Int32)) t_6))))))
set_option maxHeartbeats 4000000 in
set_option maxRecDepth 100000 in
theorem b_X5_numberAt_4 {G : zG} {dC : Nat → ClassId} {dI : Nat → Nat → Nat} {A : Nat → Prop} {ad : Nat → Nat} {cI cC cW : ClassId} (C : zC G dC dI A 48 ad (cfC ad cI cC cW) (z_ty cI cC cW) cX5_numberAt RX5 4 2 (some .int)) (N : Nat) (rec4 : Int32 → Int32 → Int32 → zS → zA) (hrec4 : ∀ (v1 : Int32) (v2 : Int32) (v3 : Int32) (σ : zS), zW G dC dI A 48 ad (cfC ad cI cC cW) 4 true (rec4 v1 v2 v3 σ) σ 4 [(0, .ref (ad 38)), (1, .int v1), (2, .int v2), (3, .int v3)] []) (v1 : Int32) (v2 : Int32) (v3 : Int32) (σ : zS) : zW G dC dI A 48 ad (cfC ad cI cC cW) 4 true (bf_X5_numberAt_4 N rec4 v1 v2 v3 σ) σ 4 [(0, .ref (ad 38)), (1, .int v1), (2, .int v2), (3, .int v3)] [] := by
  unfold bf_X5_numberAt_4
  refine zx_iload_n C 3 dX5_numberAt_4 rfl rfl ?_
  refine zx_iconst (v := 3) C dX5_numberAt_5 (by decide) ?_
  refine zx_icmp_ge (tgt := 38) C dX5_numberAt_6 (by decide) (fun h_1 => ?_) (fun h_1 => ?_)
  · refine zx_iload_n C 2 dX5_numberAt_38 rfl rfl ?_
    exact zx_iret C dX5_numberAt_39
  · refine zx_aload_n C 0 dX5_numberAt_9 rfl rfl ?_
    refine zx_iload_n C 1 dX5_numberAt_10 rfl rfl ?_
    refine zx_iload_n C 3 dX5_numberAt_11 rfl rfl ?_
    refine zx_iadd C dX5_numberAt_12 ?_
    refine zx_callV (As := [.int (v1 + v3)]) (st := []) C yk_X5_isDigitAt q_298 q_300 q_2 (by decide) rfl rfl (k_X5_isDigitAt C.hO N (v1 + v3) σ) (by decide) rfl rfl (Nat.le_of_ble_eq_true rfl) dX5_numberAt_13 (fun _ r_2 t_3 => ?_) (fun h9 => nomatch h9)
    refine zx_if_eq (tgt := 38) C dX5_numberAt_16 (by decide) (fun h_4 => ?_) (fun h_4 => ?_)
    · refine zx_iload_n C 2 dX5_numberAt_38 rfl rfl ?_
      exact zx_iret C dX5_numberAt_39
    · refine zx_iload_n C 2 dX5_numberAt_19 rfl rfl ?_
      refine zx_bipush (v := 10) C dX5_numberAt_20 (by decide) ?_
      refine zx_imul C dX5_numberAt_22 ?_
      refine zx_aload_n C 0 dX5_numberAt_23 rfl rfl ?_
      refine zx_iload_n C 1 dX5_numberAt_24 rfl rfl ?_
      refine zx_iload_n C 3 dX5_numberAt_25 rfl rfl ?_
      refine zx_iadd C dX5_numberAt_26 ?_
      refine zx_callV (As := [.int (v1 + v3)]) (st := [.int (v2 * (10 : Int32))]) C yk_X5_digitAt q_326 q_318 q_319 (by decide) rfl rfl (k_X5_digitAt C.hO N (v1 + v3) t_3) (by decide) rfl rfl (Nat.le_of_ble_eq_true rfl) dX5_numberAt_27 (fun _ r_5 t_6 => ?_) (fun h9 => nomatch h9)
      refine zx_iadd C dX5_numberAt_30 ?_
      refine zx_n (fun z_7 => ?_)
      refine zx_istore_n (L1 := [(2, .int z_7), (0, .ref (ad 38)), (1, .int v1), (3, .int v3)]) C dX5_numberAt_31 rfl (by decide) rfl ?_
      refine zx_iinc (v := (v3 + (1 : Int32))) (L1 := [(3, .int (v3 + (1 : Int32))), (2, .int z_7), (0, .ref (ad 38)), (1, .int v1)]) C 3 dX5_numberAt_32 rfl rfl (by decide) rfl ?_
      refine zx_goto (tgt := 4) C dX5_numberAt_35 (by decide) ?_
      exact zx_sub (L1 := [(0, .ref (ad 38)), (1, .int v1), (2, .int z_7), (3, .int (v3 + (1 : Int32)))]) [2, 3, 1, 0] rfl (hrec4 v1 z_7 (v3 + (1 : Int32)) t_6)
def lf_X5_numberAt_4 (N : Nat) : Nat → Int32 → Int32 → Int32 → zS → zA
  | 0, _, _, _, _ => none
  | n + 1, v1, v2, v3, σ => bf_X5_numberAt_4 N (lf_X5_numberAt_4 N  n) v1 v2 v3 σ
theorem l_X5_numberAt_4 {G : zG} {dC : Nat → ClassId} {dI : Nat → Nat → Nat} {A : Nat → Prop} {ad : Nat → Nat} {cI cC cW : ClassId} (C : zC G dC dI A 48 ad (cfC ad cI cC cW) (z_ty cI cC cW) cX5_numberAt RX5 4 2 (some .int)) (N : Nat) : ∀ (n : Nat) (v1 : Int32) (v2 : Int32) (v3 : Int32) (σ : zS), zW G dC dI A 48 ad (cfC ad cI cC cW) 4 true (lf_X5_numberAt_4 N  n v1 v2 v3 σ) σ 4 [(0, .ref (ad 38)), (1, .int v1), (2, .int v2), (3, .int v3)] [] := by
  intro n
  induction n with
  | zero => intro v1 v2 v3 σ; exact zx_none
  | succ n ih => intro v1 v2 v3 σ; exact b_X5_numberAt_4 C N (lf_X5_numberAt_4 N  n) ih v1 v2 v3 σ
def f_X5_numberAt (N : Nat) (v1 : Int32) (σ : zS) : zA := (lf_X5_numberAt_4 N N v1 (0 : Int32) (0 : Int32) σ)
set_option maxHeartbeats 4000000 in
set_option maxRecDepth 100000 in
theorem k_X5_numberAt {l : Launch} {dC : Nat → ClassId} {dI : Nat → Nat → Nat} {A : Nat → Prop} {ad : Nat → Nat} {cI cC cW : ClassId} (hO : zO A 48 ad (cfC ad cI cC cW)) (N : Nat) (v1 : Int32) (σ : zS) : zM l dC dI A 48 ad (cfC ad cI cC cW) (z_ty cI cC cW) true yX5_numberAt cX5_numberAt 4 (some .int) 2 [.ref (ad 38), .int v1] σ (f_X5_numberAt N v1 σ) := by
  refine zM_of hO (by decide) (Nat.le_of_ble_eq_true rfl) (fun G hG C => ?_)
  subst hG
  unfold f_X5_numberAt
  refine zx_sub (L1 := [(0, .ref (ad 38)), (1, .int v1)]) [0, 1] rfl ?_
  refine zx_iconst (v := 0) C dX5_numberAt_0 (by decide) ?_
  refine zx_istore_n (L1 := [(2, .int (0 : Int32)), (0, .ref (ad 38)), (1, .int v1)]) C dX5_numberAt_1 rfl (by decide) rfl ?_
  refine zx_iconst (v := 0) C dX5_numberAt_2 (by decide) ?_
  refine zx_istore_n (L1 := [(3, .int (0 : Int32)), (2, .int (0 : Int32)), (0, .ref (ad 38)), (1, .int v1)]) C dX5_numberAt_3 rfl (by decide) rfl ?_
  exact zx_sub (L1 := [(0, .ref (ad 38)), (1, .int v1), (2, .int (0 : Int32)), (3, .int (0 : Int32))]) [2, 3, 1, 0] rfl (l_X5_numberAt_4 C N N v1 (0 : Int32) (0 : Int32) σ)
def f_X5_leastDigits (N : Nat) (v0 : Int32) (σ : zS) : zA := (if v0 = (99 : Int32) then some ((4 : Int32), σ) else (if v0 = (100 : Int32) then some ((3 : Int32), σ) else (if v0 = (112 : Int32) then some ((2 : Int32), σ) else (if v0 = (114 : Int32) then some ((2 : Int32), σ) else some ((0 : Int32), σ)))))
set_option maxHeartbeats 4000000 in
set_option maxRecDepth 100000 in
theorem k_X5_leastDigits {l : Launch} {dC : Nat → ClassId} {dI : Nat → Nat → Nat} {A : Nat → Prop} {ad : Nat → Nat} {cI cC cW : ClassId} (hO : zO A 48 ad (cfC ad cI cC cW)) (N : Nat) (v0 : Int32) (σ : zS) : zM l dC dI A 48 ad (cfC ad cI cC cW) (z_ty cI cC cW) true yX5_leastDigits cX5_leastDigits 1 (some .int) 0 [.int v0] σ (f_X5_leastDigits N v0 σ) := by
  refine zM_of hO (by decide) (Nat.le_of_ble_eq_true rfl) (fun G hG C => ?_)
  subst hG
  unfold f_X5_leastDigits
  refine zx_sub (L1 := [(0, .int v0)]) [0] rfl ?_
  refine zx_iload_n C 0 dX5_leastDigits_0 rfl rfl ?_
  refine zx_ite (fun h_1 => ?_) (fun h_1 => ?_)
  · refine zx_lookup (tgt := 44) C dX5_leastDigits_1 (by decide) (by rw [h_1] <;> rfl) (by decide) ?_
    refine zx_iconst (v := 4) C dX5_leastDigits_44 (by decide) ?_
    exact zx_iret C dX5_leastDigits_45
  · refine zx_ite (fun h_2 => ?_) (fun h_2 => ?_)
    · refine zx_lookup (tgt := 46) C dX5_leastDigits_1 (by decide) (by rw [h_2] <;> rfl) (by decide) ?_
      refine zx_iconst (v := 3) C dX5_leastDigits_46 (by decide) ?_
      exact zx_iret C dX5_leastDigits_47
    · refine zx_ite (fun h_3 => ?_) (fun h_3 => ?_)
      · refine zx_lookup (tgt := 50) C dX5_leastDigits_1 (by decide) (by rw [h_3] <;> rfl) (by decide) ?_
        refine zx_iconst (v := 2) C dX5_leastDigits_50 (by decide) ?_
        exact zx_iret C dX5_leastDigits_51
      · refine zx_ite (fun h_4 => ?_) (fun h_4 => ?_)
        · refine zx_lookup (tgt := 48) C dX5_leastDigits_1 (by decide) (by rw [h_4] <;> rfl) (by decide) ?_
          refine zx_iconst (v := 2) C dX5_leastDigits_48 (by decide) ?_
          exact zx_iret C dX5_leastDigits_49
        · refine zx_lookup (tgt := 52) C dX5_leastDigits_1 (by decide) (lk_out (fun c hc hx => by simp at hc; rcases hc with rfl | rfl | rfl | rfl <;> first | exact h_1 hx | exact h_2 hx | exact h_3 hx | exact h_4 hx)) (by decide) ?_
          refine zx_iconst (v := 0) C dX5_leastDigits_52 (by decide) ?_
          exact zx_iret C dX5_leastDigits_53
def bf_X5_mostDigits_17 (N : Nat) (v0 : Int32) (u0 : Int32) (σ : zS) : zA := z_b (f_X5_leastDigits N v0 σ) (fun r_1 t_2 => (if u0 = (0 : Int32) then some ((r_1 + (0 : Int32)), t_2) else some ((r_1 + (2 : Int32)), t_2)))
set_option maxHeartbeats 4000000 in
set_option maxRecDepth 100000 in
theorem b_X5_mostDigits_17 {G : zG} {dC : Nat → ClassId} {dI : Nat → Nat → Nat} {A : Nat → Prop} {ad : Nat → Nat} {cI cC cW : ClassId} (C : zC G dC dI A 48 ad (cfC ad cI cC cW) (z_ty cI cC cW) cX5_mostDigits RX5 2 1 (some .int)) (N : Nat) (v0 : Int32) (u0 : Int32) (σ : zS) : zW G dC dI A 48 ad (cfC ad cI cC cW) 2 true (bf_X5_mostDigits_17 N  v0 u0 σ) σ 17 [(0, .int v0)] [.int u0] := by
  unfold bf_X5_mostDigits_17
  refine zx_istore_n (L1 := [(1, .int u0), (0, .int v0)]) C dX5_mostDigits_17 rfl (by decide) rfl ?_
  refine zx_iload_n C 1 dX5_mostDigits_18 rfl rfl ?_
  refine zx_callS (av := [.int v0]) (st := []) C yk_X5_leastDigits q_292 q_293 (k_X5_leastDigits C.hO N v0 σ) (by decide) rfl rfl (Nat.le_of_ble_eq_true rfl) dX5_mostDigits_19 (fun _ r_1 t_2 => ?_) (fun h9 => nomatch h9)
  refine zx_iload_n C 0 dX5_mostDigits_22 rfl rfl ?_
  refine zx_if_eq (tgt := 30) C dX5_mostDigits_23 (by decide) (fun h_3 => ?_) (fun h_3 => ?_)
  · refine zx_iconst (v := 0) C dX5_mostDigits_30 (by decide) ?_
    refine zx_iadd C dX5_mostDigits_31 ?_
    exact zx_iret C dX5_mostDigits_32
  · refine zx_iconst (v := 2) C dX5_mostDigits_26 (by decide) ?_
    refine zx_goto (tgt := 31) C dX5_mostDigits_27 (by decide) ?_
    refine zx_iadd C dX5_mostDigits_31 ?_
    exact zx_iret C dX5_mostDigits_32
def bf_X5_mostDigits_12 (N : Nat) (v0 : Int32) (σ : zS) : zA := (bf_X5_mostDigits_17 N v0 (1 : Int32) σ)
set_option maxHeartbeats 4000000 in
set_option maxRecDepth 100000 in
theorem b_X5_mostDigits_12 {G : zG} {dC : Nat → ClassId} {dI : Nat → Nat → Nat} {A : Nat → Prop} {ad : Nat → Nat} {cI cC cW : ClassId} (C : zC G dC dI A 48 ad (cfC ad cI cC cW) (z_ty cI cC cW) cX5_mostDigits RX5 2 1 (some .int)) (N : Nat) (v0 : Int32) (σ : zS) : zW G dC dI A 48 ad (cfC ad cI cC cW) 2 true (bf_X5_mostDigits_12 N  v0 σ) σ 12 [(0, .int v0)] [] := by
  unfold bf_X5_mostDigits_12
  refine zx_iconst (v := 1) C dX5_mostDigits_12 (by decide) ?_
  refine zx_goto (tgt := 17) C dX5_mostDigits_13 (by decide) ?_
  exact zx_sub (L1 := [(0, .int v0)]) [0] rfl (b_X5_mostDigits_17 C N v0 (1 : Int32) σ)
def f_X5_mostDigits (N : Nat) (v0 : Int32) (σ : zS) : zA := (if v0 = (99 : Int32) then (bf_X5_mostDigits_12 N v0 σ) else (if v0 = (100 : Int32) then (bf_X5_mostDigits_12 N v0 σ) else (bf_X5_mostDigits_17 N v0 (0 : Int32) σ)))
set_option maxHeartbeats 4000000 in
set_option maxRecDepth 100000 in
theorem k_X5_mostDigits {l : Launch} {dC : Nat → ClassId} {dI : Nat → Nat → Nat} {A : Nat → Prop} {ad : Nat → Nat} {cI cC cW : ClassId} (hO : zO A 48 ad (cfC ad cI cC cW)) (N : Nat) (v0 : Int32) (σ : zS) : zM l dC dI A 48 ad (cfC ad cI cC cW) (z_ty cI cC cW) true yX5_mostDigits cX5_mostDigits 2 (some .int) 1 [.int v0] σ (f_X5_mostDigits N v0 σ) := by
  refine zM_of hO (by decide) (Nat.le_of_ble_eq_true rfl) (fun G hG C => ?_)
  subst hG
  unfold f_X5_mostDigits
  refine zx_sub (L1 := [(0, .int v0)]) [0] rfl ?_
  refine zx_iload_n C 0 dX5_mostDigits_0 rfl rfl ?_
  refine zx_bipush (v := 99) C dX5_mostDigits_1 (by decide) ?_
  refine zx_icmp_eq (tgt := 12) C dX5_mostDigits_3 (by decide) (fun h_4 => ?_) (fun h_4 => ?_)
  · exact zx_sub (L1 := [(0, .int v0)]) [0] rfl (b_X5_mostDigits_12 C N v0 σ)
  · refine zx_iload_n C 0 dX5_mostDigits_6 rfl rfl ?_
    refine zx_bipush (v := 100) C dX5_mostDigits_7 (by decide) ?_
    refine zx_icmp_ne (tgt := 16) C dX5_mostDigits_9 (by decide) (fun h_5 => ?_) (fun h_5 => ?_)
    · refine zx_iconst (v := 0) C dX5_mostDigits_16 (by decide) ?_
      exact zx_sub (L1 := [(0, .int v0)]) [0] rfl (b_X5_mostDigits_17 C N v0 (0 : Int32) σ)
    · exact zx_sub (L1 := [(0, .int v0)]) [0] rfl (b_X5_mostDigits_12 C N v0 σ)
def bf_X5_behindStatement_56 (N : Nat) (v1 : Int32) (v2 : Int32) (v4 : Int32) (σ : zS) : zA := z_n ((v1 + (1 : Int32)) + v4) (fun z_1 => (if v4 < v2 then some (((-1000 : Int32) - z_1), σ) else z_b (f_X5_signAt N z_1 σ) (fun r_3 t_4 => (if r_3 = (59 : Int32) then some ((z_1 + (1 : Int32)), t_4) else some (((-1000 : Int32) - z_1), t_4)))))
set_option maxHeartbeats 4000000 in
set_option maxRecDepth 100000 in
theorem b_X5_behindStatement_56 {G : zG} {dC : Nat → ClassId} {dI : Nat → Nat → Nat} {A : Nat → Prop} {ad : Nat → Nat} {cI cC cW : ClassId} (C : zC G dC dI A 48 ad (cfC ad cI cC cW) (z_ty cI cC cW) cX5_behindStatement RX5 6 2 (some .int)) (N : Nat) (v1 : Int32) (v2 : Int32) (v4 : Int32) (σ : zS) : zW G dC dI A 48 ad (cfC ad cI cC cW) 6 true (bf_X5_behindStatement_56 N  v1 v2 v4 σ) σ 56 [(0, .ref (ad 38)), (1, .int v1), (2, .int v2), (4, .int v4)] [] := by
  unfold bf_X5_behindStatement_56
  refine zx_iload_n C 1 dX5_behindStatement_56 rfl rfl ?_
  refine zx_iconst (v := 1) C dX5_behindStatement_57 (by decide) ?_
  refine zx_iadd C dX5_behindStatement_58 ?_
  refine zx_iload C 3 dX5_behindStatement_59 rfl ?_
  refine zx_iadd C dX5_behindStatement_61 ?_
  refine zx_n (fun z_1 => ?_)
  refine zx_istore (L1 := [(5, .int z_1), (0, .ref (ad 38)), (1, .int v1), (2, .int v2), (4, .int v4)]) C dX5_behindStatement_62 (by decide) rfl ?_
  refine zx_iload C 4 dX5_behindStatement_64 rfl ?_
  refine zx_iload_n C 3 dX5_behindStatement_66 rfl rfl ?_
  refine zx_icmp_lt (tgt := 88) C dX5_behindStatement_67 (by decide) (fun h_2 => ?_) (fun h_2 => ?_)
  · refine zx_sipush (v := -1000) C dX5_behindStatement_88 (by decide) ?_
    refine zx_iload C 0 dX5_behindStatement_91 rfl ?_
    refine zx_isub C dX5_behindStatement_93 ?_
    exact zx_iret C dX5_behindStatement_94
  · refine zx_aload_n C 1 dX5_behindStatement_70 rfl rfl ?_
    refine zx_iload C 0 dX5_behindStatement_71 rfl ?_
    refine zx_callV (As := [.int z_1]) (st := []) C yk_X5_signAt q_288 q_289 q_290 (by decide) rfl rfl (k_X5_signAt C.hO N z_1 σ) (by decide) rfl rfl (Nat.le_of_ble_eq_true rfl) dX5_behindStatement_73 (fun _ r_3 t_4 => ?_) (fun h9 => nomatch h9)
    refine zx_bipush (v := 59) C dX5_behindStatement_76 (by decide) ?_
    refine zx_icmp_ne (tgt := 88) C dX5_behindStatement_78 (by decide) (fun h_5 => ?_) (fun h_5 => ?_)
    · refine zx_sipush (v := -1000) C dX5_behindStatement_88 (by decide) ?_
      refine zx_iload C 0 dX5_behindStatement_91 rfl ?_
      refine zx_isub C dX5_behindStatement_93 ?_
      exact zx_iret C dX5_behindStatement_94
    · refine zx_iload C 0 dX5_behindStatement_81 rfl ?_
      refine zx_iconst (v := 1) C dX5_behindStatement_83 (by decide) ?_
      refine zx_iadd C dX5_behindStatement_84 ?_
      refine zx_goto (tgt := 94) C dX5_behindStatement_85 (by decide) ?_
      exact zx_iret C dX5_behindStatement_94
def bf_X5_behindStatement_31 (N : Nat) (rec31 : Int32 → Int32 → Int32 → Int32 → zS → zA) (v1 : Int32) (v2 : Int32) (v3 : Int32) (v4 : Int32) (σ : zS) : zA := (if v3 ≤ v4 then (bf_X5_behindStatement_56 N v1 v2 v4 σ) else z_b (f_X5_isDigitAt N ((v1 + (1 : Int32)) + v4) σ) (fun r_7 t_8 => (if r_7 = (0 : Int32) then (bf_X5_behindStatement_56 N v1 v2 v4 t_8) else (rec31 v1 v2 v3 (v4 + (1 : Int32)) t_8))))
set_option maxHeartbeats 4000000 in
set_option maxRecDepth 100000 in
theorem b_X5_behindStatement_31 {G : zG} {dC : Nat → ClassId} {dI : Nat → Nat → Nat} {A : Nat → Prop} {ad : Nat → Nat} {cI cC cW : ClassId} (C : zC G dC dI A 48 ad (cfC ad cI cC cW) (z_ty cI cC cW) cX5_behindStatement RX5 6 2 (some .int)) (N : Nat) (rec31 : Int32 → Int32 → Int32 → Int32 → zS → zA) (hrec31 : ∀ (v1 : Int32) (v2 : Int32) (v3 : Int32) (v4 : Int32) (σ : zS), zW G dC dI A 48 ad (cfC ad cI cC cW) 6 true (rec31 v1 v2 v3 v4 σ) σ 31 [(0, .ref (ad 38)), (1, .int v1), (2, .int v2), (3, .int v3), (4, .int v4)] []) (v1 : Int32) (v2 : Int32) (v3 : Int32) (v4 : Int32) (σ : zS) : zW G dC dI A 48 ad (cfC ad cI cC cW) 6 true (bf_X5_behindStatement_31 N rec31 v1 v2 v3 v4 σ) σ 31 [(0, .ref (ad 38)), (1, .int v1), (2, .int v2), (3, .int v3), (4, .int v4)] [] := by
  unfold bf_X5_behindStatement_31
  refine zx_iload C 4 dX5_behindStatement_31 rfl ?_
  refine zx_iload_n C 3 dX5_behindStatement_33 rfl rfl ?_
  refine zx_icmp_ge (tgt := 56) C dX5_behindStatement_34 (by decide) (fun h_6 => ?_) (fun h_6 => ?_)
  · exact zx_sub (L1 := [(0, .ref (ad 38)), (1, .int v1), (2, .int v2), (4, .int v4)]) [0, 1, 2, 4] rfl (b_X5_behindStatement_56 C N v1 v2 v4 σ)
  · refine zx_aload_n C 0 dX5_behindStatement_37 rfl rfl ?_
    refine zx_iload_n C 1 dX5_behindStatement_38 rfl rfl ?_
    refine zx_iconst (v := 1) C dX5_behindStatement_39 (by decide) ?_
    refine zx_iadd C dX5_behindStatement_40 ?_
    refine zx_iload C 4 dX5_behindStatement_41 rfl ?_
    refine zx_iadd C dX5_behindStatement_43 ?_
    refine zx_callV (As := [.int ((v1 + (1 : Int32)) + v4)]) (st := []) C yk_X5_isDigitAt q_298 q_300 q_2 (by decide) rfl rfl (k_X5_isDigitAt C.hO N ((v1 + (1 : Int32)) + v4) σ) (by decide) rfl rfl (Nat.le_of_ble_eq_true rfl) dX5_behindStatement_44 (fun _ r_7 t_8 => ?_) (fun h9 => nomatch h9)
    refine zx_if_eq (tgt := 56) C dX5_behindStatement_47 (by decide) (fun h_9 => ?_) (fun h_9 => ?_)
    · exact zx_sub (L1 := [(0, .ref (ad 38)), (1, .int v1), (2, .int v2), (4, .int v4)]) [0, 1, 2, 4] rfl (b_X5_behindStatement_56 C N v1 v2 v4 t_8)
    · refine zx_iinc (v := (v4 + (1 : Int32))) (L1 := [(4, .int (v4 + (1 : Int32))), (0, .ref (ad 38)), (1, .int v1), (2, .int v2), (3, .int v3)]) C 4 dX5_behindStatement_50 rfl rfl (by decide) rfl ?_
      refine zx_goto (tgt := 31) C dX5_behindStatement_53 (by decide) ?_
      exact zx_sub (L1 := [(0, .ref (ad 38)), (1, .int v1), (2, .int v2), (3, .int v3), (4, .int (v4 + (1 : Int32)))]) [1, 2, 3, 4, 0] rfl (hrec31 v1 v2 v3 (v4 + (1 : Int32)) t_8)
def lf_X5_behindStatement_31 (N : Nat) : Nat → Int32 → Int32 → Int32 → Int32 → zS → zA
  | 0, _, _, _, _, _ => none
  | n + 1, v1, v2, v3, v4, σ => bf_X5_behindStatement_31 N (lf_X5_behindStatement_31 N  n) v1 v2 v3 v4 σ
theorem l_X5_behindStatement_31 {G : zG} {dC : Nat → ClassId} {dI : Nat → Nat → Nat} {A : Nat → Prop} {ad : Nat → Nat} {cI cC cW : ClassId} (C : zC G dC dI A 48 ad (cfC ad cI cC cW) (z_ty cI cC cW) cX5_behindStatement RX5 6 2 (some .int)) (N : Nat) : ∀ (n : Nat) (v1 : Int32) (v2 : Int32) (v3 : Int32) (v4 : Int32) (σ : zS), zW G dC dI A 48 ad (cfC ad cI cC cW) 6 true (lf_X5_behindStatement_31 N  n v1 v2 v3 v4 σ) σ 31 [(0, .ref (ad 38)), (1, .int v1), (2, .int v2), (3, .int v3), (4, .int v4)] [] := by
  intro n
  induction n with
  | zero => intro v1 v2 v3 v4 σ; exact zx_none
  | succ n ih => intro v1 v2 v3 v4 σ; exact b_X5_behindStatement_31 C N (lf_X5_behindStatement_31 N  n) ih v1 v2 v3 v4 σ
def f_X5_behindStatement (N : Nat) (v1 : Int32) (σ : zS) : zA := z_b (f_X5_signAt N v1 σ) (fun r_10 t_11 => z_b (f_X5_leastDigits N r_10 t_11) (fun r_12 t_13 => (if r_12 = (0 : Int32) then some (((-1000 : Int32) - v1), t_13) else z_b (f_X5_signAt N v1 t_13) (fun r_15 t_16 => z_b (f_X5_mostDigits N r_15 t_16) (fun r_17 t_18 => (lf_X5_behindStatement_31 N N v1 r_12 r_17 (0 : Int32) t_18))))))
set_option maxHeartbeats 4000000 in
set_option maxRecDepth 100000 in
theorem k_X5_behindStatement {l : Launch} {dC : Nat → ClassId} {dI : Nat → Nat → Nat} {A : Nat → Prop} {ad : Nat → Nat} {cI cC cW : ClassId} (hO : zO A 48 ad (cfC ad cI cC cW)) (N : Nat) (v1 : Int32) (σ : zS) : zM l dC dI A 48 ad (cfC ad cI cC cW) (z_ty cI cC cW) true yX5_behindStatement cX5_behindStatement 6 (some .int) 2 [.ref (ad 38), .int v1] σ (f_X5_behindStatement N v1 σ) := by
  refine zM_of hO (by decide) (Nat.le_of_ble_eq_true rfl) (fun G hG C => ?_)
  subst hG
  unfold f_X5_behindStatement
  refine zx_sub (L1 := [(0, .ref (ad 38)), (1, .int v1)]) [0, 1] rfl ?_
  refine zx_aload_n C 0 dX5_behindStatement_0 rfl rfl ?_
  refine zx_iload_n C 1 dX5_behindStatement_1 rfl rfl ?_
  refine zx_callV (As := [.int v1]) (st := []) C yk_X5_signAt q_288 q_289 q_290 (by decide) rfl rfl (k_X5_signAt C.hO N v1 σ) (by decide) rfl rfl (Nat.le_of_ble_eq_true rfl) dX5_behindStatement_2 (fun _ r_10 t_11 => ?_) (fun h9 => nomatch h9)
  refine zx_callS (av := [.int r_10]) (st := []) C yk_X5_leastDigits q_292 q_293 (k_X5_leastDigits C.hO N r_10 t_11) (by decide) rfl rfl (Nat.le_of_ble_eq_true rfl) dX5_behindStatement_5 (fun _ r_12 t_13 => ?_) (fun h9 => nomatch h9)
  refine zx_istore_n (L1 := [(2, .int r_12), (0, .ref (ad 38)), (1, .int v1)]) C dX5_behindStatement_8 rfl (by decide) rfl ?_
  refine zx_iload_n C 0 dX5_behindStatement_9 rfl rfl ?_
  refine zx_if_ne (tgt := 19) C dX5_behindStatement_10 (by decide) (fun h_14 => ?_) (fun h_14 => ?_)
  · refine zx_aload_n C 1 dX5_behindStatement_19 rfl rfl ?_
    refine zx_iload_n C 2 dX5_behindStatement_20 rfl rfl ?_
    refine zx_callV (As := [.int v1]) (st := []) C yk_X5_signAt q_288 q_289 q_290 (by decide) rfl rfl (k_X5_signAt C.hO N v1 t_13) (by decide) rfl rfl (Nat.le_of_ble_eq_true rfl) dX5_behindStatement_21 (fun _ r_15 t_16 => ?_) (fun h9 => nomatch h9)
    refine zx_callS (av := [.int r_15]) (st := []) C yk_X5_mostDigits q_295 q_296 (k_X5_mostDigits C.hO N r_15 t_16) (by decide) rfl rfl (Nat.le_of_ble_eq_true rfl) dX5_behindStatement_24 (fun _ r_17 t_18 => ?_) (fun h9 => nomatch h9)
    refine zx_istore_n (L1 := [(3, .int r_17), (2, .int r_12), (0, .ref (ad 38)), (1, .int v1)]) C dX5_behindStatement_27 rfl (by decide) rfl ?_
    refine zx_iconst (v := 0) C dX5_behindStatement_28 (by decide) ?_
    refine zx_istore (L1 := [(4, .int (0 : Int32)), (3, .int r_17), (2, .int r_12), (0, .ref (ad 38)), (1, .int v1)]) C dX5_behindStatement_29 (by decide) rfl ?_
    exact zx_sub (L1 := [(0, .ref (ad 38)), (1, .int v1), (2, .int r_12), (3, .int r_17), (4, .int (0 : Int32))]) [3, 4, 2, 1, 0] rfl (l_X5_behindStatement_31 C N N v1 r_12 r_17 (0 : Int32) t_18)
  · refine zx_sipush (v := -1000) C dX5_behindStatement_13 (by decide) ?_
    refine zx_iload_n C 2 dX5_behindStatement_16 rfl rfl ?_
    refine zx_isub C dX5_behindStatement_17 ?_
    exact zx_iret C dX5_behindStatement_18
def bf_X5_formFault_4 (N : Nat) (rec4 : Int32 → Int32 → zS → zA) (v1 : Int32) (v2 : Int32) (σ : zS) : zA := (if (80 : Int32) ≤ v2 then some ((0 : Int32), σ) else z_b (f_X5_behindStatement N v1 σ) (fun r_2 t_3 => (if (0 : Int32) ≤ r_2 then (if r_2 < (t_3 38 1) then (rec4 r_2 (v2 + (1 : Int32)) t_3) else some ((0 : Int32), t_3)) else some (r_2, t_3))))
set_option maxHeartbeats 4000000 in
set_option maxRecDepth 100000 in
theorem b_X5_formFault_4 {G : zG} {dC : Nat → ClassId} {dI : Nat → Nat → Nat} {A : Nat → Prop} {ad : Nat → Nat} {cI cC cW : ClassId} (C : zC G dC dI A 48 ad (cfC ad cI cC cW) (z_ty cI cC cW) cX5_formFault RX5 3 3 (some .int)) (N : Nat) (rec4 : Int32 → Int32 → zS → zA) (hrec4 : ∀ (v1 : Int32) (v2 : Int32) (σ : zS), zW G dC dI A 48 ad (cfC ad cI cC cW) 3 true (rec4 v1 v2 σ) σ 4 [(0, .ref (ad 38)), (1, .int v1), (2, .int v2)] []) (v1 : Int32) (v2 : Int32) (σ : zS) : zW G dC dI A 48 ad (cfC ad cI cC cW) 3 true (bf_X5_formFault_4 N rec4 v1 v2 σ) σ 4 [(0, .ref (ad 38)), (1, .int v1), (2, .int v2)] [] := by
  unfold bf_X5_formFault_4
  refine zx_iload_n C 2 dX5_formFault_4 rfl rfl ?_
  refine zx_bipush (v := 80) C dX5_formFault_5 (by decide) ?_
  refine zx_icmp_ge (tgt := 38) C dX5_formFault_7 (by decide) (fun h_1 => ?_) (fun h_1 => ?_)
  · refine zx_iconst (v := 0) C dX5_formFault_38 (by decide) ?_
    exact zx_iret C dX5_formFault_39
  · refine zx_aload_n C 0 dX5_formFault_10 rfl rfl ?_
    refine zx_iload_n C 1 dX5_formFault_11 rfl rfl ?_
    refine zx_callV (As := [.int v1]) (st := []) C yk_X5_behindStatement q_284 q_285 q_286 (by decide) rfl rfl (k_X5_behindStatement C.hO N v1 σ) (by decide) rfl rfl (Nat.le_of_ble_eq_true rfl) dX5_formFault_12 (fun _ r_2 t_3 => ?_) (fun h9 => nomatch h9)
    refine zx_istore_n (L1 := [(1, .int r_2), (0, .ref (ad 38)), (2, .int v2)]) C dX5_formFault_15 rfl (by decide) rfl ?_
    refine zx_iload_n C 0 dX5_formFault_16 rfl rfl ?_
    refine zx_if_ge (tgt := 22) C dX5_formFault_17 (by decide) (fun h_4 => ?_) (fun h_4 => ?_)
    · refine zx_iload_n C 0 dX5_formFault_22 rfl rfl ?_
      refine zx_aload_n C 1 dX5_formFault_23 rfl rfl ?_
      refine zx_get C 1 (by decide) rfl rfl (by decide) inX5 q_199 rfl rfl dX5_formFault_24 ?_
      refine zx_icmp_lt (tgt := 32) C dX5_formFault_27 (by decide) (fun h_5 => ?_) (fun h_5 => ?_)
      · refine zx_iinc (v := (v2 + (1 : Int32))) (L1 := [(2, .int (v2 + (1 : Int32))), (1, .int r_2), (0, .ref (ad 38))]) C 2 dX5_formFault_32 rfl rfl (by decide) rfl ?_
        refine zx_goto (tgt := 4) C dX5_formFault_35 (by decide) ?_
        exact zx_sub (L1 := [(0, .ref (ad 38)), (1, .int r_2), (2, .int (v2 + (1 : Int32)))]) [2, 1, 0] rfl (hrec4 r_2 (v2 + (1 : Int32)) t_3)
      · refine zx_iconst (v := 0) C dX5_formFault_30 (by decide) ?_
        exact zx_iret C dX5_formFault_31
    · refine zx_iload_n C 0 dX5_formFault_20 rfl rfl ?_
      exact zx_iret C dX5_formFault_21
def lf_X5_formFault_4 (N : Nat) : Nat → Int32 → Int32 → zS → zA
  | 0, _, _, _ => none
  | n + 1, v1, v2, σ => bf_X5_formFault_4 N (lf_X5_formFault_4 N  n) v1 v2 σ
theorem l_X5_formFault_4 {G : zG} {dC : Nat → ClassId} {dI : Nat → Nat → Nat} {A : Nat → Prop} {ad : Nat → Nat} {cI cC cW : ClassId} (C : zC G dC dI A 48 ad (cfC ad cI cC cW) (z_ty cI cC cW) cX5_formFault RX5 3 3 (some .int)) (N : Nat) : ∀ (n : Nat) (v1 : Int32) (v2 : Int32) (σ : zS), zW G dC dI A 48 ad (cfC ad cI cC cW) 3 true (lf_X5_formFault_4 N  n v1 v2 σ) σ 4 [(0, .ref (ad 38)), (1, .int v1), (2, .int v2)] [] := by
  intro n
  induction n with
  | zero => intro v1 v2 σ; exact zx_none
  | succ n ih => intro v1 v2 σ; exact b_X5_formFault_4 C N (lf_X5_formFault_4 N  n) ih v1 v2 σ
def f_X5_formFault (N : Nat) (σ : zS) : zA := (lf_X5_formFault_4 N N (0 : Int32) (0 : Int32) σ)
set_option maxHeartbeats 4000000 in
set_option maxRecDepth 100000 in
theorem k_X5_formFault {l : Launch} {dC : Nat → ClassId} {dI : Nat → Nat → Nat} {A : Nat → Prop} {ad : Nat → Nat} {cI cC cW : ClassId} (hO : zO A 48 ad (cfC ad cI cC cW)) (N : Nat) (σ : zS) : zM l dC dI A 48 ad (cfC ad cI cC cW) (z_ty cI cC cW) true yX5_formFault cX5_formFault 3 (some .int) 3 [.ref (ad 38)] σ (f_X5_formFault N  σ) := by
  refine zM_of hO (by decide) (Nat.le_of_ble_eq_true rfl) (fun G hG C => ?_)
  subst hG
  unfold f_X5_formFault
  refine zx_sub (L1 := [(0, .ref (ad 38))]) [0] rfl ?_
  refine zx_iconst (v := 0) C dX5_formFault_0 (by decide) ?_
  refine zx_istore_n (L1 := [(1, .int (0 : Int32)), (0, .ref (ad 38))]) C dX5_formFault_1 rfl (by decide) rfl ?_
  refine zx_iconst (v := 0) C dX5_formFault_2 (by decide) ?_
  refine zx_istore_n (L1 := [(2, .int (0 : Int32)), (1, .int (0 : Int32)), (0, .ref (ad 38))]) C dX5_formFault_3 rfl (by decide) rfl ?_
  exact zx_sub (L1 := [(0, .ref (ad 38)), (1, .int (0 : Int32)), (2, .int (0 : Int32))]) [2, 1, 0] rfl (l_X5_formFault_4 C N N (0 : Int32) (0 : Int32) σ)
