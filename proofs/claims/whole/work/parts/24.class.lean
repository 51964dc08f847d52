def f_X10_refuse (N : Nat) (v1 : Int32) (σ : zS) : zA := z_n (-v1) (fun z_1 => (if z_1 ≤ (0 : Int32) then some (v1, σ) else (if (7 : Int32) ≤ z_1 then some (v1, σ) else z_g (z_in z_1 7) (z_g (z_in z_1 7) (z_m (z_put σ 47 z_1.toNatClampNeg ((σ 47 z_1.toNatClampNeg) + (1 : Int32))) (fun t_4 => some (v1, t_4)))))))
set_option maxHeartbeats 4000000 in
set_option maxRecDepth 100000 in
theorem k_X10_refuse {l : Launch} {dC : Nat → ClassId} {dI : Nat → Nat → Nat} {A : Nat → Prop} {ad : Nat → Nat} {cI cC cW : ClassId} (hO : zO A 48 ad (cfC ad cI cC cW)) (N : Nat) (v1 : Int32) (σ : zS) : zM l dC dI A 48 ad (cfC ad cI cC cW) (z_ty cI cC cW) true yX10_refuse cX10_refuse 3 (some .int) 0 [.ref (ad 37), .int v1] σ (f_X10_refuse N v1 σ) := by
  refine zM_of hO (by decide) (Nat.le_of_ble_eq_true rfl) (fun G hG C => ?_)
  subst hG
  unfold f_X10_refuse
  refine zx_sub (L1 := [(0, .ref (ad 37)), (1, .int v1)]) [0, 1] rfl ?_
  refine zx_iload_n C 1 dX10_refuse_0 rfl rfl ?_
  refine zx_ineg C dX10_refuse_1 ?_
  refine zx_n (fun z_1 => ?_)
  refine zx_istore_n (L1 := [(2, .int z_1), (0, .ref (ad 37)), (1, .int v1)]) C dX10_refuse_2 rfl (by decide) rfl ?_
  refine zx_iload_n C 0 dX10_refuse_3 rfl rfl ?_
  refine zx_if_le (tgt := 26) C dX10_refuse_4 (by decide) (fun h_2 => ?_) (fun h_2 => ?_)
  · refine zx_iload_n C 2 dX10_refuse_26 rfl rfl ?_
    exact zx_iret C dX10_refuse_27
  · refine zx_iload_n C 0 dX10_refuse_7 rfl rfl ?_
    refine zx_aload_n C 1 dX10_refuse_8 rfl rfl ?_
    refine zx_get C 9 (by decide) rfl rfl (by decide) inX10 q_242 rfl rfl dX10_refuse_9 ?_
    refine zx_alen (v := (7 : Int32)) C 0 (by decide) rfl rfl rfl dX10_refuse_12 ?_
    refine zx_icmp_ge (tgt := 26) C dX10_refuse_13 (by decide) (fun h_3 => ?_) (fun h_3 => ?_)
    · refine zx_iload_n C 2 dX10_refuse_26 rfl rfl ?_
      exact zx_iret C dX10_refuse_27
    · refine zx_aload_n C 1 dX10_refuse_16 rfl rfl ?_
      refine zx_get C 9 (by decide) rfl rfl (by decide) inX10 q_242 rfl rfl dX10_refuse_17 ?_
      refine zx_iload_n C 0 dX10_refuse_20 rfl rfl ?_
      refine zx_dup2 C dX10_refuse_21 rfl rfl ?_
      refine zx_iald C 0 (by decide) rfl rfl dX10_refuse_22 ?_
      refine zx_iconst (v := 1) C dX10_refuse_23 (by decide) ?_
      refine zx_iadd C dX10_refuse_24 ?_
      refine zx_iast C 0 (by decide) (fun _ => rfl) rfl dX10_refuse_25 (fun t_4 => ?_)
      refine zx_iload_n C 2 dX10_refuse_26 rfl rfl ?_
      exact zx_iret C dX10_refuse_27
def bf_X10_feed_30 (N : Nat) (σ : zS) : zA := z_b (f_X10_refuse N (-6 : Int32) σ) (fun r_1 t_2 => some (r_1, t_2))
set_option maxHeartbeats 4000000 in
set_option maxRecDepth 100000 in
theorem b_X10_feed_30 {G : zG} {dC : Nat → ClassId} {dI : Nat → Nat → Nat} {A : Nat → Prop} {ad : Nat → Nat} {cI cC cW : ClassId} (C : zC G dC dI A 48 ad (cfC ad cI cC cW) (z_ty cI cC cW) cX10_feed RX10 2 1 (some .int)) (N : Nat) (σ : zS) : zW G dC dI A 48 ad (cfC ad cI cC cW) 2 true (bf_X10_feed_30 N   σ) σ 30 [(0, .ref (ad 37))] [] := by
  unfold bf_X10_feed_30
  refine zx_aload_n C 0 dX10_feed_30 rfl rfl ?_
  refine zx_bipush (v := -6) C dX10_feed_31 (by decide) ?_
  refine zx_callV (As := [.int (-6 : Int32)]) (st := []) C yk_X10_refuse q_268 q_270 q_0 (by decide) rfl rfl (k_X10_refuse C.hO N (-6 : Int32) σ) (by decide) rfl rfl (Nat.le_of_ble_eq_true rfl) dX10_feed_33 (fun _ r_1 t_2 => ?_) (fun h9 => nomatch h9)
  exact zx_iret C dX10_feed_36
def f_X10_feed (N : Nat) (v1 : Int32) (σ : zS) : zA := (if (0 : Int32) ≤ v1 then (if (255 : Int32) < v1 then (bf_X10_feed_30 N σ) else (if (σ 38 1) < (80 : Int32) then z_g (z_in (σ 38 1) 80) (z_m (z_put σ 39 (σ 38 1).toNatClampNeg v1) (fun t_6 => z_m (z_put t_6 38 1 ((t_6 38 1) + (1 : Int32))) (fun t_7 => some ((t_7 38 1), t_7)))) else (bf_X10_feed_30 N σ))) else z_b (f_X10_refuse N (-4 : Int32) σ) (fun r_8 t_9 => some (r_8, t_9)))
set_option maxHeartbeats 4000000 in
set_option maxRecDepth 100000 in
theorem k_X10_feed {l : Launch} {dC : Nat → ClassId} {dI : Nat → Nat → Nat} {A : Nat → Prop} {ad : Nat → Nat} {cI cC cW : ClassId} (hO : zO A 48 ad (cfC ad cI cC cW)) (N : Nat) (v1 : Int32) (σ : zS) : zM l dC dI A 48 ad (cfC ad cI cC cW) (z_ty cI cC cW) true yX10_feed cX10_feed 2 (some .int) 1 [.ref (ad 37), .int v1] σ (f_X10_feed N v1 σ) := by
  refine zM_of hO (by decide) (Nat.le_of_ble_eq_true rfl) (fun G hG C => ?_)
  subst hG
  unfold f_X10_feed
  refine zx_sub (L1 := [(0, .ref (ad 37)), (1, .int v1)]) [0, 1] rfl ?_
  refine zx_iload_n C 1 dX10_feed_0 rfl rfl ?_
  refine zx_if_ge (tgt := 11) C dX10_feed_1 (by decide) (fun h_3 => ?_) (fun h_3 => ?_)
  · refine zx_iload_n C 1 dX10_feed_11 rfl rfl ?_
    refine zx_sipush (v := 255) C dX10_feed_12 (by decide) ?_
    refine zx_icmp_gt (tgt := 30) C dX10_feed_15 (by decide) (fun h_4 => ?_) (fun h_4 => ?_)
    · exact zx_sub (L1 := [(0, .ref (ad 37))]) [0] rfl (b_X10_feed_30 C N σ)
    · refine zx_aload_n C 0 dX10_feed_18 rfl rfl ?_
      refine zx_get C 5 (by decide) rfl rfl (by decide) inX10 q_238 rfl rfl dX10_feed_19 ?_
      refine zx_get C 1 (by decide) rfl rfl (by decide) inX5 q_200 rfl rfl dX10_feed_22 ?_
      refine zx_bipush (v := 80) C dX10_feed_25 (by decide) ?_
      refine zx_icmp_lt (tgt := 37) C dX10_feed_27 (by decide) (fun h_5 => ?_) (fun h_5 => ?_)
      · refine zx_aload_n C 0 dX10_feed_37 rfl rfl ?_
        refine zx_get C 5 (by decide) rfl rfl (by decide) inX10 q_238 rfl rfl dX10_feed_38 ?_
        refine zx_get C 0 (by decide) rfl rfl (by decide) inX5 q_198 rfl rfl dX10_feed_41 ?_
        refine zx_aload_n C 0 dX10_feed_44 rfl rfl ?_
        refine zx_get C 5 (by decide) rfl rfl (by decide) inX10 q_238 rfl rfl dX10_feed_45 ?_
        refine zx_get C 1 (by decide) rfl rfl (by decide) inX5 q_200 rfl rfl dX10_feed_48 ?_
        refine zx_iload_n C 1 dX10_feed_51 rfl rfl ?_
        refine zx_iast C 0 (by decide) (fun _ => rfl) rfl dX10_feed_52 (fun t_6 => ?_)
        refine zx_aload_n C 0 dX10_feed_53 rfl rfl ?_
        refine zx_get C 5 (by decide) rfl rfl (by decide) inX10 q_238 rfl rfl dX10_feed_54 ?_
        refine zx_dup C dX10_feed_57 rfl ?_
        refine zx_get C 1 (by decide) rfl rfl (by decide) inX5 q_200 rfl rfl dX10_feed_58 ?_
        refine zx_iconst (v := 1) C dX10_feed_61 (by decide) ?_
        refine zx_iadd C dX10_feed_62 ?_
        refine zx_put (ty := .int) C 1 (by decide) rfl rfl (by decide) inX5 tyX5 tyX5_ok nmX5 q_200 rfl rfl (by decide +kernel) rfl rfl (Nat.le_of_ble_eq_true rfl) (by rfl) dX10_feed_63 (fun t_7 => ?_)
        refine zx_aload_n C 0 dX10_feed_66 rfl rfl ?_
        refine zx_get C 5 (by decide) rfl rfl (by decide) inX10 q_238 rfl rfl dX10_feed_67 ?_
        refine zx_get C 1 (by decide) rfl rfl (by decide) inX5 q_200 rfl rfl dX10_feed_70 ?_
        exact zx_iret C dX10_feed_73
      · exact zx_sub (L1 := [(0, .ref (ad 37))]) [0] rfl (b_X10_feed_30 C N σ)
  · refine zx_aload_n C 0 dX10_feed_4 rfl rfl ?_
    refine zx_bipush (v := -4) C dX10_feed_5 (by decide) ?_
    refine zx_callV (As := [.int (-4 : Int32)]) (st := []) C yk_X10_refuse q_268 q_270 q_0 (by decide) rfl rfl (k_X10_refuse C.hO N (-4 : Int32) σ) (by decide) rfl rfl (Nat.le_of_ble_eq_true rfl) dX10_feed_7 (fun _ r_8 t_9 => ?_) (fun h9 => nomatch h9)
    exact zx_iret C dX10_feed_10
def f_X10_tellMind (N : Nat) (v1 : Int32) (σ : zS) : zA := z_b (f_X5_digitAt N (v1 + (1 : Int32)) σ) (fun r_1 t_2 => z_b (f_X5_digitAt N (v1 + (2 : Int32)) t_2) (fun r_3 t_4 => z_b (f_X5_signAt N v1 t_4) (fun r_5 t_6 => (if r_5 = (99 : Int32) then z_b (f_X5_digitAt N (v1 + (3 : Int32)) t_6) (fun r_8 t_9 => z_b (f_X5_numberAt N (v1 + (4 : Int32)) t_9) (fun r_10 t_11 => z_b (f_X4_takeCandle N 1 r_1 r_3 r_8 r_10 t_11) (fun r_12 t_13 => z_g (z_bo r_12) (some (r_12, t_13))))) else (if r_5 = (100 : Int32) then z_b (f_X5_numberAt N (v1 + (3 : Int32)) t_6) (fun r_15 t_16 => z_b (f_X4_takeDebt N 1 r_1 r_3 r_15 t_16) (fun r_17 t_18 => z_g (z_bo r_17) (some (r_17, t_18)))) else (if r_5 = (114 : Int32) then z_b (f_X4_takeDraught N 1 r_1 r_3 t_6) (fun r_20 t_21 => z_g (z_bo r_20) (some (r_20, t_21))) else z_b (f_X4_takePlace N 1 r_1 r_3 t_6) (fun r_22 t_23 => z_g (z_bo r_22) (some (r_22, t_23)))))))))
set_option maxHeartbeats 4000000 in
set_option maxRecDepth 100000 in
theorem k_X10_tellMind {l : Launch} {dC : Nat → ClassId} {dI : Nat → Nat → Nat} {A : Nat → Prop} {ad : Nat → Nat} {cI cC cW : ClassId} (hO : zO A 48 ad (cfC ad cI cC cW)) (N : Nat) (v1 : Int32) (σ : zS) : zM l dC dI A 48 ad (cfC ad cI cC cW) (z_ty cI cC cW) true yX10_tellMind cX10_tellMind 4 (some .boolean) 3 [.ref (ad 37), .int v1] σ (f_X10_tellMind N v1 σ) := by
  refine zM_of hO (by decide) (Nat.le_of_ble_eq_true rfl) (fun G hG C => ?_)
  subst hG
  unfold f_X10_tellMind
  refine zx_sub (L1 := [(0, .ref (ad 37)), (1, .int v1)]) [0, 1] rfl ?_
  refine zx_aload_n C 0 dX10_tellMind_0 rfl rfl ?_
  refine zx_get C 5 (by decide) rfl rfl (by decide) inX10 q_238 rfl rfl dX10_tellMind_1 ?_
  refine zx_iload_n C 1 dX10_tellMind_4 rfl rfl ?_
  refine zx_iconst (v := 1) C dX10_tellMind_5 (by decide) ?_
  refine zx_iadd C dX10_tellMind_6 ?_
  refine zx_callV (As := [.int (v1 + (1 : Int32))]) (st := []) C yk_X5_digitAt q_317 q_318 q_319 (by decide) rfl rfl (k_X5_digitAt C.hO N (v1 + (1 : Int32)) σ) (by decide) rfl rfl (Nat.le_of_ble_eq_true rfl) dX10_tellMind_7 (fun _ r_1 t_2 => ?_) (fun h9 => nomatch h9)
  refine zx_istore_n (L1 := [(2, .int r_1), (0, .ref (ad 37)), (1, .int v1)]) C dX10_tellMind_10 rfl (by decide) rfl ?_
  refine zx_aload_n C 1 dX10_tellMind_11 rfl rfl ?_
  refine zx_get C 5 (by decide) rfl rfl (by decide) inX10 q_238 rfl rfl dX10_tellMind_12 ?_
  refine zx_iload_n C 2 dX10_tellMind_15 rfl rfl ?_
  refine zx_iconst (v := 2) C dX10_tellMind_16 (by decide) ?_
  refine zx_iadd C dX10_tellMind_17 ?_
  refine zx_callV (As := [.int (v1 + (2 : Int32))]) (st := []) C yk_X5_digitAt q_317 q_318 q_319 (by decide) rfl rfl (k_X5_digitAt C.hO N (v1 + (2 : Int32)) t_2) (by decide) rfl rfl (Nat.le_of_ble_eq_true rfl) dX10_tellMind_18 (fun _ r_3 t_4 => ?_) (fun h9 => nomatch h9)
  refine zx_istore_n (L1 := [(3, .int r_3), (2, .int r_1), (0, .ref (ad 37)), (1, .int v1)]) C dX10_tellMind_21 rfl (by decide) rfl ?_
  refine zx_aload_n C 2 dX10_tellMind_22 rfl rfl ?_
  refine zx_get C 5 (by decide) rfl rfl (by decide) inX10 q_238 rfl rfl dX10_tellMind_23 ?_
  refine zx_iload_n C 3 dX10_tellMind_26 rfl rfl ?_
  refine zx_callV (As := [.int v1]) (st := []) C yk_X5_signAt q_321 q_289 q_290 (by decide) rfl rfl (k_X5_signAt C.hO N v1 t_4) (by decide) rfl rfl (Nat.le_of_ble_eq_true rfl) dX10_tellMind_27 (fun _ r_5 t_6 => ?_) (fun h9 => nomatch h9)
  refine zx_ite (fun h_7 => ?_) (fun h_7 => ?_)
  · refine zx_lookup (tgt := 64) C dX10_tellMind_30 (by decide) (by rw [h_7] <;> rfl) (by decide) ?_
    refine zx_aload_n C 2 dX10_tellMind_64 rfl rfl ?_
    refine zx_get C 2 (by decide) rfl rfl (by decide) inX10 q_235 rfl rfl dX10_tellMind_65 ?_
    refine zx_iload_n C 1 dX10_tellMind_68 rfl rfl ?_
    refine zx_iload_n C 0 dX10_tellMind_69 rfl rfl ?_
    refine zx_aload_n C 2 dX10_tellMind_70 rfl rfl ?_
    refine zx_get C 5 (by decide) rfl rfl (by decide) inX10 q_238 rfl rfl dX10_tellMind_71 ?_
    refine zx_iload_n C 3 dX10_tellMind_74 rfl rfl ?_
    refine zx_iconst (v := 3) C dX10_tellMind_75 (by decide) ?_
    refine zx_iadd C dX10_tellMind_76 ?_
    refine zx_callV (As := [.int (v1 + (3 : Int32))]) (st := [.int r_3, .int r_1, .ref (ad (18 + 1))]) C yk_X5_digitAt q_317 q_318 q_319 (by decide) rfl rfl (k_X5_digitAt C.hO N (v1 + (3 : Int32)) t_6) (by decide) rfl rfl (Nat.le_of_ble_eq_true rfl) dX10_tellMind_77 (fun _ r_8 t_9 => ?_) (fun h9 => nomatch h9)
    refine zx_aload_n C 2 dX10_tellMind_80 rfl rfl ?_
    refine zx_get C 5 (by decide) rfl rfl (by decide) inX10 q_238 rfl rfl dX10_tellMind_81 ?_
    refine zx_iload_n C 3 dX10_tellMind_84 rfl rfl ?_
    refine zx_iconst (v := 4) C dX10_tellMind_85 (by decide) ?_
    refine zx_iadd C dX10_tellMind_86 ?_
    refine zx_callV (As := [.int (v1 + (4 : Int32))]) (st := [.int r_8, .int r_3, .int r_1, .ref (ad (18 + 1))]) C yk_X5_numberAt q_322 q_323 q_324 (by decide) rfl rfl (k_X5_numberAt C.hO N (v1 + (4 : Int32)) t_9) (by decide) rfl rfl (Nat.le_of_ble_eq_true rfl) dX10_tellMind_87 (fun _ r_10 t_11 => ?_) (fun h9 => nomatch h9)
    refine zx_callV (As := [.int r_1, .int r_3, .int r_8, .int r_10]) (st := []) C yk_X4_takeCandle q_327 q_328 q_329 (l_House (j := 1) (by decide)) (c_house (j := 1) (by decide)) rfl (k_X4_takeCandle C.hO N 1 (by decide) r_1 r_3 r_8 r_10 t_11) (by decide) rfl rfl (Nat.le_of_ble_eq_true rfl) dX10_tellMind_90 (fun _ r_12 t_13 => ?_) (fun h9 => nomatch h9)
    exact zx_zretg C dX10_tellMind_93
  · refine zx_ite (fun h_14 => ?_) (fun h_14 => ?_)
    · refine zx_lookup (tgt := 94) C dX10_tellMind_30 (by decide) (by rw [h_14] <;> rfl) (by decide) ?_
      refine zx_aload_n C 2 dX10_tellMind_94 rfl rfl ?_
      refine zx_get C 2 (by decide) rfl rfl (by decide) inX10 q_235 rfl rfl dX10_tellMind_95 ?_
      refine zx_iload_n C 1 dX10_tellMind_98 rfl rfl ?_
      refine zx_iload_n C 0 dX10_tellMind_99 rfl rfl ?_
      refine zx_aload_n C 2 dX10_tellMind_100 rfl rfl ?_
      refine zx_get C 5 (by decide) rfl rfl (by decide) inX10 q_238 rfl rfl dX10_tellMind_101 ?_
      refine zx_iload_n C 3 dX10_tellMind_104 rfl rfl ?_
      refine zx_iconst (v := 3) C dX10_tellMind_105 (by decide) ?_
      refine zx_iadd C dX10_tellMind_106 ?_
      refine zx_callV (As := [.int (v1 + (3 : Int32))]) (st := [.int r_3, .int r_1, .ref (ad (18 + 1))]) C yk_X5_numberAt q_322 q_323 q_324 (by decide) rfl rfl (k_X5_numberAt C.hO N (v1 + (3 : Int32)) t_6) (by decide) rfl rfl (Nat.le_of_ble_eq_true rfl) dX10_tellMind_107 (fun _ r_15 t_16 => ?_) (fun h9 => nomatch h9)
      refine zx_callV (As := [.int r_1, .int r_3, .int r_15]) (st := []) C yk_X4_takeDebt q_337 q_338 q_339 (l_House (j := 1) (by decide)) (c_house (j := 1) (by decide)) rfl (k_X4_takeDebt C.hO N 1 (by decide) r_1 r_3 r_15 t_16) (by decide) rfl rfl (Nat.le_of_ble_eq_true rfl) dX10_tellMind_110 (fun _ r_17 t_18 => ?_) (fun h9 => nomatch h9)
      exact zx_zretg C dX10_tellMind_113
    · refine zx_ite (fun h_19 => ?_) (fun h_19 => ?_)
      · refine zx_lookup (tgt := 114) C dX10_tellMind_30 (by decide) (by rw [h_19] <;> rfl) (by decide) ?_
        refine zx_aload_n C 2 dX10_tellMind_114 rfl rfl ?_
        refine zx_get C 2 (by decide) rfl rfl (by decide) inX10 q_235 rfl rfl dX10_tellMind_115 ?_
        refine zx_iload_n C 1 dX10_tellMind_118 rfl rfl ?_
        refine zx_iload_n C 0 dX10_tellMind_119 rfl rfl ?_
        refine zx_callV (As := [.int r_1, .int r_3]) (st := []) C yk_X4_takeDraught q_348 q_349 q_350 (l_House (j := 1) (by decide)) (c_house (j := 1) (by decide)) rfl (k_X4_takeDraught C.hO N 1 (by decide) r_1 r_3 t_6) (by decide) rfl rfl (Nat.le_of_ble_eq_true rfl) dX10_tellMind_120 (fun _ r_20 t_21 => ?_) (fun h9 => nomatch h9)
        exact zx_zretg C dX10_tellMind_123
      · refine zx_lookup (tgt := 124) C dX10_tellMind_30 (by decide) (lk_out (fun c hc hx => by simp at hc; rcases hc with rfl | rfl | rfl <;> first | exact h_7 hx | exact h_14 hx | exact h_19 hx)) (by decide) ?_
        refine zx_aload_n C 2 dX10_tellMind_124 rfl rfl ?_
        refine zx_get C 2 (by decide) rfl rfl (by decide) inX10 q_235 rfl rfl dX10_tellMind_125 ?_
        refine zx_iload_n C 1 dX10_tellMind_128 rfl rfl ?_
        refine zx_iload_n C 0 dX10_tellMind_129 rfl rfl ?_
        refine zx_callV (As := [.int r_1, .int r_3]) (st := []) C yk_X4_takePlace q_352 q_353 q_354 (l_House (j := 1) (by decide)) (c_house (j := 1) (by decide)) rfl (k_X4_takePlace C.hO N 1 (by decide) r_1 r_3 t_6) (by decide) rfl rfl (Nat.le_of_ble_eq_true rfl) dX10_tellMind_130 (fun _ r_22 t_23 => ?_) (fun h9 => nomatch h9)
        exact zx_zretg C dX10_tellMind_133
def bf_X10_readNight_75 (N : Nat) (v3 : Int32) (σ : zS) : zA := z_b (f_X4_become N 0 1 σ) (fun r_1 t_2 => some (v3, t_2))
set_option maxHeartbeats 4000000 in
set_option maxRecDepth 100000 in
theorem b_X10_readNight_75 {G : zG} {dC : Nat → ClassId} {dI : Nat → Nat → Nat} {A : Nat → Prop} {ad : Nat → Nat} {cI cC cW : ClassId} (C : zC G dC dI A 48 ad (cfC ad cI cC cW) (z_ty cI cC cW) cX10_readNight RX10 4 4 (some .int)) (N : Nat) (v3 : Int32) (σ : zS) : zW G dC dI A 48 ad (cfC ad cI cC cW) 4 true (bf_X10_readNight_75 N  v3 σ) σ 75 [(0, .ref (ad 37)), (3, .int v3)] [] := by
  unfold bf_X10_readNight_75
  refine zx_aload_n C 0 dX10_readNight_75 rfl rfl ?_
  refine zx_get C 1 (by decide) rfl rfl (by decide) inX10 q_234 rfl rfl dX10_readNight_76 ?_
  refine zx_aload_n C 0 dX10_readNight_79 rfl rfl ?_
  refine zx_get C 2 (by decide) rfl rfl (by decide) inX10 q_235 rfl rfl dX10_readNight_80 ?_
  refine zx_callV (As := [.ref (ad (18 + 1))]) (st := []) C yk_X4_become q_302 q_303 q_304 (l_House (j := 0) (by decide)) (c_house (j := 0) (by decide)) rfl (k_X4_become C.hO N 0 (by decide) 1 (by decide) σ) (by decide) rfl rfl (Nat.le_of_ble_eq_true rfl) dX10_readNight_83 (fun h9 => nomatch h9) (fun _ r_1 t_2 => ?_)
  refine zx_iload_n C 1 dX10_readNight_86 rfl rfl ?_
  exact zx_iret C dX10_readNight_87
def bf_X10_readNight_29 (N : Nat) (rec29 : Int32 → Int32 → zS → zA) (v2 : Int32) (v3 : Int32) (σ : zS) : zA := (if (σ 38 1) ≤ v2 then (bf_X10_readNight_75 N v3 σ) else (if (80 : Int32) ≤ v3 then (bf_X10_readNight_75 N v3 σ) else z_b (f_X10_tellMind N v2 σ) (fun r_5 t_6 => (if r_5 = (0 : Int32) then some (((-2000 : Int32) - v2), t_6) else z_b (f_X5_behindStatement N v2 t_6) (fun r_8 t_9 => (rec29 r_8 (v3 + (1 : Int32)) t_9))))))
set_option maxHeartbeats 4000000 in
set_option maxRecDepth 100000 in
theorem b_X10_readNight_29 {G : zG} {dC : Nat → ClassId} {dI : Nat → Nat → Nat} {A : Nat → Prop} {ad : Nat → Nat} {cI cC cW : ClassId} (C : zC G dC dI A 48 ad (cfC ad cI cC cW) (z_ty cI cC cW) cX10_readNight RX10 4 4 (some .int)) (N : Nat) (rec29 : Int32 → Int32 → zS → zA) (hrec29 : ∀ (v2 : Int32) (v3 : Int32) (σ : zS), zW G dC dI A 48 ad (cfC ad cI cC cW) 4 true (rec29 v2 v3 σ) σ 29 [(0, .ref (ad 37)), (2, .int v2), (3, .int v3)] []) (v2 : Int32) (v3 : Int32) (σ : zS) : zW G dC dI A 48 ad (cfC ad cI cC cW) 4 true (bf_X10_readNight_29 N rec29 v2 v3 σ) σ 29 [(0, .ref (ad 37)), (2, .int v2), (3, .int v3)] [] := by
  unfold bf_X10_readNight_29
  refine zx_iload_n C 1 dX10_readNight_29 rfl rfl ?_
  refine zx_aload_n C 0 dX10_readNight_30 rfl rfl ?_
  refine zx_get C 5 (by decide) rfl rfl (by decide) inX10 q_238 rfl rfl dX10_readNight_31 ?_
  refine zx_get C 1 (by decide) rfl rfl (by decide) inX5 q_200 rfl rfl dX10_readNight_34 ?_
  refine zx_icmp_ge (tgt := 75) C dX10_readNight_37 (by decide) (fun h_3 => ?_) (fun h_3 => ?_)
  · exact zx_sub (L1 := [(0, .ref (ad 37)), (3, .int v3)]) [0, 2] rfl (b_X10_readNight_75 C N v3 σ)
  · refine zx_iload_n C 2 dX10_readNight_40 rfl rfl ?_
    refine zx_bipush (v := 80) C dX10_readNight_41 (by decide) ?_
    refine zx_icmp_ge (tgt := 75) C dX10_readNight_43 (by decide) (fun h_4 => ?_) (fun h_4 => ?_)
    · exact zx_sub (L1 := [(0, .ref (ad 37)), (3, .int v3)]) [0, 2] rfl (b_X10_readNight_75 C N v3 σ)
    · refine zx_aload_n C 0 dX10_readNight_46 rfl rfl ?_
      refine zx_iload_n C 1 dX10_readNight_47 rfl rfl ?_
      refine zx_callV (As := [.int v2]) (st := []) C yk_X10_tellMind q_313 q_315 q_3 (by decide) rfl rfl (k_X10_tellMind C.hO N v2 σ) (by decide) rfl rfl (Nat.le_of_ble_eq_true rfl) dX10_readNight_48 (fun _ r_5 t_6 => ?_) (fun h9 => nomatch h9)
      refine zx_if_ne (tgt := 60) C dX10_readNight_51 (by decide) (fun h_7 => ?_) (fun h_7 => ?_)
      · refine zx_aload_n C 0 dX10_readNight_60 rfl rfl ?_
        refine zx_get C 5 (by decide) rfl rfl (by decide) inX10 q_238 rfl rfl dX10_readNight_61 ?_
        refine zx_iload_n C 1 dX10_readNight_64 rfl rfl ?_
        refine zx_callV (As := [.int v2]) (st := []) C yk_X5_behindStatement q_356 q_285 q_286 (by decide) rfl rfl (k_X5_behindStatement C.hO N v2 t_6) (by decide) rfl rfl (Nat.le_of_ble_eq_true rfl) dX10_readNight_65 (fun _ r_8 t_9 => ?_) (fun h9 => nomatch h9)
        refine zx_istore_n (L1 := [(2, .int r_8), (0, .ref (ad 37)), (3, .int v3)]) C dX10_readNight_68 rfl (by decide) rfl ?_
        refine zx_iinc (v := (v3 + (1 : Int32))) (L1 := [(3, .int (v3 + (1 : Int32))), (2, .int r_8), (0, .ref (ad 37))]) C 2 dX10_readNight_69 rfl rfl (by decide) rfl ?_
        refine zx_goto (tgt := 29) C dX10_readNight_72 (by decide) ?_
        exact zx_sub (L1 := [(0, .ref (ad 37)), (2, .int r_8), (3, .int (v3 + (1 : Int32)))]) [2, 1, 0] rfl (hrec29 r_8 (v3 + (1 : Int32)) t_9)
      · refine zx_sipush (v := -2000) C dX10_readNight_54 (by decide) ?_
        refine zx_iload_n C 1 dX10_readNight_57 rfl rfl ?_
        refine zx_isub C dX10_readNight_58 ?_
        exact zx_iret C dX10_readNight_59
def lf_X10_readNight_29 (N : Nat) : Nat → Int32 → Int32 → zS → zA
  | 0, _, _, _ => none
  | n + 1, v2, v3, σ => bf_X10_readNight_29 N (lf_X10_readNight_29 N  n) v2 v3 σ
theorem l_X10_readNight_29 {G : zG} {dC : Nat → ClassId} {dI : Nat → Nat → Nat} {A : Nat → Prop} {ad : Nat → Nat} {cI cC cW : ClassId} (C : zC G dC dI A 48 ad (cfC ad cI cC cW) (z_ty cI cC cW) cX10_readNight RX10 4 4 (some .int)) (N : Nat) : ∀ (n : Nat) (v2 : Int32) (v3 : Int32) (σ : zS), zW G dC dI A 48 ad (cfC ad cI cC cW) 4 true (lf_X10_readNight_29 N  n v2 v3 σ) σ 29 [(0, .ref (ad 37)), (2, .int v2), (3, .int v3)] [] := by
  intro n
  induction n with
  | zero => intro v2 v3 σ; exact zx_none
  | succ n ih => intro v2 v3 σ; exact b_X10_readNight_29 C N (lf_X10_readNight_29 N  n) ih v2 v3 σ
def f_X10_readNight (N : Nat) (σ : zS) : zA := z_b (f_X5_formFault N σ) (fun r_10 t_11 => (if r_10 = (0 : Int32) then z_b (f_X4_become N 1 0 t_11) (fun r_13 t_14 => (lf_X10_readNight_29 N N (0 : Int32) (0 : Int32) t_14)) else some (r_10, t_11)))
set_option maxHeartbeats 4000000 in
set_option maxRecDepth 100000 in
theorem k_X10_readNight {l : Launch} {dC : Nat → ClassId} {dI : Nat → Nat → Nat} {A : Nat → Prop} {ad : Nat → Nat} {cI cC cW : ClassId} (hO : zO A 48 ad (cfC ad cI cC cW)) (N : Nat) (σ : zS) : zM l dC dI A 48 ad (cfC ad cI cC cW) (z_ty cI cC cW) true yX10_readNight cX10_readNight 4 (some .int) 4 [.ref (ad 37)] σ (f_X10_readNight N  σ) := by
  refine zM_of hO (by decide) (Nat.le_of_ble_eq_true rfl) (fun G hG C => ?_)
  subst hG
  unfold f_X10_readNight
  refine zx_sub (L1 := [(0, .ref (ad 37))]) [0] rfl ?_
  refine zx_aload_n C 0 dX10_readNight_0 rfl rfl ?_
  refine zx_get C 5 (by decide) rfl rfl (by decide) inX10 q_238 rfl rfl dX10_readNight_1 ?_
  refine zx_callV (As := []) (st := []) C yk_X5_formFault q_280 q_281 q_282 (by decide) rfl rfl (k_X5_formFault C.hO N σ) (by decide) rfl rfl (Nat.le_of_ble_eq_true rfl) dX10_readNight_4 (fun _ r_10 t_11 => ?_) (fun h9 => nomatch h9)
  refine zx_istore_n (L1 := [(1, .int r_10), (0, .ref (ad 37))]) C dX10_readNight_7 rfl (by decide) rfl ?_
  refine zx_iload_n C 0 dX10_readNight_8 rfl rfl ?_
  refine zx_if_eq (tgt := 14) C dX10_readNight_9 (by decide) (fun h_12 => ?_) (fun h_12 => ?_)
  · refine zx_aload_n C 1 dX10_readNight_14 rfl rfl ?_
    refine zx_get C 2 (by decide) rfl rfl (by decide) inX10 q_235 rfl rfl dX10_readNight_15 ?_
    refine zx_aload_n C 1 dX10_readNight_18 rfl rfl ?_
    refine zx_get C 1 (by decide) rfl rfl (by decide) inX10 q_234 rfl rfl dX10_readNight_19 ?_
    refine zx_callV (As := [.ref (ad (18 + 0))]) (st := []) C yk_X4_become q_302 q_303 q_304 (l_House (j := 1) (by decide)) (c_house (j := 1) (by decide)) rfl (k_X4_become C.hO N 1 (by decide) 0 (by decide) t_11) (by decide) rfl rfl (Nat.le_of_ble_eq_true rfl) dX10_readNight_22 (fun h9 => nomatch h9) (fun _ r_13 t_14 => ?_)
    refine zx_iconst (v := 0) C dX10_readNight_25 (by decide) ?_
    refine zx_istore_n (L1 := [(2, .int (0 : Int32)), (1, .int r_10), (0, .ref (ad 37))]) C dX10_readNight_26 rfl (by decide) rfl ?_
    refine zx_iconst (v := 0) C dX10_readNight_27 (by decide) ?_
    refine zx_istore_n (L1 := [(3, .int (0 : Int32)), (2, .int (0 : Int32)), (1, .int r_10), (0, .ref (ad 37))]) C dX10_readNight_28 rfl (by decide) rfl ?_
    exact zx_sub (L1 := [(0, .ref (ad 37)), (2, .int (0 : Int32)), (3, .int (0 : Int32))]) [3, 1, 0] rfl (l_X10_readNight_29 C N N (0 : Int32) (0 : Int32) t_14)
  · refine zx_iload_n C 0 dX10_readNight_12 rfl rfl ?_
    exact zx_iret C dX10_readNight_13
def f_X10_night (N : Nat) (σ : zS) : zA := z_b (f_X10_readNight N σ) (fun r_1 t_2 => z_m (z_put t_2 38 1 (0 : Int32)) (fun t_3 => some (r_1, t_3)))
set_option maxHeartbeats 4000000 in
set_option maxRecDepth 100000 in
theorem k_X10_night {l : Launch} {dC : Nat → ClassId} {dI : Nat → Nat → Nat} {A : Nat → Prop} {ad : Nat → Nat} {cI cC cW : ClassId} (hO : zO A 48 ad (cfC ad cI cC cW)) (N : Nat) (σ : zS) : zM l dC dI A 48 ad (cfC ad cI cC cW) (z_ty cI cC cW) true yX10_night cX10_night 2 (some .int) 5 [.ref (ad 37)] σ (f_X10_night N  σ) := by
  refine zM_of hO (by decide) (Nat.le_of_ble_eq_true rfl) (fun G hG C => ?_)
  subst hG
  unfold f_X10_night
  refine zx_sub (L1 := [(0, .ref (ad 37))]) [0] rfl ?_
  refine zx_aload_n C 0 dX10_night_0 rfl rfl ?_
  refine zx_callV (As := []) (st := []) C yk_X10_readNight q_276 q_278 q_1 (by decide) rfl rfl (k_X10_readNight C.hO N σ) (by decide) rfl rfl (Nat.le_of_ble_eq_true rfl) dX10_night_1 (fun _ r_1 t_2 => ?_) (fun h9 => nomatch h9)
  refine zx_istore_n (L1 := [(1, .int r_1), (0, .ref (ad 37))]) C dX10_night_4 rfl (by decide) rfl ?_
  refine zx_aload_n C 1 dX10_night_5 rfl rfl ?_
  refine zx_get C 5 (by decide) rfl rfl (by decide) inX10 q_238 rfl rfl dX10_night_6 ?_
  refine zx_iconst (v := 0) C dX10_night_9 (by decide) ?_
  refine zx_put (ty := .int) C 1 (by decide) rfl rfl (by decide) inX5 tyX5 tyX5_ok nmX5 q_200 rfl rfl (by decide +kernel) rfl rfl (Nat.le_of_ble_eq_true rfl) (by rfl) dX10_night_10 (fun t_3 => ?_)
  refine zx_iload_n C 0 dX10_night_13 rfl rfl ?_
  exact zx_iret C dX10_night_14
def f_X10_isCandle (N : Nat) (v1 : Int32) (σ : zS) : zA := (if v1 < (0 : Int32) then some ((0 : Int32), σ) else (if (σ (18 + 0) 4) ≤ v1 then some ((0 : Int32), σ) else some ((1 : Int32), σ)))
set_option maxHeartbeats 4000000 in
set_option maxRecDepth 100000 in
theorem k_X10_isCandle {l : Launch} {dC : Nat → ClassId} {dI : Nat → Nat → Nat} {A : Nat → Prop} {ad : Nat → Nat} {cI cC cW : ClassId} (hO : zO A 48 ad (cfC ad cI cC cW)) (N : Nat) (v1 : Int32) (σ : zS) : zM l dC dI A 48 ad (cfC ad cI cC cW) (z_ty cI cC cW) true yX10_isCandle cX10_isCandle 2 (some .boolean) 0 [.ref (ad 37), .int v1] σ (f_X10_isCandle N v1 σ) := by
  refine zM_of hO (by decide) (Nat.le_of_ble_eq_true rfl) (fun G hG C => ?_)
  subst hG
  unfold f_X10_isCandle
  refine zx_sub (L1 := [(0, .ref (ad 37)), (1, .int v1)]) [0, 1] rfl ?_
  refine zx_iload_n C 1 dX10_isCandle_0 rfl rfl ?_
  refine zx_if_lt (tgt := 19) C dX10_isCandle_1 (by decide) (fun h_1 => ?_) (fun h_1 => ?_)
  · refine zx_iconst (v := 0) C dX10_isCandle_19 (by decide) ?_
    exact zx_zret C (by decide) dX10_isCandle_20
  · refine zx_iload_n C 1 dX10_isCandle_4 rfl rfl ?_
    refine zx_aload_n C 0 dX10_isCandle_5 rfl rfl ?_
    refine zx_get C 1 (by decide) rfl rfl (by decide) inX10 q_234 rfl rfl dX10_isCandle_6 ?_
    refine zx_get C 4 (l_House (j := 0) (by decide)) (c_house (j := 0) (by decide)) rfl (by decide) inX4 q_162 rfl rfl dX10_isCandle_9 ?_
    refine zx_icmp_ge (tgt := 19) C dX10_isCandle_12 (by decide) (fun h_2 => ?_) (fun h_2 => ?_)
    · refine zx_iconst (v := 0) C dX10_isCandle_19 (by decide) ?_
      exact zx_zret C (by decide) dX10_isCandle_20
    · refine zx_iconst (v := 1) C dX10_isCandle_15 (by decide) ?_
      refine zx_goto (tgt := 20) C dX10_isCandle_16 (by decide) ?_
      exact zx_zret C (by decide) dX10_isCandle_20
def f_X10_candle (N : Nat) (v1 : Int32) (v2 : Int32) (σ : zS) : zA := z_b (f_X10_isCandle N v1 σ) (fun r_1 t_2 => (if r_1 = (0 : Int32) then z_b (f_X10_refuse N (-1 : Int32) t_2) (fun r_23 t_24 => some (r_23, t_24)) else z_g (z_in v1 6) ((if v2 = (0 : Int32) then some ((t_2 (6 * 0 + v1.toNatClampNeg) 0), t_2) else (if v2 = (1 : Int32) then some ((t_2 (6 * 0 + v1.toNatClampNeg) 1), t_2) else (if v2 = (2 : Int32) then some ((t_2 (6 * 0 + v1.toNatClampNeg) 2), t_2) else (if v2 = (3 : Int32) then some ((t_2 (6 * 0 + v1.toNatClampNeg) 3), t_2) else (if v2 = (4 : Int32) then some ((t_2 (6 * 0 + v1.toNatClampNeg) 4), t_2) else (if v2 = (5 : Int32) then (if (t_2 (6 * 0 + v1.toNatClampNeg) 5) = (0 : Int32) then some ((0 : Int32), t_2) else some ((1 : Int32), t_2)) else (if v2 = (6 : Int32) then z_b (f_X4_burnsOf N 0 (6 * 0 + v1.toNatClampNeg) t_2) (fun r_13 t_14 => some (r_13, t_14)) else (if v2 = (7 : Int32) then z_b (f_X4_dripsOf N 0 (6 * 0 + v1.toNatClampNeg) t_2) (fun r_16 t_17 => some (r_16, t_17)) else (if v2 = (8 : Int32) then z_b (f_X4_worthOf N 0 (6 * 0 + v1.toNatClampNeg) t_2) (fun r_19 t_20 => some (r_19, t_20)) else z_b (f_X10_refuse N (-2 : Int32) t_2) (fun r_21 t_22 => some (r_21, t_22))))))))))))))
set_option maxHeartbeats 4000000 in
set_option maxRecDepth 100000 in
theorem k_X10_candle {l : Launch} {dC : Nat → ClassId} {dI : Nat → Nat → Nat} {A : Nat → Prop} {ad : Nat → Nat} {cI cC cW : ClassId} (hO : zO A 48 ad (cfC ad cI cC cW)) (N : Nat) (v1 : Int32) (v2 : Int32) (σ : zS) : zM l dC dI A 48 ad (cfC ad cI cC cW) (z_ty cI cC cW) true yX10_candle cX10_candle 4 (some .int) 5 [.ref (ad 37), .int v1, .int v2] σ (f_X10_candle N v1 v2 σ) := by
  refine zM_of hO (by decide) (Nat.le_of_ble_eq_true rfl) (fun G hG C => ?_)
  subst hG
  unfold f_X10_candle
  refine zx_sub (L1 := [(0, .ref (ad 37)), (1, .int v1), (2, .int v2)]) [0, 1, 2] rfl ?_
  refine zx_aload_n C 0 dX10_candle_0 rfl rfl ?_
  refine zx_iload_n C 1 dX10_candle_1 rfl rfl ?_
  refine zx_callV (As := [.int v1]) (st := []) C yk_X10_isCandle q_361 q_363 q_4 (by decide) rfl rfl (k_X10_isCandle C.hO N v1 σ) (by decide) rfl rfl (Nat.le_of_ble_eq_true rfl) dX10_candle_2 (fun _ r_1 t_2 => ?_) (fun h9 => nomatch h9)
  refine zx_if_ne (tgt := 14) C dX10_candle_5 (by decide) (fun h_3 => ?_) (fun h_3 => ?_)
  · refine zx_aload_n C 0 dX10_candle_14 rfl rfl ?_
    refine zx_get C 1 (by decide) rfl rfl (by decide) inX10 q_234 rfl rfl dX10_candle_15 ?_
    refine zx_get C 1 (l_House (j := 0) (by decide)) (c_house (j := 0) (by decide)) rfl (by decide) inX4 q_153 rfl rfl dX10_candle_18 ?_
    refine zx_iload_n C 1 dX10_candle_21 rfl rfl ?_
    refine zx_aald C 1 (l_cands (j := 0) (by decide)) (c_cands (j := 0) (by decide)) rfl dX10_candle_22 (fun h_4 => ?_)
    refine zx_astore_n (L1 := [(3, .ref (ad (6 * 0 + v1.toNatClampNeg))), (0, .ref (ad 37)), (1, .int v1), (2, .int v2)]) C dX10_candle_23 rfl (by decide) rfl ?_
    refine zx_iload_n C 3 dX10_candle_24 rfl rfl ?_
    refine zx_ite (fun h_5 => ?_) (fun h_5 => ?_)
    · refine zx_tableIn (tgt := 76) C dX10_candle_25 (by rw [h_5] <;> decide) (by rw [h_5] <;> decide) (by rw [h_5] <;> rfl) (by decide) ?_
      refine zx_aload_n C 0 dX10_candle_76 rfl rfl ?_
      refine zx_get C 0 (l_cand (c := (6 * 0 + v1.toNatClampNeg)) (cand_lt h_4 (by decide))) (c_cand (c := (6 * 0 + v1.toNatClampNeg)) (cand_lt h_4 (by decide))) rfl (by decide) inX1 q_117 rfl rfl dX10_candle_77 ?_
      exact zx_iret C dX10_candle_80
    · refine zx_ite (fun h_6 => ?_) (fun h_6 => ?_)
      · refine zx_tableIn (tgt := 81) C dX10_candle_25 (by rw [h_6] <;> decide) (by rw [h_6] <;> decide) (by rw [h_6] <;> rfl) (by decide) ?_
        refine zx_aload_n C 0 dX10_candle_81 rfl rfl ?_
        refine zx_get C 1 (l_cand (c := (6 * 0 + v1.toNatClampNeg)) (cand_lt h_4 (by decide))) (c_cand (c := (6 * 0 + v1.toNatClampNeg)) (cand_lt h_4 (by decide))) rfl (by decide) inX1 q_121 rfl rfl dX10_candle_82 ?_
        exact zx_iret C dX10_candle_85
      · refine zx_ite (fun h_7 => ?_) (fun h_7 => ?_)
        · refine zx_tableIn (tgt := 86) C dX10_candle_25 (by rw [h_7] <;> decide) (by rw [h_7] <;> decide) (by rw [h_7] <;> rfl) (by decide) ?_
          refine zx_aload_n C 0 dX10_candle_86 rfl rfl ?_
          refine zx_get C 2 (l_cand (c := (6 * 0 + v1.toNatClampNeg)) (cand_lt h_4 (by decide))) (c_cand (c := (6 * 0 + v1.toNatClampNeg)) (cand_lt h_4 (by decide))) rfl (by decide) inX1 q_125 rfl rfl dX10_candle_87 ?_
          exact zx_iret C dX10_candle_90
        · refine zx_ite (fun h_8 => ?_) (fun h_8 => ?_)
          · refine zx_tableIn (tgt := 91) C dX10_candle_25 (by rw [h_8] <;> decide) (by rw [h_8] <;> decide) (by rw [h_8] <;> rfl) (by decide) ?_
            refine zx_aload_n C 0 dX10_candle_91 rfl rfl ?_
            refine zx_get C 3 (l_cand (c := (6 * 0 + v1.toNatClampNeg)) (cand_lt h_4 (by decide))) (c_cand (c := (6 * 0 + v1.toNatClampNeg)) (cand_lt h_4 (by decide))) rfl (by decide) inX1 q_127 rfl rfl dX10_candle_92 ?_
            exact zx_iret C dX10_candle_95
          · refine zx_ite (fun h_9 => ?_) (fun h_9 => ?_)
            · refine zx_tableIn (tgt := 96) C dX10_candle_25 (by rw [h_9] <;> decide) (by rw [h_9] <;> decide) (by rw [h_9] <;> rfl) (by decide) ?_
              refine zx_aload_n C 0 dX10_candle_96 rfl rfl ?_
              refine zx_get C 4 (l_cand (c := (6 * 0 + v1.toNatClampNeg)) (cand_lt h_4 (by decide))) (c_cand (c := (6 * 0 + v1.toNatClampNeg)) (cand_lt h_4 (by decide))) rfl (by decide) inX1 q_132 rfl rfl dX10_candle_97 ?_
              exact zx_iret C dX10_candle_100
            · refine zx_ite (fun h_10 => ?_) (fun h_10 => ?_)
              · refine zx_tableIn (tgt := 101) C dX10_candle_25 (by rw [h_10] <;> decide) (by rw [h_10] <;> decide) (by rw [h_10] <;> rfl) (by decide) ?_
                refine zx_aload_n C 0 dX10_candle_101 rfl rfl ?_
                refine zx_get C 5 (l_cand (c := (6 * 0 + v1.toNatClampNeg)) (cand_lt h_4 (by decide))) (c_cand (c := (6 * 0 + v1.toNatClampNeg)) (cand_lt h_4 (by decide))) rfl (by decide) inX1 q_134 rfl rfl dX10_candle_102 ?_
                refine zx_if_eq (tgt := 112) C dX10_candle_105 (by decide) (fun h_11 => ?_) (fun h_11 => ?_)
                · refine zx_iconst (v := 0) C dX10_candle_112 (by decide) ?_
                  exact zx_iret C dX10_candle_113
                · refine zx_iconst (v := 1) C dX10_candle_108 (by decide) ?_
                  refine zx_goto (tgt := 113) C dX10_candle_109 (by decide) ?_
                  exact zx_iret C dX10_candle_113
              · refine zx_ite (fun h_12 => ?_) (fun h_12 => ?_)
                · refine zx_tableIn (tgt := 114) C dX10_candle_25 (by rw [h_12] <;> decide) (by rw [h_12] <;> decide) (by rw [h_12] <;> rfl) (by decide) ?_
                  refine zx_aload_n C 1 dX10_candle_114 rfl rfl ?_
                  refine zx_get C 1 (by decide) rfl rfl (by decide) inX10 q_234 rfl rfl dX10_candle_115 ?_
                  refine zx_aload_n C 0 dX10_candle_118 rfl rfl ?_
                  refine zx_callV (As := [.ref (ad (6 * 0 + v1.toNatClampNeg))]) (st := []) C yk_X4_burnsOf q_365 q_366 q_367 (l_House (j := 0) (by decide)) (c_house (j := 0) (by decide)) rfl (k_X4_burnsOf C.hO N 0 (by decide) (6 * 0 + v1.toNatClampNeg) (cand_lt h_4 (by decide)) t_2) (by decide) rfl rfl (Nat.le_of_ble_eq_true rfl) dX10_candle_119 (fun _ r_13 t_14 => ?_) (fun h9 => nomatch h9)
                  exact zx_iret C dX10_candle_122
                · refine zx_ite (fun h_15 => ?_) (fun h_15 => ?_)
                  · refine zx_tableIn (tgt := 123) C dX10_candle_25 (by rw [h_15] <;> decide) (by rw [h_15] <;> decide) (by rw [h_15] <;> rfl) (by decide) ?_
                    refine zx_aload_n C 1 dX10_candle_123 rfl rfl ?_
                    refine zx_get C 1 (by decide) rfl rfl (by decide) inX10 q_234 rfl rfl dX10_candle_124 ?_
                    refine zx_aload_n C 0 dX10_candle_127 rfl rfl ?_
                    refine zx_callV (As := [.ref (ad (6 * 0 + v1.toNatClampNeg))]) (st := []) C yk_X4_dripsOf q_400 q_401 q_402 (l_House (j := 0) (by decide)) (c_house (j := 0) (by decide)) rfl (k_X4_dripsOf C.hO N 0 (by decide) (6 * 0 + v1.toNatClampNeg) (cand_lt h_4 (by decide)) t_2) (by decide) rfl rfl (Nat.le_of_ble_eq_true rfl) dX10_candle_128 (fun _ r_16 t_17 => ?_) (fun h9 => nomatch h9)
                    exact zx_iret C dX10_candle_131
                  · refine zx_ite (fun h_18 => ?_) (fun h_18 => ?_)
                    · refine zx_tableIn (tgt := 132) C dX10_candle_25 (by rw [h_18] <;> decide) (by rw [h_18] <;> decide) (by rw [h_18] <;> rfl) (by decide) ?_
                      refine zx_aload_n C 1 dX10_candle_132 rfl rfl ?_
                      refine zx_get C 1 (by decide) rfl rfl (by decide) inX10 q_234 rfl rfl dX10_candle_133 ?_
                      refine zx_aload_n C 0 dX10_candle_136 rfl rfl ?_
                      refine zx_callV (As := [.ref (ad (6 * 0 + v1.toNatClampNeg))]) (st := []) C yk_X4_worthOf q_426 q_427 q_428 (l_House (j := 0) (by decide)) (c_house (j := 0) (by decide)) rfl (k_X4_worthOf C.hO N 0 (by decide) (6 * 0 + v1.toNatClampNeg) (cand_lt h_4 (by decide)) t_2) (by decide) rfl rfl (Nat.le_of_ble_eq_true rfl) dX10_candle_137 (fun _ r_19 t_20 => ?_) (fun h9 => nomatch h9)
                      exact zx_iret C dX10_candle_140
                    · refine zx_tableOut (tgt := 141) C dX10_candle_25 (z_out (fun c h1 h2 hx => by rcases (show c = 0 ∨ c = 1 ∨ c = 2 ∨ c = 3 ∨ c = 4 ∨ c = 5 ∨ c = 6 ∨ c = 7 ∨ c = 8 by omega) with rfl | rfl | rfl | rfl | rfl | rfl | rfl | rfl | rfl <;> first | exact h_5 hx | exact h_6 hx | exact h_7 hx | exact h_8 hx | exact h_9 hx | exact h_10 hx | exact h_12 hx | exact h_15 hx | exact h_18 hx)) (by decide) ?_
                      refine zx_aload_n C 1 dX10_candle_141 rfl rfl ?_
                      refine zx_bipush (v := -2) C dX10_candle_142 (by decide) ?_
                      refine zx_callV (As := [.int (-2 : Int32)]) (st := []) C yk_X10_refuse q_268 q_270 q_0 (by decide) rfl rfl (k_X10_refuse C.hO N (-2 : Int32) t_2) (by decide) rfl rfl (Nat.le_of_ble_eq_true rfl) dX10_candle_144 (fun _ r_21 t_22 => ?_) (fun h9 => nomatch h9)
                      exact zx_iret C dX10_candle_147
  · refine zx_aload_n C 0 dX10_candle_8 rfl rfl ?_
    refine zx_iconst (v := -1) C dX10_candle_9 (by decide) ?_
    refine zx_callV (As := [.int (-1 : Int32)]) (st := []) C yk_X10_refuse q_268 q_270 q_0 (by decide) rfl rfl (k_X10_refuse C.hO N (-1 : Int32) t_2) (by decide) rfl rfl (Nat.le_of_ble_eq_true rfl) dX10_candle_10 (fun _ r_23 t_24 => ?_) (fun h9 => nomatch h9)
    exact zx_iret C dX10_candle_13
def bf_X10_put_15 (N : Nat) (σ : zS) : zA := z_b (f_X10_refuse N (-1 : Int32) σ) (fun r_1 t_2 => some (r_1, t_2))
set_option maxHeartbeats 4000000 in
set_option maxRecDepth 100000 in
theorem b_X10_put_15 {G : zG} {dC : Nat → ClassId} {dI : Nat → Nat → Nat} {A : Nat → Prop} {ad : Nat → Nat} {cI cC cW : ClassId} (C : zC G dC dI A 48 ad (cfC ad cI cC cW) (z_ty cI cC cW) cX10_put RX10 5 1 (some .int)) (N : Nat) (σ : zS) : zW G dC dI A 48 ad (cfC ad cI cC cW) 5 true (bf_X10_put_15 N   σ) σ 15 [(0, .ref (ad 37))] [] := by
  unfold bf_X10_put_15
  refine zx_aload_n C 0 dX10_put_15 rfl rfl ?_
  refine zx_iconst (v := -1) C dX10_put_16 (by decide) ?_
  refine zx_callV (As := [.int (-1 : Int32)]) (st := []) C yk_X10_refuse q_268 q_270 q_0 (by decide) rfl rfl (k_X10_refuse C.hO N (-1 : Int32) σ) (by decide) rfl rfl (Nat.le_of_ble_eq_true rfl) dX10_put_17 (fun _ r_1 t_2 => ?_) (fun h9 => nomatch h9)
  exact zx_iret C dX10_put_20
def f_X10_put (N : Nat) (v1 : Int32) (v2 : Int32) (σ : zS) : zA := z_b (f_X10_isCandle N v1 σ) (fun r_3 t_4 => (if r_3 = (0 : Int32) then (bf_X10_put_15 N t_4) else z_b (f_X10_isPerson N v2 t_4) (fun r_6 t_7 => (if r_6 = (0 : Int32) then (bf_X10_put_15 N t_7) else z_g (z_in v1 6) (z_n (t_7 (6 * 0 + v1.toNatClampNeg) 4) (fun z_10 => z_m (z_put t_7 (6 * 0 + v1.toNatClampNeg) 4 v2) (fun t_11 => some (z_10, t_11))))))))
set_option maxHeartbeats 4000000 in
set_option maxRecDepth 100000 in
theorem k_X10_put {l : Launch} {dC : Nat → ClassId} {dI : Nat → Nat → Nat} {A : Nat → Prop} {ad : Nat → Nat} {cI cC cW : ClassId} (hO : zO A 48 ad (cfC ad cI cC cW)) (N : Nat) (v1 : Int32) (v2 : Int32) (σ : zS) : zM l dC dI A 48 ad (cfC ad cI cC cW) (z_ty cI cC cW) true yX10_put cX10_put 5 (some .int) 1 [.ref (ad 37), .int v1, .int v2] σ (f_X10_put N v1 v2 σ) := by
  refine zM_of hO (by decide) (Nat.le_of_ble_eq_true rfl) (fun G hG C => ?_)
  subst hG
  unfold f_X10_put
  refine zx_sub (L1 := [(0, .ref (ad 37)), (1, .int v1), (2, .int v2)]) [0, 1, 2] rfl ?_
  refine zx_aload_n C 0 dX10_put_0 rfl rfl ?_
  refine zx_iload_n C 1 dX10_put_1 rfl rfl ?_
  refine zx_callV (As := [.int v1]) (st := []) C yk_X10_isCandle q_361 q_363 q_4 (by decide) rfl rfl (k_X10_isCandle C.hO N v1 σ) (by decide) rfl rfl (Nat.le_of_ble_eq_true rfl) dX10_put_2 (fun _ r_3 t_4 => ?_) (fun h9 => nomatch h9)
  refine zx_if_eq (tgt := 15) C dX10_put_5 (by decide) (fun h_5 => ?_) (fun h_5 => ?_)
  · exact zx_sub (L1 := [(0, .ref (ad 37))]) [0] rfl (b_X10_put_15 C N t_4)
  · refine zx_iload_n C 2 dX10_put_8 rfl rfl ?_
    refine zx_callS (av := [.int v2]) (st := []) C yk_X10_isPerson q_344 q_335 (k_X10_isPerson C.hO N v2 t_4) (by decide) rfl rfl (Nat.le_of_ble_eq_true rfl) dX10_put_9 (fun _ r_6 t_7 => ?_) (fun h9 => nomatch h9)
    refine zx_if_ne (tgt := 21) C dX10_put_12 (by decide) (fun h_8 => ?_) (fun h_8 => ?_)
    · refine zx_aload_n C 0 dX10_put_21 rfl rfl ?_
      refine zx_get C 1 (by decide) rfl rfl (by decide) inX10 q_234 rfl rfl dX10_put_22 ?_
      refine zx_get C 1 (l_House (j := 0) (by decide)) (c_house (j := 0) (by decide)) rfl (by decide) inX4 q_153 rfl rfl dX10_put_25 ?_
      refine zx_iload_n C 1 dX10_put_28 rfl rfl ?_
      refine zx_aald C 1 (l_cands (j := 0) (by decide)) (c_cands (j := 0) (by decide)) rfl dX10_put_29 (fun h_9 => ?_)
      refine zx_astore_n (L1 := [(3, .ref (ad (6 * 0 + v1.toNatClampNeg))), (0, .ref (ad 37)), (1, .int v1), (2, .int v2)]) C dX10_put_30 rfl (by decide) rfl ?_
      refine zx_aload_n C 0 dX10_put_31 rfl rfl ?_
      refine zx_get C 4 (l_cand (c := (6 * 0 + v1.toNatClampNeg)) (cand_lt h_9 (by decide))) (c_cand (c := (6 * 0 + v1.toNatClampNeg)) (cand_lt h_9 (by decide))) rfl (by decide) inX1 q_132 rfl rfl dX10_put_32 ?_
      refine zx_n (fun z_10 => ?_)
      refine zx_istore (L1 := [(4, .int z_10), (3, .ref (ad (6 * 0 + v1.toNatClampNeg))), (0, .ref (ad 37)), (1, .int v1), (2, .int v2)]) C dX10_put_35 (by decide) rfl ?_
      refine zx_aload_n C 1 dX10_put_37 rfl rfl ?_
      refine zx_iload_n C 4 dX10_put_38 rfl rfl ?_
      refine zx_put (ty := .int) C 4 (l_cand (c := (6 * 0 + v1.toNatClampNeg)) (cand_lt h_9 (by decide))) (c_cand (c := (6 * 0 + v1.toNatClampNeg)) (cand_lt h_9 (by decide))) rfl (by decide) inX1 tyX1 tyX1_ok nmX1 q_132 rfl rfl (by decide +kernel) rfl rfl (Nat.le_of_ble_eq_true rfl) (by rw [c_cand (c := (6 * 0 + v1.toNatClampNeg)) (cand_lt h_9 (by decide)), z_put_same]; rfl) dX10_put_39 (fun t_11 => ?_)
      refine zx_iload C 0 dX10_put_42 rfl ?_
      exact zx_iret C dX10_put_44
    · exact zx_sub (L1 := [(0, .ref (ad 37))]) [0] rfl (b_X10_put_15 C N t_7)
def bf_X10_light_42 (N : Nat) (v2 : Int32) (c3 : Nat) (σ : zS) : zA := (if (σ c3 5) = v2 then some ((0 : Int32), σ) else z_g (z_bo v2) (z_m (z_put σ c3 5 v2) (fun t_2 => some ((1 : Int32), t_2))))
set_option maxHeartbeats 4000000 in
set_option maxRecDepth 100000 in
theorem b_X10_light_42 {G : zG} {dC : Nat → ClassId} {dI : Nat → Nat → Nat} {A : Nat → Prop} {ad : Nat → Nat} {cI cC cW : ClassId} (C : zC G dC dI A 48 ad (cfC ad cI cC cW) (z_ty cI cC cW) cX10_light RX10 4 1 (some .int)) (N : Nat) (v2 : Int32) (c3 : Nat) (hc3 : c3 < 18) (σ : zS) : zW G dC dI A 48 ad (cfC ad cI cC cW) 4 true (bf_X10_light_42 N  v2 c3 σ) σ 42 [(2, .int v2), (3, .ref (ad c3))] [] := by
  unfold bf_X10_light_42
  refine zx_aload_n C 1 dX10_light_42 rfl rfl ?_
  refine zx_get C 5 (l_cand (c := c3) hc3) (c_cand (c := c3) hc3) rfl (by decide) inX1 q_134 rfl rfl dX10_light_43 ?_
  refine zx_iload_n C 0 dX10_light_46 rfl rfl ?_
  refine zx_icmp_ne (tgt := 52) C dX10_light_47 (by decide) (fun h_1 => ?_) (fun h_1 => ?_)
  · refine zx_aload_n C 1 dX10_light_52 rfl rfl ?_
    refine zx_iload_n C 0 dX10_light_53 rfl rfl ?_
    refine zx_g (fun h_3 => ?_)
    refine zx_put (ty := .boolean) C 5 (l_cand (c := c3) hc3) (c_cand (c := c3) hc3) rfl (by decide) inX1 tyX1 tyX1_ok nmX1 q_134 rfl rfl (by decide +kernel) (z_bo_n h_3) (z_bo_f h_3) (Nat.le_of_ble_eq_true rfl) (by rw [c_cand (c := c3) hc3, z_put_same]; rfl) dX10_light_54 (fun t_2 => ?_)
    refine zx_iconst (v := 1) C dX10_light_57 (by decide) ?_
    exact zx_iret C dX10_light_58
  · refine zx_iconst (v := 0) C dX10_light_50 (by decide) ?_
    exact zx_iret C dX10_light_51
def f_X10_light (N : Nat) (v1 : Int32) (v2 : Int32) (σ : zS) : zA := z_b (f_X10_isCandle N v1 σ) (fun r_4 t_5 => (if r_4 = (0 : Int32) then z_b (f_X10_refuse N (-1 : Int32) t_5) (fun r_12 t_13 => some (r_12, t_13)) else z_g (z_in v1 6) ((if v2 = (0 : Int32) then (bf_X10_light_42 N v2 (6 * 0 + v1.toNatClampNeg) t_5) else (if (t_5 (6 * 0 + v1.toNatClampNeg) 2) = (0 : Int32) then z_b (f_X10_refuse N (-3 : Int32) t_5) (fun r_10 t_11 => some (r_10, t_11)) else (bf_X10_light_42 N v2 (6 * 0 + v1.toNatClampNeg) t_5))))))
set_option maxHeartbeats 4000000 in
set_option maxRecDepth 100000 in
theorem k_X10_light {l : Launch} {dC : Nat → ClassId} {dI : Nat → Nat → Nat} {A : Nat → Prop} {ad : Nat → Nat} {cI cC cW : ClassId} (hO : zO A 48 ad (cfC ad cI cC cW)) (N : Nat) (v1 : Int32) (v2 : Int32) (σ : zS) : zM l dC dI A 48 ad (cfC ad cI cC cW) (z_ty cI cC cW) true yX10_light cX10_light 4 (some .int) 1 [.ref (ad 37), .int v1, .int v2] σ (f_X10_light N v1 v2 σ) := by
  refine zM_of hO (by decide) (Nat.le_of_ble_eq_true rfl) (fun G hG C => ?_)
  subst hG
  unfold f_X10_light
  refine zx_sub (L1 := [(0, .ref (ad 37)), (1, .int v1), (2, .int v2)]) [0, 1, 2] rfl ?_
  refine zx_aload_n C 0 dX10_light_0 rfl rfl ?_
  refine zx_iload_n C 1 dX10_light_1 rfl rfl ?_
  refine zx_callV (As := [.int v1]) (st := []) C yk_X10_isCandle q_361 q_363 q_4 (by decide) rfl rfl (k_X10_isCandle C.hO N v1 σ) (by decide) rfl rfl (Nat.le_of_ble_eq_true rfl) dX10_light_2 (fun _ r_4 t_5 => ?_) (fun h9 => nomatch h9)
  refine zx_if_ne (tgt := 14) C dX10_light_5 (by decide) (fun h_6 => ?_) (fun h_6 => ?_)
  · refine zx_aload_n C 0 dX10_light_14 rfl rfl ?_
    refine zx_get C 1 (by decide) rfl rfl (by decide) inX10 q_234 rfl rfl dX10_light_15 ?_
    refine zx_get C 1 (l_House (j := 0) (by decide)) (c_house (j := 0) (by decide)) rfl (by decide) inX4 q_153 rfl rfl dX10_light_18 ?_
    refine zx_iload_n C 1 dX10_light_21 rfl rfl ?_
    refine zx_aald C 1 (l_cands (j := 0) (by decide)) (c_cands (j := 0) (by decide)) rfl dX10_light_22 (fun h_7 => ?_)
    refine zx_astore_n (L1 := [(3, .ref (ad (6 * 0 + v1.toNatClampNeg))), (0, .ref (ad 37)), (1, .int v1), (2, .int v2)]) C dX10_light_23 rfl (by decide) rfl ?_
    refine zx_iload_n C 3 dX10_light_24 rfl rfl ?_
    refine zx_if_eq (tgt := 42) C dX10_light_25 (by decide) (fun h_8 => ?_) (fun h_8 => ?_)
    · exact zx_sub (L1 := [(2, .int v2), (3, .ref (ad (6 * 0 + v1.toNatClampNeg)))]) [3, 0] rfl (b_X10_light_42 C N v2 (6 * 0 + v1.toNatClampNeg) (cand_lt h_7 (by decide)) t_5)
    · refine zx_aload_n C 0 dX10_light_28 rfl rfl ?_
      refine zx_get C 2 (l_cand (c := (6 * 0 + v1.toNatClampNeg)) (cand_lt h_7 (by decide))) (c_cand (c := (6 * 0 + v1.toNatClampNeg)) (cand_lt h_7 (by decide))) rfl (by decide) inX1 q_125 rfl rfl dX10_light_29 ?_
      refine zx_if_ne (tgt := 42) C dX10_light_32 (by decide) (fun h_9 => ?_) (fun h_9 => ?_)
      · exact zx_sub (L1 := [(2, .int v2), (3, .ref (ad (6 * 0 + v1.toNatClampNeg)))]) [3, 0] rfl (b_X10_light_42 C N v2 (6 * 0 + v1.toNatClampNeg) (cand_lt h_7 (by decide)) t_5)
      · refine zx_aload_n C 1 dX10_light_35 rfl rfl ?_
        refine zx_bipush (v := -3) C dX10_light_36 (by decide) ?_
        refine zx_callV (As := [.int (-3 : Int32)]) (st := []) C yk_X10_refuse q_268 q_270 q_0 (by decide) rfl rfl (k_X10_refuse C.hO N (-3 : Int32) t_5) (by decide) rfl rfl (Nat.le_of_ble_eq_true rfl) dX10_light_38 (fun _ r_10 t_11 => ?_) (fun h9 => nomatch h9)
        exact zx_iret C dX10_light_41
  · refine zx_aload_n C 0 dX10_light_8 rfl rfl ?_
    refine zx_iconst (v := -1) C dX10_light_9 (by decide) ?_
    refine zx_callV (As := [.int (-1 : Int32)]) (st := []) C yk_X10_refuse q_268 q_270 q_0 (by decide) rfl rfl (k_X10_refuse C.hO N (-1 : Int32) t_5) (by decide) rfl rfl (Nat.le_of_ble_eq_true rfl) dX10_light_10 (fun _ r_12 t_13 => ?_) (fun h9 => nomatch h9)
    exact zx_iret C dX10_light_13
def f_X10_outside (N : Nat) (v0 : Int32) (v1 : Int32) (v2 : Int32) (σ : zS) : zA := (if v1 ≤ v0 then (if v0 ≤ v2 then some ((0 : Int32), σ) else some ((-6 : Int32), σ)) else some ((-4 : Int32), σ))
set_option maxHeartbeats 4000000 in
set_option maxRecDepth 100000 in
theorem k_X10_outside {l : Launch} {dC : Nat → ClassId} {dI : Nat → Nat → Nat} {A : Nat → Prop} {ad : Nat → Nat} {cI cC cW : ClassId} (hO : zO A 48 ad (cfC ad cI cC cW)) (N : Nat) (v0 : Int32) (v1 : Int32) (v2 : Int32) (σ : zS) : zM l dC dI A 48 ad (cfC ad cI cC cW) (z_ty cI cC cW) true yX10_outside cX10_outside 3 (some .int) 0 [.int v0, .int v1, .int v2] σ (f_X10_outside N v0 v1 v2 σ) := by
  refine zM_of hO (by decide) (Nat.le_of_ble_eq_true rfl) (fun G hG C => ?_)
  subst hG
  unfold f_X10_outside
  refine zx_sub (L1 := [(0, .int v0), (1, .int v1), (2, .int v2)]) [0, 1, 2] rfl ?_
  refine zx_iload_n C 0 dX10_outside_0 rfl rfl ?_
  refine zx_iload_n C 1 dX10_outside_1 rfl rfl ?_
  refine zx_icmp_ge (tgt := 8) C dX10_outside_2 (by decide) (fun h_1 => ?_) (fun h_1 => ?_)
  · refine zx_iload_n C 0 dX10_outside_8 rfl rfl ?_
    refine zx_iload_n C 2 dX10_outside_9 rfl rfl ?_
    refine zx_icmp_le (tgt := 18) C dX10_outside_10 (by decide) (fun h_2 => ?_) (fun h_2 => ?_)
    · refine zx_iconst (v := 0) C dX10_outside_18 (by decide) ?_
      exact zx_iret C dX10_outside_19
    · refine zx_bipush (v := -6) C dX10_outside_13 (by decide) ?_
      refine zx_goto (tgt := 19) C dX10_outside_15 (by decide) ?_
      exact zx_iret C dX10_outside_19
  · refine zx_bipush (v := -4) C dX10_outside_5 (by decide) ?_
    exact zx_iret C dX10_outside_7
def f_X10_draught (N : Nat) (v1 : Int32) (v2 : Int32) (σ : zS) : zA := z_b (f_X10_isPerson N v1 σ) (fun r_1 t_2 => (if r_1 = (0 : Int32) then z_b (f_X10_refuse N (-1 : Int32) t_2) (fun r_11 t_12 => some (r_11, t_12)) else z_b (f_X10_outside N v2 (0 : Int32) (9 : Int32) t_2) (fun r_4 t_5 => (if r_4 = (0 : Int32) then z_g (z_in v1 4) (z_n (t_5 (24 + 0) v1.toNatClampNeg) (fun z_7 => z_g (z_in v1 4) (z_m (z_put t_5 (24 + 0) v1.toNatClampNeg v2) (fun t_8 => some (z_7, t_8))))) else z_b (f_X10_refuse N r_4 t_5) (fun r_9 t_10 => some (r_9, t_10))))))
set_option maxHeartbeats 4000000 in
set_option maxRecDepth 100000 in
theorem k_X10_draught {l : Launch} {dC : Nat → ClassId} {dI : Nat → Nat → Nat} {A : Nat → Prop} {ad : Nat → Nat} {cI cC cW : ClassId} (hO : zO A 48 ad (cfC ad cI cC cW)) (N : Nat) (v1 : Int32) (v2 : Int32) (σ : zS) : zM l dC dI A 48 ad (cfC ad cI cC cW) (z_ty cI cC cW) true yX10_draught cX10_draught 5 (some .int) 1 [.ref (ad 37), .int v1, .int v2] σ (f_X10_draught N v1 v2 σ) := by
  refine zM_of hO (by decide) (Nat.le_of_ble_eq_true rfl) (fun G hG C => ?_)
  subst hG
  unfold f_X10_draught
  refine zx_sub (L1 := [(0, .ref (ad 37)), (1, .int v1), (2, .int v2)]) [0, 1, 2] rfl ?_
  refine zx_iload_n C 1 dX10_draught_0 rfl rfl ?_
  refine zx_callS (av := [.int v1]) (st := []) C yk_X10_isPerson q_344 q_335 (k_X10_isPerson C.hO N v1 σ) (by decide) rfl rfl (Nat.le_of_ble_eq_true rfl) dX10_draught_1 (fun _ r_1 t_2 => ?_) (fun h9 => nomatch h9)
  refine zx_if_ne (tgt := 13) C dX10_draught_4 (by decide) (fun h_3 => ?_) (fun h_3 => ?_)
  · refine zx_iload_n C 2 dX10_draught_13 rfl rfl ?_
    refine zx_iconst (v := 0) C dX10_draught_14 (by decide) ?_
    refine zx_bipush (v := 9) C dX10_draught_15 (by decide) ?_
    refine zx_callS (av := [.int v2, .int (0 : Int32), .int (9 : Int32)]) (st := []) C yk_X10_outside q_467 q_468 (k_X10_outside C.hO N v2 (0 : Int32) (9 : Int32) t_2) (by decide) rfl rfl (Nat.le_of_ble_eq_true rfl) dX10_draught_17 (fun _ r_4 t_5 => ?_) (fun h9 => nomatch h9)
    refine zx_istore_n (L1 := [(3, .int r_4), (0, .ref (ad 37)), (1, .int v1), (2, .int v2)]) C dX10_draught_20 rfl (by decide) rfl ?_
    refine zx_iload_n C 0 dX10_draught_21 rfl rfl ?_
    refine zx_if_eq (tgt := 31) C dX10_draught_22 (by decide) (fun h_6 => ?_) (fun h_6 => ?_)
    · refine zx_aload_n C 1 dX10_draught_31 rfl rfl ?_
      refine zx_get C 1 (by decide) rfl rfl (by decide) inX10 q_234 rfl rfl dX10_draught_32 ?_
      refine zx_get C 2 (l_House (j := 0) (by decide)) (c_house (j := 0) (by decide)) rfl (by decide) inX4 q_156 rfl rfl dX10_draught_35 ?_
      refine zx_iload_n C 2 dX10_draught_38 rfl rfl ?_
      refine zx_iald C 0 (l_dra (j := 0) (by decide)) (c_dra (j := 0) (by decide) _) rfl dX10_draught_39 ?_
      refine zx_n (fun z_7 => ?_)
      refine zx_istore (L1 := [(4, .int z_7), (3, .int r_4), (0, .ref (ad 37)), (1, .int v1), (2, .int v2)]) C dX10_draught_40 (by decide) rfl ?_
      refine zx_aload_n C 2 dX10_draught_42 rfl rfl ?_
      refine zx_get C 1 (by decide) rfl rfl (by decide) inX10 q_234 rfl rfl dX10_draught_43 ?_
      refine zx_get C 2 (l_House (j := 0) (by decide)) (c_house (j := 0) (by decide)) rfl (by decide) inX4 q_156 rfl rfl dX10_draught_46 ?_
      refine zx_iload_n C 3 dX10_draught_49 rfl rfl ?_
      refine zx_iload_n C 4 dX10_draught_50 rfl rfl ?_
      refine zx_iast C 0 (l_dra (j := 0) (by decide)) (c_dra (j := 0) (by decide)) rfl dX10_draught_51 (fun t_8 => ?_)
      refine zx_iload C 0 dX10_draught_52 rfl ?_
      exact zx_iret C dX10_draught_54
    · refine zx_aload_n C 1 dX10_draught_25 rfl rfl ?_
      refine zx_iload_n C 0 dX10_draught_26 rfl rfl ?_
      refine zx_callV (As := [.int r_4]) (st := []) C yk_X10_refuse q_268 q_270 q_0 (by decide) rfl rfl (k_X10_refuse C.hO N r_4 t_5) (by decide) rfl rfl (Nat.le_of_ble_eq_true rfl) dX10_draught_27 (fun _ r_9 t_10 => ?_) (fun h9 => nomatch h9)
      exact zx_iret C dX10_draught_30
  · refine zx_aload_n C 0 dX10_draught_7 rfl rfl ?_
    refine zx_iconst (v := -1) C dX10_draught_8 (by decide) ?_
    refine zx_callV (As := [.int (-1 : Int32)]) (st := []) C yk_X10_refuse q_268 q_270 q_0 (by decide) rfl rfl (k_X10_refuse C.hO N (-1 : Int32) t_2) (by decide) rfl rfl (Nat.le_of_ble_eq_true rfl) dX10_draught_9 (fun _ r_11 t_12 => ?_) (fun h9 => nomatch h9)
    exact zx_iret C dX10_draught_12
def f_X10_owe (N : Nat) (v1 : Int32) (v2 : Int32) (v3 : Int32) (σ : zS) : zA := z_b (f_X10_areTwo N v1 v2 σ) (fun r_1 t_2 => (if r_1 = (0 : Int32) then z_b (f_X10_refuse N (-1 : Int32) t_2) (fun r_15 t_16 => some (r_15, t_16)) else z_b (f_X10_outside N v3 (0 : Int32) (999 : Int32) t_2) (fun r_4 t_5 => (if r_4 = (0 : Int32) then z_b (f_X10_pair N v1 v2 t_5) (fun r_7 t_8 => z_g (z_in r_7 16) (z_n (t_8 (27 + 0) r_7.toNatClampNeg) (fun z_9 => z_b (f_X10_pair N v1 v2 t_8) (fun r_10 t_11 => z_g (z_in r_10 16) (z_m (z_put t_11 (27 + 0) r_10.toNatClampNeg v3) (fun t_12 => some (z_9, t_12))))))) else z_b (f_X10_refuse N r_4 t_5) (fun r_13 t_14 => some (r_13, t_14))))))
set_option maxHeartbeats 4000000 in
set_option maxRecDepth 100000 in
theorem k_X10_owe {l : Launch} {dC : Nat → ClassId} {dI : Nat → Nat → Nat} {A : Nat → Prop} {ad : Nat → Nat} {cI cC cW : ClassId} (hO : zO A 48 ad (cfC ad cI cC cW)) (N : Nat) (v1 : Int32) (v2 : Int32) (v3 : Int32) (σ : zS) : zM l dC dI A 48 ad (cfC ad cI cC cW) (z_ty cI cC cW) true yX10_owe cX10_owe 6 (some .int) 2 [.ref (ad 37), .int v1, .int v2, .int v3] σ (f_X10_owe N v1 v2 v3 σ) := by
  refine zM_of hO (by decide) (Nat.le_of_ble_eq_true rfl) (fun G hG C => ?_)
  subst hG
  unfold f_X10_owe
  refine zx_sub (L1 := [(0, .ref (ad 37)), (1, .int v1), (2, .int v2), (3, .int v3)]) [0, 1, 2, 3] rfl ?_
  refine zx_iload_n C 1 dX10_owe_0 rfl rfl ?_
  refine zx_iload_n C 2 dX10_owe_1 rfl rfl ?_
  refine zx_callS (av := [.int v1, .int v2]) (st := []) C yk_X10_areTwo q_474 q_342 (k_X10_areTwo C.hO N v1 v2 σ) (by decide) rfl rfl (Nat.le_of_ble_eq_true rfl) dX10_owe_2 (fun _ r_1 t_2 => ?_) (fun h9 => nomatch h9)
  refine zx_if_ne (tgt := 14) C dX10_owe_5 (by decide) (fun h_3 => ?_) (fun h_3 => ?_)
  · refine zx_iload_n C 3 dX10_owe_14 rfl rfl ?_
    refine zx_iconst (v := 0) C dX10_owe_15 (by decide) ?_
    refine zx_sipush (v := 999) C dX10_owe_16 (by decide) ?_
    refine zx_callS (av := [.int v3, .int (0 : Int32), .int (999 : Int32)]) (st := []) C yk_X10_outside q_467 q_468 (k_X10_outside C.hO N v3 (0 : Int32) (999 : Int32) t_2) (by decide) rfl rfl (Nat.le_of_ble_eq_true rfl) dX10_owe_19 (fun _ r_4 t_5 => ?_) (fun h9 => nomatch h9)
    refine zx_istore (L1 := [(4, .int r_4), (0, .ref (ad 37)), (1, .int v1), (2, .int v2), (3, .int v3)]) C dX10_owe_22 (by decide) rfl ?_
    refine zx_iload C 0 dX10_owe_24 rfl ?_
    refine zx_if_eq (tgt := 36) C dX10_owe_26 (by decide) (fun h_6 => ?_) (fun h_6 => ?_)
    · refine zx_aload_n C 1 dX10_owe_36 rfl rfl ?_
      refine zx_get C 1 (by decide) rfl rfl (by decide) inX10 q_234 rfl rfl dX10_owe_37 ?_
      refine zx_get C 3 (l_House (j := 0) (by decide)) (c_house (j := 0) (by decide)) rfl (by decide) inX4 q_159 rfl rfl dX10_owe_40 ?_
      refine zx_iload_n C 2 dX10_owe_43 rfl rfl ?_
      refine zx_iload_n C 3 dX10_owe_44 rfl rfl ?_
      refine zx_callS (av := [.int v1, .int v2]) (st := [.ref (ad (27 + 0))]) C yk_X10_pair q_475 q_346 (k_X10_pair C.hO N v1 v2 t_5) (by decide) rfl rfl (Nat.le_of_ble_eq_true rfl) dX10_owe_45 (fun _ r_7 t_8 => ?_) (fun h9 => nomatch h9)
      refine zx_iald C 0 (l_deb (j := 0) (by decide)) (c_deb (j := 0) (by decide) _) rfl dX10_owe_48 ?_
      refine zx_n (fun z_9 => ?_)
      refine zx_istore (L1 := [(5, .int z_9), (4, .int r_4), (0, .ref (ad 37)), (1, .int v1), (2, .int v2), (3, .int v3)]) C dX10_owe_49 (by decide) rfl ?_
      refine zx_aload_n C 2 dX10_owe_51 rfl rfl ?_
      refine zx_get C 1 (by decide) rfl rfl (by decide) inX10 q_234 rfl rfl dX10_owe_52 ?_
      refine zx_get C 3 (l_House (j := 0) (by decide)) (c_house (j := 0) (by decide)) rfl (by decide) inX4 q_159 rfl rfl dX10_owe_55 ?_
      refine zx_iload_n C 3 dX10_owe_58 rfl rfl ?_
      refine zx_iload_n C 4 dX10_owe_59 rfl rfl ?_
      refine zx_callS (av := [.int v1, .int v2]) (st := [.ref (ad (27 + 0))]) C yk_X10_pair q_475 q_346 (k_X10_pair C.hO N v1 v2 t_8) (by decide) rfl rfl (Nat.le_of_ble_eq_true rfl) dX10_owe_60 (fun _ r_10 t_11 => ?_) (fun h9 => nomatch h9)
      refine zx_iload_n C 5 dX10_owe_63 rfl rfl ?_
      refine zx_iast C 0 (l_deb (j := 0) (by decide)) (c_deb (j := 0) (by decide)) rfl dX10_owe_64 (fun t_12 => ?_)
      refine zx_iload C 0 dX10_owe_65 rfl ?_
      exact zx_iret C dX10_owe_67
    · refine zx_aload_n C 1 dX10_owe_29 rfl rfl ?_
      refine zx_iload C 0 dX10_owe_30 rfl ?_
      refine zx_callV (As := [.int r_4]) (st := []) C yk_X10_refuse q_268 q_270 q_0 (by decide) rfl rfl (k_X10_refuse C.hO N r_4 t_5) (by decide) rfl rfl (Nat.le_of_ble_eq_true rfl) dX10_owe_32 (fun _ r_13 t_14 => ?_) (fun h9 => nomatch h9)
      exact zx_iret C dX10_owe_35
  · refine zx_aload_n C 0 dX10_owe_8 rfl rfl ?_
    refine zx_iconst (v := -1) C dX10_owe_9 (by decide) ?_
    refine zx_callV (As := [.int (-1 : Int32)]) (st := []) C yk_X10_refuse q_268 q_270 q_0 (by decide) rfl rfl (k_X10_refuse C.hO N (-1 : Int32) t_2) (by decide) rfl rfl (Nat.le_of_ble_eq_true rfl) dX10_owe_10 (fun _ r_15 t_16 => ?_) (fun h9 => nomatch h9)
    exact zx_iret C dX10_owe_13
def f_X10_debt (N : Nat) (v1 : Int32) (v2 : Int32) (σ : zS) : zA := z_b (f_X10_areTwo N v1 v2 σ) (fun r_1 t_2 => (if r_1 = (0 : Int32) then z_b (f_X10_refuse N (-1 : Int32) t_2) (fun r_4 t_5 => some (r_4, t_5)) else z_b (f_X10_pair N v1 v2 t_2) (fun r_6 t_7 => z_g (z_in r_6 16) (some ((t_7 (27 + 0) r_6.toNatClampNeg), t_7)))))
set_option maxHeartbeats 4000000 in
set_option maxRecDepth 100000 in
theorem k_X10_debt {l : Launch} {dC : Nat → ClassId} {dI : Nat → Nat → Nat} {A : Nat → Prop} {ad : Nat → Nat} {cI cC cW : ClassId} (hO : zO A 48 ad (cfC ad cI cC cW)) (N : Nat) (v1 : Int32) (v2 : Int32) (σ : zS) : zM l dC dI A 48 ad (cfC ad cI cC cW) (z_ty cI cC cW) true yX10_debt cX10_debt 3 (some .int) 2 [.ref (ad 37), .int v1, .int v2] σ (f_X10_debt N v1 v2 σ) := by
  refine zM_of hO (by decide) (Nat.le_of_ble_eq_true rfl) (fun G hG C => ?_)
  subst hG
  unfold f_X10_debt
  refine zx_sub (L1 := [(0, .ref (ad 37)), (1, .int v1), (2, .int v2)]) [0, 1, 2] rfl ?_
  refine zx_iload_n C 1 dX10_debt_0 rfl rfl ?_
  refine zx_iload_n C 2 dX10_debt_1 rfl rfl ?_
  refine zx_callS (av := [.int v1, .int v2]) (st := []) C yk_X10_areTwo q_474 q_342 (k_X10_areTwo C.hO N v1 v2 σ) (by decide) rfl rfl (Nat.le_of_ble_eq_true rfl) dX10_debt_2 (fun _ r_1 t_2 => ?_) (fun h9 => nomatch h9)
  refine zx_if_eq (tgt := 24) C dX10_debt_5 (by decide) (fun h_3 => ?_) (fun h_3 => ?_)
  · refine zx_aload_n C 0 dX10_debt_24 rfl rfl ?_
    refine zx_iconst (v := -1) C dX10_debt_25 (by decide) ?_
    refine zx_callV (As := [.int (-1 : Int32)]) (st := []) C yk_X10_refuse q_268 q_270 q_0 (by decide) rfl rfl (k_X10_refuse C.hO N (-1 : Int32) t_2) (by decide) rfl rfl (Nat.le_of_ble_eq_true rfl) dX10_debt_26 (fun _ r_4 t_5 => ?_) (fun h9 => nomatch h9)
    exact zx_iret C dX10_debt_29
  · refine zx_aload_n C 0 dX10_debt_8 rfl rfl ?_
    refine zx_get C 1 (by decide) rfl rfl (by decide) inX10 q_234 rfl rfl dX10_debt_9 ?_
    refine zx_get C 3 (l_House (j := 0) (by decide)) (c_house (j := 0) (by decide)) rfl (by decide) inX4 q_159 rfl rfl dX10_debt_12 ?_
    refine zx_iload_n C 1 dX10_debt_15 rfl rfl ?_
    refine zx_iload_n C 2 dX10_debt_16 rfl rfl ?_
    refine zx_callS (av := [.int v1, .int v2]) (st := [.ref (ad (27 + 0))]) C yk_X10_pair q_475 q_346 (k_X10_pair C.hO N v1 v2 t_2) (by decide) rfl rfl (Nat.le_of_ble_eq_true rfl) dX10_debt_17 (fun _ r_6 t_7 => ?_) (fun h9 => nomatch h9)
    refine zx_iald C 0 (l_deb (j := 0) (by decide)) (c_deb (j := 0) (by decide) _) rfl dX10_debt_20 ?_
    refine zx_goto (tgt := 29) C dX10_debt_21 (by decide) ?_
    exact zx_iret C dX10_debt_29
def bf_X10_go_43 (N : Nat) (rec43 : Int32 → Int32 → Int32 → zS → zA) (v1 : Int32) (v3 : Int32) (v4 : Int32) (σ : zS) : zA := (if v1 ≤ v4 then some (((σ (18 + 0) 6) - v3), σ) else z_b (f_X4_passMinute N 0 σ) (fun r_2 t_3 => (rec43 v1 v3 (v4 + (1 : Int32)) t_3)))
set_option maxHeartbeats 4000000 in
set_option maxRecDepth 100000 in
theorem b_X10_go_43 {G : zG} {dC : Nat → ClassId} {dI : Nat → Nat → Nat} {A : Nat → Prop} {ad : Nat → Nat} {cI cC cW : ClassId} (C : zC G dC dI A 48 ad (cfC ad cI cC cW) (z_ty cI cC cW) cX10_go RX10 5 6 (some .int)) (N : Nat) (rec43 : Int32 → Int32 → Int32 → zS → zA) (hrec43 : ∀ (v1 : Int32) (v3 : Int32) (v4 : Int32) (σ : zS), zW G dC dI A 48 ad (cfC ad cI cC cW) 5 true (rec43 v1 v3 v4 σ) σ 43 [(0, .ref (ad 37)), (1, .int v1), (3, .int v3), (4, .int v4)] []) (v1 : Int32) (v3 : Int32) (v4 : Int32) (σ : zS) : zW G dC dI A 48 ad (cfC ad cI cC cW) 5 true (bf_X10_go_43 N rec43 v1 v3 v4 σ) σ 43 [(0, .ref (ad 37)), (1, .int v1), (3, .int v3), (4, .int v4)] [] := by
  unfold bf_X10_go_43
  refine zx_iload C 3 dX10_go_43 rfl ?_
  refine zx_iload_n C 1 dX10_go_45 rfl rfl ?_
  refine zx_icmp_ge (tgt := 62) C dX10_go_46 (by decide) (fun h_1 => ?_) (fun h_1 => ?_)
  · refine zx_aload_n C 0 dX10_go_62 rfl rfl ?_
    refine zx_get C 1 (by decide) rfl rfl (by decide) inX10 q_234 rfl rfl dX10_go_63 ?_
    refine zx_get C 6 (l_House (j := 0) (by decide)) (c_house (j := 0) (by decide)) rfl (by decide) inX4 q_166 rfl rfl dX10_go_66 ?_
    refine zx_iload_n C 2 dX10_go_69 rfl rfl ?_
    refine zx_isub C dX10_go_70 ?_
    exact zx_iret C dX10_go_71
  · refine zx_aload_n C 0 dX10_go_49 rfl rfl ?_
    refine zx_get C 1 (by decide) rfl rfl (by decide) inX10 q_234 rfl rfl dX10_go_50 ?_
    refine zx_callV (As := []) (st := []) C yk_X4_passMinute q_485 q_486 q_487 (l_House (j := 0) (by decide)) (c_house (j := 0) (by decide)) rfl (k_X4_passMinute C.hO N 0 (by decide) σ) (by decide) rfl rfl (Nat.le_of_ble_eq_true rfl) dX10_go_53 (fun h9 => nomatch h9) (fun _ r_2 t_3 => ?_)
    refine zx_iinc (v := (v4 + (1 : Int32))) (L1 := [(4, .int (v4 + (1 : Int32))), (0, .ref (ad 37)), (1, .int v1), (3, .int v3)]) C 3 dX10_go_56 rfl rfl (by decide) rfl ?_
    refine zx_goto (tgt := 43) C dX10_go_59 (by decide) ?_
    exact zx_sub (L1 := [(0, .ref (ad 37)), (1, .int v1), (3, .int v3), (4, .int (v4 + (1 : Int32)))]) [1, 2, 3, 0] rfl (hrec43 v1 v3 (v4 + (1 : Int32)) t_3)
def lf_X10_go_43 (N : Nat) : Nat → Int32 → Int32 → Int32 → zS → zA
  | 0, _, _, _, _ => none
  | n + 1, v1, v3, v4, σ => bf_X10_go_43 N (lf_X10_go_43 N  n) v1 v3 v4 σ
theorem l_X10_go_43 {G : zG} {dC : Nat → ClassId} {dI : Nat → Nat → Nat} {A : Nat → Prop} {ad : Nat → Nat} {cI cC cW : ClassId} (C : zC G dC dI A 48 ad (cfC ad cI cC cW) (z_ty cI cC cW) cX10_go RX10 5 6 (some .int)) (N : Nat) : ∀ (n : Nat) (v1 : Int32) (v3 : Int32) (v4 : Int32) (σ : zS), zW G dC dI A 48 ad (cfC ad cI cC cW) 5 true (lf_X10_go_43 N  n v1 v3 v4 σ) σ 43 [(0, .ref (ad 37)), (1, .int v1), (3, .int v3), (4, .int v4)] [] := by
  intro n
  induction n with
  | zero => intro v1 v3 v4 σ; exact zx_none
  | succ n ih => intro v1 v3 v4 σ; exact b_X10_go_43 C N (lf_X10_go_43 N  n) ih v1 v3 v4 σ
def f_X10_go (N : Nat) (v1 : Int32) (σ : zS) : zA := z_b (f_X10_outside N v1 (1 : Int32) (if ((9999 : Int32) - (σ (18 + 0) 5)) < (99 : Int32) then ((9999 : Int32) - (σ (18 + 0) 5)) else (99 : Int32)) σ) (fun r_4 t_5 => (if r_4 = (0 : Int32) then z_n (t_5 (18 + 0) 6) (fun z_7 => (lf_X10_go_43 N N v1 z_7 (0 : Int32) t_5)) else z_b (f_X10_refuse N r_4 t_5) (fun r_8 t_9 => some (r_8, t_9))))
set_option maxHeartbeats 4000000 in
set_option maxRecDepth 100000 in
theorem k_X10_go {l : Launch} {dC : Nat → ClassId} {dI : Nat → Nat → Nat} {A : Nat → Prop} {ad : Nat → Nat} {cI cC cW : ClassId} (hO : zO A 48 ad (cfC ad cI cC cW)) (N : Nat) (v1 : Int32) (σ : zS) : zM l dC dI A 48 ad (cfC ad cI cC cW) (z_ty cI cC cW) true yX10_go cX10_go 5 (some .int) 6 [.ref (ad 37), .int v1] σ (f_X10_go N v1 σ) := by
  refine zM_of hO (by decide) (Nat.le_of_ble_eq_true rfl) (fun G hG C => ?_)
  subst hG
  unfold f_X10_go
  refine zx_sub (L1 := [(0, .ref (ad 37)), (1, .int v1)]) [0, 1] rfl ?_
  refine zx_iload_n C 1 dX10_go_0 rfl rfl ?_
  refine zx_iconst (v := 1) C dX10_go_1 (by decide) ?_
  refine zx_bipush (v := 99) C dX10_go_2 (by decide) ?_
  refine zx_sipush (v := 9999) C dX10_go_4 (by decide) ?_
  refine zx_aload_n C 0 dX10_go_7 rfl rfl ?_
  refine zx_get C 1 (by decide) rfl rfl (by decide) inX10 q_234 rfl rfl dX10_go_8 ?_
  refine zx_get C 5 (l_House (j := 0) (by decide)) (c_house (j := 0) (by decide)) rfl (by decide) inX4 q_164 rfl rfl dX10_go_11 ?_
  refine zx_isub C dX10_go_14 ?_
  refine zx_min C q_484 q_398 q_49 q_399 (by decide) (Nat.le_of_ble_eq_true rfl) dX10_go_15 ?_
  refine zx_callS (av := [.int v1, .int (1 : Int32), .int (if ((9999 : Int32) - (σ (18 + 0) 5)) < (99 : Int32) then ((9999 : Int32) - (σ (18 + 0) 5)) else (99 : Int32))]) (st := []) C yk_X10_outside q_467 q_468 (k_X10_outside C.hO N v1 (1 : Int32) (if ((9999 : Int32) - (σ (18 + 0) 5)) < (99 : Int32) then ((9999 : Int32) - (σ (18 + 0) 5)) else (99 : Int32)) σ) (by decide) rfl rfl (Nat.le_of_ble_eq_true rfl) dX10_go_18 (fun _ r_4 t_5 => ?_) (fun h9 => nomatch h9)
  refine zx_istore_n (L1 := [(2, .int r_4), (0, .ref (ad 37)), (1, .int v1)]) C dX10_go_21 rfl (by decide) rfl ?_
  refine zx_iload_n C 0 dX10_go_22 rfl rfl ?_
  refine zx_if_eq (tgt := 32) C dX10_go_23 (by decide) (fun h_6 => ?_) (fun h_6 => ?_)
  · refine zx_aload_n C 1 dX10_go_32 rfl rfl ?_
    refine zx_get C 1 (by decide) rfl rfl (by decide) inX10 q_234 rfl rfl dX10_go_33 ?_
    refine zx_get C 6 (l_House (j := 0) (by decide)) (c_house (j := 0) (by decide)) rfl (by decide) inX4 q_166 rfl rfl dX10_go_36 ?_
    refine zx_n (fun z_7 => ?_)
    refine zx_istore_n (L1 := [(3, .int z_7), (2, .int r_4), (0, .ref (ad 37)), (1, .int v1)]) C dX10_go_39 rfl (by decide) rfl ?_
    refine zx_iconst (v := 0) C dX10_go_40 (by decide) ?_
    refine zx_istore (L1 := [(4, .int (0 : Int32)), (3, .int z_7), (2, .int r_4), (0, .ref (ad 37)), (1, .int v1)]) C dX10_go_41 (by decide) rfl ?_
    exact zx_sub (L1 := [(0, .ref (ad 37)), (1, .int v1), (3, .int z_7), (4, .int (0 : Int32))]) [3, 4, 1, 0] rfl (l_X10_go_43 C N N v1 z_7 (0 : Int32) t_5)
  · refine zx_aload_n C 1 dX10_go_26 rfl rfl ?_
    refine zx_iload_n C 0 dX10_go_27 rfl rfl ?_
    refine zx_callV (As := [.int r_4]) (st := []) C yk_X10_refuse q_268 q_270 q_0 (by decide) rfl rfl (k_X10_refuse C.hO N r_4 t_5) (by decide) rfl rfl (Nat.le_of_ble_eq_true rfl) dX10_go_28 (fun _ r_8 t_9 => ?_) (fun h9 => nomatch h9)
    exact zx_iret C dX10_go_31
def bf_X10_thinkAhead_13 (N : Nat) (rec13 : Int32 → Int32 → zS → zA) (v1 : Int32) (v2 : Int32) (σ : zS) : zA := (if v1 ≤ v2 then some (0, σ) else z_b (f_X4_litCandles N 1 σ) (fun r_2 t_3 => (if r_2 ≤ (0 : Int32) then some (0, t_3) else z_b (f_X4_passMinute N 1 t_3) (fun r_5 t_6 => (rec13 v1 (v2 + (1 : Int32)) t_6)))))
set_option maxHeartbeats 4000000 in
set_option maxRecDepth 100000 in
theorem b_X10_thinkAhead_13 {G : zG} {dC : Nat → ClassId} {dI : Nat → Nat → Nat} {A : Nat → Prop} {ad : Nat → Nat} {cI cC cW : ClassId} (C : zC G dC dI A 48 ad (cfC ad cI cC cW) (z_ty cI cC cW) cX10_thinkAhead RX10 3 6 none) (N : Nat) (rec13 : Int32 → Int32 → zS → zA) (hrec13 : ∀ (v1 : Int32) (v2 : Int32) (σ : zS), zW G dC dI A 48 ad (cfC ad cI cC cW) 3 false (rec13 v1 v2 σ) σ 13 [(0, .ref (ad 37)), (1, .int v1), (2, .int v2)] []) (v1 : Int32) (v2 : Int32) (σ : zS) : zW G dC dI A 48 ad (cfC ad cI cC cW) 3 false (bf_X10_thinkAhead_13 N rec13 v1 v2 σ) σ 13 [(0, .ref (ad 37)), (1, .int v1), (2, .int v2)] [] := by
  unfold bf_X10_thinkAhead_13
  refine zx_iload_n C 2 dX10_thinkAhead_13 rfl rfl ?_
  refine zx_iload_n C 1 dX10_thinkAhead_14 rfl rfl ?_
  refine zx_icmp_ge (tgt := 41) C dX10_thinkAhead_15 (by decide) (fun h_1 => ?_) (fun h_1 => ?_)
  · exact zx_vret C dX10_thinkAhead_41
  · refine zx_aload_n C 0 dX10_thinkAhead_18 rfl rfl ?_
    refine zx_get C 2 (by decide) rfl rfl (by decide) inX10 q_235 rfl rfl dX10_thinkAhead_19 ?_
    refine zx_callV (As := []) (st := []) C yk_X4_litCandles q_505 q_506 q_507 (l_House (j := 1) (by decide)) (c_house (j := 1) (by decide)) rfl (k_X4_litCandles C.hO N 1 (by decide) σ) (by decide) rfl rfl (Nat.le_of_ble_eq_true rfl) dX10_thinkAhead_22 (fun _ r_2 t_3 => ?_) (fun h9 => nomatch h9)
    refine zx_if_le (tgt := 41) C dX10_thinkAhead_25 (by decide) (fun h_4 => ?_) (fun h_4 => ?_)
    · exact zx_vret C dX10_thinkAhead_41
    · refine zx_aload_n C 0 dX10_thinkAhead_28 rfl rfl ?_
      refine zx_get C 2 (by decide) rfl rfl (by decide) inX10 q_235 rfl rfl dX10_thinkAhead_29 ?_
      refine zx_callV (As := []) (st := []) C yk_X4_passMinute q_485 q_486 q_487 (l_House (j := 1) (by decide)) (c_house (j := 1) (by decide)) rfl (k_X4_passMinute C.hO N 1 (by decide) t_3) (by decide) rfl rfl (Nat.le_of_ble_eq_true rfl) dX10_thinkAhead_32 (fun h9 => nomatch h9) (fun _ r_5 t_6 => ?_)
      refine zx_iinc (v := (v2 + (1 : Int32))) (L1 := [(2, .int (v2 + (1 : Int32))), (0, .ref (ad 37)), (1, .int v1)]) C 2 dX10_thinkAhead_35 rfl rfl (by decide) rfl ?_
      refine zx_goto (tgt := 13) C dX10_thinkAhead_38 (by decide) ?_
      exact zx_sub (L1 := [(0, .ref (ad 37)), (1, .int v1), (2, .int (v2 + (1 : Int32)))]) [1, 2, 0] rfl (hrec13 v1 (v2 + (1 : Int32)) t_6)
def lf_X10_thinkAhead_13 (N : Nat) : Nat → Int32 → Int32 → zS → zA
  | 0, _, _, _ => none
  | n + 1, v1, v2, σ => bf_X10_thinkAhead_13 N (lf_X10_thinkAhead_13 N  n) v1 v2 σ
theorem l_X10_thinkAhead_13 {G : zG} {dC : Nat → ClassId} {dI : Nat → Nat → Nat} {A : Nat → Prop} {ad : Nat → Nat} {cI cC cW : ClassId} (C : zC G dC dI A 48 ad (cfC ad cI cC cW) (z_ty cI cC cW) cX10_thinkAhead RX10 3 6 none) (N : Nat) : ∀ (n : Nat) (v1 : Int32) (v2 : Int32) (σ : zS), zW G dC dI A 48 ad (cfC ad cI cC cW) 3 false (lf_X10_thinkAhead_13 N  n v1 v2 σ) σ 13 [(0, .ref (ad 37)), (1, .int v1), (2, .int v2)] [] := by
  intro n
  induction n with
  | zero => intro v1 v2 σ; exact zx_none
  | succ n ih => intro v1 v2 σ; exact b_X10_thinkAhead_13 C N (lf_X10_thinkAhead_13 N  n) ih v1 v2 σ
def f_X10_thinkAhead (N : Nat) (v1 : Int32) (σ : zS) : zA := z_b (f_X4_become N 1 0 σ) (fun r_7 t_8 => (lf_X10_thinkAhead_13 N N v1 (0 : Int32) t_8))
set_option maxHeartbeats 4000000 in
set_option maxRecDepth 100000 in
theorem k_X10_thinkAhead {l : Launch} {dC : Nat → ClassId} {dI : Nat → Nat → Nat} {A : Nat → Prop} {ad : Nat → Nat} {cI cC cW : ClassId} (hO : zO A 48 ad (cfC ad cI cC cW)) (N : Nat) (v1 : Int32) (σ : zS) : zM l dC dI A 48 ad (cfC ad cI cC cW) (z_ty cI cC cW) false yX10_thinkAhead cX10_thinkAhead 3 none 6 [.ref (ad 37), .int v1] σ (f_X10_thinkAhead N v1 σ) := by
  refine zM_of hO (by decide) (Nat.le_of_ble_eq_true rfl) (fun G hG C => ?_)
  subst hG
  unfold f_X10_thinkAhead
  refine zx_sub (L1 := [(0, .ref (ad 37)), (1, .int v1)]) [0, 1] rfl ?_
  refine zx_aload_n C 0 dX10_thinkAhead_0 rfl rfl ?_
  refine zx_get C 2 (by decide) rfl rfl (by decide) inX10 q_235 rfl rfl dX10_thinkAhead_1 ?_
  refine zx_aload_n C 0 dX10_thinkAhead_4 rfl rfl ?_
  refine zx_get C 1 (by decide) rfl rfl (by decide) inX10 q_234 rfl rfl dX10_thinkAhead_5 ?_
  refine zx_callV (As := [.ref (ad (18 + 0))]) (st := []) C yk_X4_become q_302 q_303 q_304 (l_House (j := 1) (by decide)) (c_house (j := 1) (by decide)) rfl (k_X4_become C.hO N 1 (by decide) 0 (by decide) σ) (by decide) rfl rfl (Nat.le_of_ble_eq_true rfl) dX10_thinkAhead_8 (fun h9 => nomatch h9) (fun _ r_7 t_8 => ?_)
  refine zx_iconst (v := 0) C dX10_thinkAhead_11 (by decide) ?_
  refine zx_istore_n (L1 := [(2, .int (0 : Int32)), (0, .ref (ad 37)), (1, .int v1)]) C dX10_thinkAhead_12 rfl (by decide) rfl ?_
  exact zx_sub (L1 := [(0, .ref (ad 37)), (1, .int v1), (2, .int (0 : Int32))]) [1, 2, 0] rfl (l_X10_thinkAhead_13 C N N v1 (0 : Int32) t_8)
def f_X10_behind (N : Nat) (v1 : Int32) (v2 : Int32) (σ : zS) : zA := z_b (f_X10_isCandle N v1 σ) (fun r_1 t_2 => (if r_1 = (0 : Int32) then z_b (f_X10_refuse N (-1 : Int32) t_2) (fun r_12 t_13 => some (r_12, t_13)) else z_b (f_X10_outside N v2 (0 : Int32) (300 : Int32) t_2) (fun r_4 t_5 => (if r_4 = (0 : Int32) then z_b (f_X10_thinkAhead N v2 t_5) (fun r_7 t_8 => z_g (z_in v1 6) (some ((t_8 (6 * 1 + v1.toNatClampNeg) 2), t_8))) else z_b (f_X10_refuse N r_4 t_5) (fun r_10 t_11 => some (r_10, t_11))))))
set_option maxHeartbeats 4000000 in
set_option maxRecDepth 100000 in
theorem k_X10_behind {l : Launch} {dC : Nat → ClassId} {dI : Nat → Nat → Nat} {A : Nat → Prop} {ad : Nat → Nat} {cI cC cW : ClassId} (hO : zO A 48 ad (cfC ad cI cC cW)) (N : Nat) (v1 : Int32) (v2 : Int32) (σ : zS) : zM l dC dI A 48 ad (cfC ad cI cC cW) (z_ty cI cC cW) true yX10_behind cX10_behind 4 (some .int) 7 [.ref (ad 37), .int v1, .int v2] σ (f_X10_behind N v1 v2 σ) := by
  refine zM_of hO (by decide) (Nat.le_of_ble_eq_true rfl) (fun G hG C => ?_)
  subst hG
  unfold f_X10_behind
  refine zx_sub (L1 := [(0, .ref (ad 37)), (1, .int v1), (2, .int v2)]) [0, 1, 2] rfl ?_
  refine zx_aload_n C 0 dX10_behind_0 rfl rfl ?_
  refine zx_iload_n C 1 dX10_behind_1 rfl rfl ?_
  refine zx_callV (As := [.int v1]) (st := []) C yk_X10_isCandle q_361 q_363 q_4 (by decide) rfl rfl (k_X10_isCandle C.hO N v1 σ) (by decide) rfl rfl (Nat.le_of_ble_eq_true rfl) dX10_behind_2 (fun _ r_1 t_2 => ?_) (fun h9 => nomatch h9)
  refine zx_if_ne (tgt := 14) C dX10_behind_5 (by decide) (fun h_3 => ?_) (fun h_3 => ?_)
  · refine zx_iload_n C 2 dX10_behind_14 rfl rfl ?_
    refine zx_iconst (v := 0) C dX10_behind_15 (by decide) ?_
    refine zx_sipush (v := 300) C dX10_behind_16 (by decide) ?_
    refine zx_callS (av := [.int v2, .int (0 : Int32), .int (300 : Int32)]) (st := []) C yk_X10_outside q_467 q_468 (k_X10_outside C.hO N v2 (0 : Int32) (300 : Int32) t_2) (by decide) rfl rfl (Nat.le_of_ble_eq_true rfl) dX10_behind_19 (fun _ r_4 t_5 => ?_) (fun h9 => nomatch h9)
    refine zx_istore_n (L1 := [(3, .int r_4), (0, .ref (ad 37)), (1, .int v1), (2, .int v2)]) C dX10_behind_22 rfl (by decide) rfl ?_
    refine zx_iload_n C 0 dX10_behind_23 rfl rfl ?_
    refine zx_if_eq (tgt := 33) C dX10_behind_24 (by decide) (fun h_6 => ?_) (fun h_6 => ?_)
    · refine zx_aload_n C 1 dX10_behind_33 rfl rfl ?_
      refine zx_iload_n C 3 dX10_behind_34 rfl rfl ?_
      refine zx_callV (As := [.int v2]) (st := []) C yk_X10_thinkAhead q_501 q_503 q_6 (by decide) rfl rfl (k_X10_thinkAhead C.hO N v2 t_5) (by decide) rfl rfl (Nat.le_of_ble_eq_true rfl) dX10_behind_35 (fun h9 => nomatch h9) (fun _ r_7 t_8 => ?_)
      refine zx_aload_n C 1 dX10_behind_38 rfl rfl ?_
      refine zx_get C 2 (by decide) rfl rfl (by decide) inX10 q_235 rfl rfl dX10_behind_39 ?_
      refine zx_get C 1 (l_House (j := 1) (by decide)) (c_house (j := 1) (by decide)) rfl (by decide) inX4 q_153 rfl rfl dX10_behind_42 ?_
      refine zx_iload_n C 2 dX10_behind_45 rfl rfl ?_
      refine zx_aald C 1 (l_cands (j := 1) (by decide)) (c_cands (j := 1) (by decide)) rfl dX10_behind_46 (fun h_9 => ?_)
      refine zx_get C 2 (l_cand (c := (6 * 1 + v1.toNatClampNeg)) (cand_lt h_9 (by decide))) (c_cand (c := (6 * 1 + v1.toNatClampNeg)) (cand_lt h_9 (by decide))) rfl (by decide) inX1 q_125 rfl rfl dX10_behind_47 ?_
      exact zx_iret C dX10_behind_50
    · refine zx_aload_n C 1 dX10_behind_27 rfl rfl ?_
      refine zx_iload_n C 0 dX10_behind_28 rfl rfl ?_
      refine zx_callV (As := [.int r_4]) (st := []) C yk_X10_refuse q_268 q_270 q_0 (by decide) rfl rfl (k_X10_refuse C.hO N r_4 t_5) (by decide) rfl rfl (Nat.le_of_ble_eq_true rfl) dX10_behind_29 (fun _ r_10 t_11 => ?_) (fun h9 => nomatch h9)
      exact zx_iret C dX10_behind_32
  · refine zx_aload_n C 0 dX10_behind_8 rfl rfl ?_
    refine zx_iconst (v := -1) C dX10_behind_9 (by decide) ?_
    refine zx_callV (As := [.int (-1 : Int32)]) (st := []) C yk_X10_refuse q_268 q_270 q_0 (by decide) rfl rfl (k_X10_refuse C.hO N (-1 : Int32) t_2) (by decide) rfl rfl (Nat.le_of_ble_eq_true rfl) dX10_behind_10 (fun _ r_12 t_13 => ?_) (fun h9 => nomatch h9)
    exact zx_iret C dX10_behind_13
def f_X10_owes (N : Nat) (v1 : Int32) (v2 : Int32) (v3 : Int32) (σ : zS) : zA := z_b (f_X10_areTwo N v1 v2 σ) (fun r_1 t_2 => (if r_1 = (0 : Int32) then z_b (f_X10_refuse N (-1 : Int32) t_2) (fun r_13 t_14 => some (r_13, t_14)) else z_b (f_X10_outside N v3 (0 : Int32) (300 : Int32) t_2) (fun r_4 t_5 => (if r_4 = (0 : Int32) then z_b (f_X10_thinkAhead N v3 t_5) (fun r_7 t_8 => z_b (f_X10_pair N v1 v2 t_8) (fun r_9 t_10 => z_g (z_in r_9 16) (some ((t_10 (27 + 1) r_9.toNatClampNeg), t_10)))) else z_b (f_X10_refuse N r_4 t_5) (fun r_11 t_12 => some (r_11, t_12))))))
set_option maxHeartbeats 4000000 in
set_option maxRecDepth 100000 in
theorem k_X10_owes {l : Launch} {dC : Nat → ClassId} {dI : Nat → Nat → Nat} {A : Nat → Prop} {ad : Nat → Nat} {cI cC cW : ClassId} (hO : zO A 48 ad (cfC ad cI cC cW)) (N : Nat) (v1 : Int32) (v2 : Int32) (v3 : Int32) (σ : zS) : zM l dC dI A 48 ad (cfC ad cI cC cW) (z_ty cI cC cW) true yX10_owes cX10_owes 5 (some .int) 7 [.ref (ad 37), .int v1, .int v2, .int v3] σ (f_X10_owes N v1 v2 v3 σ) := by
  refine zM_of hO (by decide) (Nat.le_of_ble_eq_true rfl) (fun G hG C => ?_)
  subst hG
  unfold f_X10_owes
  refine zx_sub (L1 := [(0, .ref (ad 37)), (1, .int v1), (2, .int v2), (3, .int v3)]) [0, 1, 2, 3] rfl ?_
  refine zx_iload_n C 1 dX10_owes_0 rfl rfl ?_
  refine zx_iload_n C 2 dX10_owes_1 rfl rfl ?_
  refine zx_callS (av := [.int v1, .int v2]) (st := []) C yk_X10_areTwo q_474 q_342 (k_X10_areTwo C.hO N v1 v2 σ) (by decide) rfl rfl (Nat.le_of_ble_eq_true rfl) dX10_owes_2 (fun _ r_1 t_2 => ?_) (fun h9 => nomatch h9)
  refine zx_if_ne (tgt := 14) C dX10_owes_5 (by decide) (fun h_3 => ?_) (fun h_3 => ?_)
  · refine zx_iload_n C 3 dX10_owes_14 rfl rfl ?_
    refine zx_iconst (v := 0) C dX10_owes_15 (by decide) ?_
    refine zx_sipush (v := 300) C dX10_owes_16 (by decide) ?_
    refine zx_callS (av := [.int v3, .int (0 : Int32), .int (300 : Int32)]) (st := []) C yk_X10_outside q_467 q_468 (k_X10_outside C.hO N v3 (0 : Int32) (300 : Int32) t_2) (by decide) rfl rfl (Nat.le_of_ble_eq_true rfl) dX10_owes_19 (fun _ r_4 t_5 => ?_) (fun h9 => nomatch h9)
    refine zx_istore (L1 := [(4, .int r_4), (0, .ref (ad 37)), (1, .int v1), (2, .int v2), (3, .int v3)]) C dX10_owes_22 (by decide) rfl ?_
    refine zx_iload C 0 dX10_owes_24 rfl ?_
    refine zx_if_eq (tgt := 36) C dX10_owes_26 (by decide) (fun h_6 => ?_) (fun h_6 => ?_)
    · refine zx_aload_n C 1 dX10_owes_36 rfl rfl ?_
      refine zx_iload_n C 4 dX10_owes_37 rfl rfl ?_
      refine zx_callV (As := [.int v3]) (st := []) C yk_X10_thinkAhead q_501 q_503 q_6 (by decide) rfl rfl (k_X10_thinkAhead C.hO N v3 t_5) (by decide) rfl rfl (Nat.le_of_ble_eq_true rfl) dX10_owes_38 (fun h9 => nomatch h9) (fun _ r_7 t_8 => ?_)
      refine zx_aload_n C 1 dX10_owes_41 rfl rfl ?_
      refine zx_get C 2 (by decide) rfl rfl (by decide) inX10 q_235 rfl rfl dX10_owes_42 ?_
      refine zx_get C 3 (l_House (j := 1) (by decide)) (c_house (j := 1) (by decide)) rfl (by decide) inX4 q_159 rfl rfl dX10_owes_45 ?_
      refine zx_iload_n C 2 dX10_owes_48 rfl rfl ?_
      refine zx_iload_n C 3 dX10_owes_49 rfl rfl ?_
      refine zx_callS (av := [.int v1, .int v2]) (st := [.ref (ad (27 + 1))]) C yk_X10_pair q_475 q_346 (k_X10_pair C.hO N v1 v2 t_8) (by decide) rfl rfl (Nat.le_of_ble_eq_true rfl) dX10_owes_50 (fun _ r_9 t_10 => ?_) (fun h9 => nomatch h9)
      refine zx_iald C 0 (l_deb (j := 1) (by decide)) (c_deb (j := 1) (by decide) _) rfl dX10_owes_53 ?_
      exact zx_iret C dX10_owes_54
    · refine zx_aload_n C 1 dX10_owes_29 rfl rfl ?_
      refine zx_iload C 0 dX10_owes_30 rfl ?_
      refine zx_callV (As := [.int r_4]) (st := []) C yk_X10_refuse q_268 q_270 q_0 (by decide) rfl rfl (k_X10_refuse C.hO N r_4 t_5) (by decide) rfl rfl (Nat.le_of_ble_eq_true rfl) dX10_owes_32 (fun _ r_11 t_12 => ?_) (fun h9 => nomatch h9)
      exact zx_iret C dX10_owes_35
  · refine zx_aload_n C 0 dX10_owes_8 rfl rfl ?_
    refine zx_iconst (v := -1) C dX10_owes_9 (by decide) ?_
    refine zx_callV (As := [.int (-1 : Int32)]) (st := []) C yk_X10_refuse q_268 q_270 q_0 (by decide) rfl rfl (k_X10_refuse C.hO N (-1 : Int32) t_2) (by decide) rfl rfl (Nat.le_of_ble_eq_true rfl) dX10_owes_10 (fun _ r_13 t_14 => ?_) (fun h9 => nomatch h9)
    exact zx_iret C dX10_owes_13
def bf_X10_reads_46 (N : Nat) (rec46 : Int32 → Int32 → Int32 → zS → zA) (v1 : Int32) (v2 : Int32) (v4 : Int32) (σ : zS) : zA := (if v2 ≤ v4 then some (v4, σ) else z_b (f_X4_isBright N 1 v1 σ) (fun r_2 t_3 => (if r_2 = (0 : Int32) then some (v4, t_3) else z_b (f_X4_passMinute N 1 t_3) (fun r_5 t_6 => (rec46 v1 v2 (v4 + (1 : Int32)) t_6)))))
set_option maxHeartbeats 4000000 in
set_option maxRecDepth 100000 in
theorem b_X10_reads_46 {G : zG} {dC : Nat → ClassId} {dI : Nat → Nat → Nat} {A : Nat → Prop} {ad : Nat → Nat} {cI cC cW : ClassId} (C : zC G dC dI A 48 ad (cfC ad cI cC cW) (z_ty cI cC cW) cX10_reads RX10 5 6 (some .int)) (N : Nat) (rec46 : Int32 → Int32 → Int32 → zS → zA) (hrec46 : ∀ (v1 : Int32) (v2 : Int32) (v4 : Int32) (σ : zS), zW G dC dI A 48 ad (cfC ad cI cC cW) 5 true (rec46 v1 v2 v4 σ) σ 46 [(0, .ref (ad 37)), (1, .int v1), (2, .int v2), (4, .int v4)] []) (v1 : Int32) (v2 : Int32) (v4 : Int32) (σ : zS) : zW G dC dI A 48 ad (cfC ad cI cC cW) 5 true (bf_X10_reads_46 N rec46 v1 v2 v4 σ) σ 46 [(0, .ref (ad 37)), (1, .int v1), (2, .int v2), (4, .int v4)] [] := by
  unfold bf_X10_reads_46
  refine zx_iload C 3 dX10_reads_46 rfl ?_
  refine zx_iload_n C 2 dX10_reads_48 rfl rfl ?_
  refine zx_icmp_ge (tgt := 76) C dX10_reads_49 (by decide) (fun h_1 => ?_) (fun h_1 => ?_)
  · refine zx_iload C 3 dX10_reads_76 rfl ?_
    exact zx_iret C dX10_reads_78
  · refine zx_aload_n C 0 dX10_reads_52 rfl rfl ?_
    refine zx_get C 2 (by decide) rfl rfl (by decide) inX10 q_235 rfl rfl dX10_reads_53 ?_
    refine zx_iload_n C 1 dX10_reads_56 rfl rfl ?_
    refine zx_callV (As := [.int v1]) (st := []) C yk_X4_isBright q_517 q_518 q_519 (l_House (j := 1) (by decide)) (c_house (j := 1) (by decide)) rfl (k_X4_isBright C.hO N 1 (by decide) v1 σ) (by decide) rfl rfl (Nat.le_of_ble_eq_true rfl) dX10_reads_57 (fun _ r_2 t_3 => ?_) (fun h9 => nomatch h9)
    refine zx_if_eq (tgt := 76) C dX10_reads_60 (by decide) (fun h_4 => ?_) (fun h_4 => ?_)
    · refine zx_iload C 3 dX10_reads_76 rfl ?_
      exact zx_iret C dX10_reads_78
    · refine zx_iinc (v := (v4 + (1 : Int32))) (L1 := [(4, .int (v4 + (1 : Int32))), (0, .ref (ad 37)), (1, .int v1), (2, .int v2)]) C 3 dX10_reads_63 rfl rfl (by decide) rfl ?_
      refine zx_aload_n C 1 dX10_reads_66 rfl rfl ?_
      refine zx_get C 2 (by decide) rfl rfl (by decide) inX10 q_235 rfl rfl dX10_reads_67 ?_
      refine zx_callV (As := []) (st := []) C yk_X4_passMinute q_485 q_486 q_487 (l_House (j := 1) (by decide)) (c_house (j := 1) (by decide)) rfl (k_X4_passMinute C.hO N 1 (by decide) t_3) (by decide) rfl rfl (Nat.le_of_ble_eq_true rfl) dX10_reads_70 (fun h9 => nomatch h9) (fun _ r_5 t_6 => ?_)
      refine zx_goto (tgt := 46) C dX10_reads_73 (by decide) ?_
      exact zx_sub (L1 := [(0, .ref (ad 37)), (1, .int v1), (2, .int v2), (4, .int (v4 + (1 : Int32)))]) [1, 2, 3, 0] rfl (hrec46 v1 v2 (v4 + (1 : Int32)) t_6)
def lf_X10_reads_46 (N : Nat) : Nat → Int32 → Int32 → Int32 → zS → zA
  | 0, _, _, _, _ => none
  | n + 1, v1, v2, v4, σ => bf_X10_reads_46 N (lf_X10_reads_46 N  n) v1 v2 v4 σ
theorem l_X10_reads_46 {G : zG} {dC : Nat → ClassId} {dI : Nat → Nat → Nat} {A : Nat → Prop} {ad : Nat → Nat} {cI cC cW : ClassId} (C : zC G dC dI A 48 ad (cfC ad cI cC cW) (z_ty cI cC cW) cX10_reads RX10 5 6 (some .int)) (N : Nat) : ∀ (n : Nat) (v1 : Int32) (v2 : Int32) (v4 : Int32) (σ : zS), zW G dC dI A 48 ad (cfC ad cI cC cW) 5 true (lf_X10_reads_46 N  n v1 v2 v4 σ) σ 46 [(0, .ref (ad 37)), (1, .int v1), (2, .int v2), (4, .int v4)] [] := by
  intro n
  induction n with
  | zero => intro v1 v2 v4 σ; exact zx_none
  | succ n ih => intro v1 v2 v4 σ; exact b_X10_reads_46 C N (lf_X10_reads_46 N  n) ih v1 v2 v4 σ
def f_X10_reads (N : Nat) (v1 : Int32) (v2 : Int32) (σ : zS) : zA := z_b (f_X10_isPerson N v1 σ) (fun r_7 t_8 => (if r_7 = (0 : Int32) then z_b (f_X10_refuse N (-1 : Int32) t_8) (fun r_17 t_18 => some (r_17, t_18)) else z_b (f_X10_outside N v2 (0 : Int32) (300 : Int32) t_8) (fun r_10 t_11 => (if r_10 = (0 : Int32) then z_b (f_X4_become N 1 0 t_11) (fun r_13 t_14 => (lf_X10_reads_46 N N v1 v2 (0 : Int32) t_14)) else z_b (f_X10_refuse N r_10 t_11) (fun r_15 t_16 => some (r_15, t_16))))))
set_option maxHeartbeats 4000000 in
set_option maxRecDepth 100000 in
theorem k_X10_reads {l : Launch} {dC : Nat → ClassId} {dI : Nat → Nat → Nat} {A : Nat → Prop} {ad : Nat → Nat} {cI cC cW : ClassId} (hO : zO A 48 ad (cfC ad cI cC cW)) (N : Nat) (v1 : Int32) (v2 : Int32) (σ : zS) : zM l dC dI A 48 ad (cfC ad cI cC cW) (z_ty cI cC cW) true yX10_reads cX10_reads 5 (some .int) 6 [.ref (ad 37), .int v1, .int v2] σ (f_X10_reads N v1 v2 σ) := by
  refine zM_of hO (by decide) (Nat.le_of_ble_eq_true rfl) (fun G hG C => ?_)
  subst hG
  unfold f_X10_reads
  refine zx_sub (L1 := [(0, .ref (ad 37)), (1, .int v1), (2, .int v2)]) [0, 1, 2] rfl ?_
  refine zx_iload_n C 1 dX10_reads_0 rfl rfl ?_
  refine zx_callS (av := [.int v1]) (st := []) C yk_X10_isPerson q_344 q_335 (k_X10_isPerson C.hO N v1 σ) (by decide) rfl rfl (Nat.le_of_ble_eq_true rfl) dX10_reads_1 (fun _ r_7 t_8 => ?_) (fun h9 => nomatch h9)
  refine zx_if_ne (tgt := 13) C dX10_reads_4 (by decide) (fun h_9 => ?_) (fun h_9 => ?_)
  · refine zx_iload_n C 2 dX10_reads_13 rfl rfl ?_
    refine zx_iconst (v := 0) C dX10_reads_14 (by decide) ?_
    refine zx_sipush (v := 300) C dX10_reads_15 (by decide) ?_
    refine zx_callS (av := [.int v2, .int (0 : Int32), .int (300 : Int32)]) (st := []) C yk_X10_outside q_467 q_468 (k_X10_outside C.hO N v2 (0 : Int32) (300 : Int32) t_8) (by decide) rfl rfl (Nat.le_of_ble_eq_true rfl) dX10_reads_18 (fun _ r_10 t_11 => ?_) (fun h9 => nomatch h9)
    refine zx_istore_n (L1 := [(3, .int r_10), (0, .ref (ad 37)), (1, .int v1), (2, .int v2)]) C dX10_reads_21 rfl (by decide) rfl ?_
    refine zx_iload_n C 0 dX10_reads_22 rfl rfl ?_
    refine zx_if_eq (tgt := 32) C dX10_reads_23 (by decide) (fun h_12 => ?_) (fun h_12 => ?_)
    · refine zx_aload_n C 1 dX10_reads_32 rfl rfl ?_
      refine zx_get C 2 (by decide) rfl rfl (by decide) inX10 q_235 rfl rfl dX10_reads_33 ?_
      refine zx_aload_n C 1 dX10_reads_36 rfl rfl ?_
      refine zx_get C 1 (by decide) rfl rfl (by decide) inX10 q_234 rfl rfl dX10_reads_37 ?_
      refine zx_callV (As := [.ref (ad (18 + 0))]) (st := []) C yk_X4_become q_302 q_303 q_304 (l_House (j := 1) (by decide)) (c_house (j := 1) (by decide)) rfl (k_X4_become C.hO N 1 (by decide) 0 (by decide) t_11) (by decide) rfl rfl (Nat.le_of_ble_eq_true rfl) dX10_reads_40 (fun h9 => nomatch h9) (fun _ r_13 t_14 => ?_)
      refine zx_iconst (v := 0) C dX10_reads_43 (by decide) ?_
      refine zx_istore (L1 := [(4, .int (0 : Int32)), (3, .int r_10), (0, .ref (ad 37)), (1, .int v1), (2, .int v2)]) C dX10_reads_44 (by decide) rfl ?_
      exact zx_sub (L1 := [(0, .ref (ad 37)), (1, .int v1), (2, .int v2), (4, .int (0 : Int32))]) [2, 3, 4, 0] rfl (l_X10_reads_46 C N N v1 v2 (0 : Int32) t_14)
    · refine zx_aload_n C 1 dX10_reads_26 rfl rfl ?_
      refine zx_iload_n C 0 dX10_reads_27 rfl rfl ?_
      refine zx_callV (As := [.int r_10]) (st := []) C yk_X10_refuse q_268 q_270 q_0 (by decide) rfl rfl (k_X10_refuse C.hO N r_10 t_11) (by decide) rfl rfl (Nat.le_of_ble_eq_true rfl) dX10_reads_28 (fun _ r_15 t_16 => ?_) (fun h9 => nomatch h9)
      exact zx_iret C dX10_reads_31
  · refine zx_aload_n C 0 dX10_reads_7 rfl rfl ?_
    refine zx_iconst (v := -1) C dX10_reads_8 (by decide) ?_
    refine zx_callV (As := [.int (-1 : Int32)]) (st := []) C yk_X10_refuse q_268 q_270 q_0 (by decide) rfl rfl (k_X10_refuse C.hO N (-1 : Int32) t_8) (by decide) rfl rfl (Nat.le_of_ble_eq_true rfl) dX10_reads_9 (fun _ r_17 t_18 => ?_) (fun h9 => nomatch h9)
    exact zx_iret C dX10_reads_12
def bf_X10_ends_37 (N : Nat) (rec37 : Nat → Int32 → zS → zA) (c2 : Nat) (v3 : Int32) (σ : zS) : zA := (if (999 : Int32) < v3 then some ((-9 : Int32), σ) else (if (σ c2 2) = (0 : Int32) then some (v3, σ) else (if (σ c2 5) = (0 : Int32) then some ((-9 : Int32), σ) else z_b (f_X4_passMinute N 1 σ) (fun r_4 t_5 => (rec37 c2 (v3 + (1 : Int32)) t_5)))))
set_option maxHeartbeats 4000000 in
set_option maxRecDepth 100000 in
theorem b_X10_ends_37 {G : zG} {dC : Nat → ClassId} {dI : Nat → Nat → Nat} {A : Nat → Prop} {ad : Nat → Nat} {cI cC cW : ClassId} (C : zC G dC dI A 48 ad (cfC ad cI cC cW) (z_ty cI cC cW) cX10_ends RX10 4 6 (some .int)) (N : Nat) (rec37 : Nat → Int32 → zS → zA) (hrec37 : ∀ (c2 : Nat) (hc2 : c2 < 18) (v3 : Int32) (σ : zS), zW G dC dI A 48 ad (cfC ad cI cC cW) 4 true (rec37 c2 v3 σ) σ 37 [(0, .ref (ad 37)), (2, .ref (ad c2)), (3, .int v3)] []) (c2 : Nat) (hc2 : c2 < 18) (v3 : Int32) (σ : zS) : zW G dC dI A 48 ad (cfC ad cI cC cW) 4 true (bf_X10_ends_37 N rec37 c2 v3 σ) σ 37 [(0, .ref (ad 37)), (2, .ref (ad c2)), (3, .int v3)] [] := by
  unfold bf_X10_ends_37
  refine zx_iload_n C 2 dX10_ends_37 rfl rfl ?_
  refine zx_sipush (v := 999) C dX10_ends_38 (by decide) ?_
  refine zx_icmp_gt (tgt := 76) C dX10_ends_41 (by decide) (fun h_1 => ?_) (fun h_1 => ?_)
  · refine zx_bipush (v := -9) C dX10_ends_76 (by decide) ?_
    exact zx_iret C dX10_ends_78
  · refine zx_aload_n C 1 dX10_ends_44 rfl rfl ?_
    refine zx_get C 2 (l_cand (c := c2) hc2) (c_cand (c := c2) hc2) rfl (by decide) inX1 q_125 rfl rfl dX10_ends_45 ?_
    refine zx_if_ne (tgt := 53) C dX10_ends_48 (by decide) (fun h_2 => ?_) (fun h_2 => ?_)
    · refine zx_aload_n C 1 dX10_ends_53 rfl rfl ?_
      refine zx_get C 5 (l_cand (c := c2) hc2) (c_cand (c := c2) hc2) rfl (by decide) inX1 q_134 rfl rfl dX10_ends_54 ?_
      refine zx_if_ne (tgt := 63) C dX10_ends_57 (by decide) (fun h_3 => ?_) (fun h_3 => ?_)
      · refine zx_aload_n C 0 dX10_ends_63 rfl rfl ?_
        refine zx_get C 2 (by decide) rfl rfl (by decide) inX10 q_235 rfl rfl dX10_ends_64 ?_
        refine zx_callV (As := []) (st := []) C yk_X4_passMinute q_485 q_486 q_487 (l_House (j := 1) (by decide)) (c_house (j := 1) (by decide)) rfl (k_X4_passMinute C.hO N 1 (by decide) σ) (by decide) rfl rfl (Nat.le_of_ble_eq_true rfl) dX10_ends_67 (fun h9 => nomatch h9) (fun _ r_4 t_5 => ?_)
        refine zx_iinc (v := (v3 + (1 : Int32))) (L1 := [(3, .int (v3 + (1 : Int32))), (0, .ref (ad 37)), (2, .ref (ad c2))]) C 2 dX10_ends_70 rfl rfl (by decide) rfl ?_
        refine zx_goto (tgt := 37) C dX10_ends_73 (by decide) ?_
        exact zx_sub (L1 := [(0, .ref (ad 37)), (2, .ref (ad c2)), (3, .int (v3 + (1 : Int32)))]) [1, 2, 0] rfl (hrec37 c2 hc2 (v3 + (1 : Int32)) t_5)
      · refine zx_bipush (v := -9) C dX10_ends_60 (by decide) ?_
        exact zx_iret C dX10_ends_62
    · refine zx_iload_n C 2 dX10_ends_51 rfl rfl ?_
      exact zx_iret C dX10_ends_52
def lf_X10_ends_37 (N : Nat) : Nat → Nat → Int32 → zS → zA
  | 0, _, _, _ => none
  | n + 1, c2, v3, σ => bf_X10_ends_37 N (lf_X10_ends_37 N  n) c2 v3 σ
theorem l_X10_ends_37 {G : zG} {dC : Nat → ClassId} {dI : Nat → Nat → Nat} {A : Nat → Prop} {ad : Nat → Nat} {cI cC cW : ClassId} (C : zC G dC dI A 48 ad (cfC ad cI cC cW) (z_ty cI cC cW) cX10_ends RX10 4 6 (some .int)) (N : Nat) : ∀ (n : Nat) (c2 : Nat) (hc2 : c2 < 18) (v3 : Int32) (σ : zS), zW G dC dI A 48 ad (cfC ad cI cC cW) 4 true (lf_X10_ends_37 N  n c2 v3 σ) σ 37 [(0, .ref (ad 37)), (2, .ref (ad c2)), (3, .int v3)] [] := by
  intro n
  induction n with
  | zero => intro c2 hc2 v3 σ; exact zx_none
  | succ n ih => intro c2 hc2 v3 σ; exact b_X10_ends_37 C N (lf_X10_ends_37 N  n) ih c2 hc2 v3 σ
def f_X10_ends (N : Nat) (v1 : Int32) (σ : zS) : zA := z_b (f_X10_isCandle N v1 σ) (fun r_6 t_7 => (if r_6 = (0 : Int32) then z_b (f_X10_refuse N (-1 : Int32) t_7) (fun r_12 t_13 => some (r_12, t_13)) else z_b (f_X4_become N 1 0 t_7) (fun r_9 t_10 => z_g (z_in v1 6) ((lf_X10_ends_37 N N (6 * 1 + v1.toNatClampNeg) (0 : Int32) t_10)))))
set_option maxHeartbeats 4000000 in
set_option maxRecDepth 100000 in
theorem k_X10_ends {l : Launch} {dC : Nat → ClassId} {dI : Nat → Nat → Nat} {A : Nat → Prop} {ad : Nat → Nat} {cI cC cW : ClassId} (hO : zO A 48 ad (cfC ad cI cC cW)) (N : Nat) (v1 : Int32) (σ : zS) : zM l dC dI A 48 ad (cfC ad cI cC cW) (z_ty cI cC cW) true yX10_ends cX10_ends 4 (some .int) 6 [.ref (ad 37), .int v1] σ (f_X10_ends N v1 σ) := by
  refine zM_of hO (by decide) (Nat.le_of_ble_eq_true rfl) (fun G hG C => ?_)
  subst hG
  unfold f_X10_ends
  refine zx_sub (L1 := [(0, .ref (ad 37)), (1, .int v1)]) [0, 1] rfl ?_
  refine zx_aload_n C 0 dX10_ends_0 rfl rfl ?_
  refine zx_iload_n C 1 dX10_ends_1 rfl rfl ?_
  refine zx_callV (As := [.int v1]) (st := []) C yk_X10_isCandle q_361 q_363 q_4 (by decide) rfl rfl (k_X10_isCandle C.hO N v1 σ) (by decide) rfl rfl (Nat.le_of_ble_eq_true rfl) dX10_ends_2 (fun _ r_6 t_7 => ?_) (fun h9 => nomatch h9)
  refine zx_if_ne (tgt := 14) C dX10_ends_5 (by decide) (fun h_8 => ?_) (fun h_8 => ?_)
  · refine zx_aload_n C 0 dX10_ends_14 rfl rfl ?_
    refine zx_get C 2 (by decide) rfl rfl (by decide) inX10 q_235 rfl rfl dX10_ends_15 ?_
    refine zx_aload_n C 0 dX10_ends_18 rfl rfl ?_
    refine zx_get C 1 (by decide) rfl rfl (by decide) inX10 q_234 rfl rfl dX10_ends_19 ?_
    refine zx_callV (As := [.ref (ad (18 + 0))]) (st := []) C yk_X4_become q_302 q_303 q_304 (l_House (j := 1) (by decide)) (c_house (j := 1) (by decide)) rfl (k_X4_become C.hO N 1 (by decide) 0 (by decide) t_7) (by decide) rfl rfl (Nat.le_of_ble_eq_true rfl) dX10_ends_22 (fun h9 => nomatch h9) (fun _ r_9 t_10 => ?_)
    refine zx_aload_n C 0 dX10_ends_25 rfl rfl ?_
    refine zx_get C 2 (by decide) rfl rfl (by decide) inX10 q_235 rfl rfl dX10_ends_26 ?_
    refine zx_get C 1 (l_House (j := 1) (by decide)) (c_house (j := 1) (by decide)) rfl (by decide) inX4 q_153 rfl rfl dX10_ends_29 ?_
    refine zx_iload_n C 1 dX10_ends_32 rfl rfl ?_
    refine zx_aald C 1 (l_cands (j := 1) (by decide)) (c_cands (j := 1) (by decide)) rfl dX10_ends_33 (fun h_11 => ?_)
    refine zx_astore_n (L1 := [(2, .ref (ad (6 * 1 + v1.toNatClampNeg))), (0, .ref (ad 37)), (1, .int v1)]) C dX10_ends_34 rfl (by decide) rfl ?_
    refine zx_iconst (v := 0) C dX10_ends_35 (by decide) ?_
    refine zx_istore_n (L1 := [(3, .int (0 : Int32)), (2, .ref (ad (6 * 1 + v1.toNatClampNeg))), (0, .ref (ad 37)), (1, .int v1)]) C dX10_ends_36 rfl (by decide) rfl ?_
    exact zx_sub (L1 := [(0, .ref (ad 37)), (2, .ref (ad (6 * 1 + v1.toNatClampNeg))), (3, .int (0 : Int32))]) [2, 1, 0] rfl (l_X10_ends_37 C N N (6 * 1 + v1.toNatClampNeg) (cand_lt h_11 (by decide)) (0 : Int32) t_10)
  · refine zx_aload_n C 0 dX10_ends_8 rfl rfl ?_
    refine zx_iconst (v := -1) C dX10_ends_9 (by decide) ?_
    refine zx_callV (As := [.int (-1 : Int32)]) (st := []) C yk_X10_refuse q_268 q_270 q_0 (by decide) rfl rfl (k_X10_refuse C.hO N (-1 : Int32) t_7) (by decide) rfl rfl (Nat.le_of_ble_eq_true rfl) dX10_ends_10 (fun _ r_12 t_13 => ?_) (fun h9 => nomatch h9)
    exact zx_iret C dX10_ends_13
def bf_X10_clearBy_13 (N : Nat) (rec13 : Int32 → zS → zA) (v1 : Int32) (σ : zS) : zA := (if (999 : Int32) < v1 then some ((-9 : Int32), σ) else z_b (f_X4_allDebts N 1 σ) (fun r_2 t_3 => (if r_2 = (0 : Int32) then some (v1, t_3) else z_b (f_X4_litCandles N 1 t_3) (fun r_5 t_6 => (if r_5 = (0 : Int32) then some ((-9 : Int32), t_6) else z_b (f_X4_passMinute N 1 t_6) (fun r_8 t_9 => (rec13 (v1 + (1 : Int32)) t_9)))))))
set_option maxHeartbeats 4000000 in
set_option maxRecDepth 100000 in
theorem b_X10_clearBy_13 {G : zG} {dC : Nat → ClassId} {dI : Nat → Nat → Nat} {A : Nat → Prop} {ad : Nat → Nat} {cI cC cW : ClassId} (C : zC G dC dI A 48 ad (cfC ad cI cC cW) (z_ty cI cC cW) cX10_clearBy RX10 2 6 (some .int)) (N : Nat) (rec13 : Int32 → zS → zA) (hrec13 : ∀ (v1 : Int32) (σ : zS), zW G dC dI A 48 ad (cfC ad cI cC cW) 2 true (rec13 v1 σ) σ 13 [(0, .ref (ad 37)), (1, .int v1)] []) (v1 : Int32) (σ : zS) : zW G dC dI A 48 ad (cfC ad cI cC cW) 2 true (bf_X10_clearBy_13 N rec13 v1 σ) σ 13 [(0, .ref (ad 37)), (1, .int v1)] [] := by
  unfold bf_X10_clearBy_13
  refine zx_iload_n C 1 dX10_clearBy_13 rfl rfl ?_
  refine zx_sipush (v := 999) C dX10_clearBy_14 (by decide) ?_
  refine zx_icmp_gt (tgt := 58) C dX10_clearBy_17 (by decide) (fun h_1 => ?_) (fun h_1 => ?_)
  · refine zx_bipush (v := -9) C dX10_clearBy_58 (by decide) ?_
    exact zx_iret C dX10_clearBy_60
  · refine zx_aload_n C 0 dX10_clearBy_20 rfl rfl ?_
    refine zx_get C 2 (by decide) rfl rfl (by decide) inX10 q_235 rfl rfl dX10_clearBy_21 ?_
    refine zx_callV (As := []) (st := []) C yk_X4_allDebts q_529 q_530 q_531 (l_House (j := 1) (by decide)) (c_house (j := 1) (by decide)) rfl (k_X4_allDebts C.hO N 1 (by decide) σ) (by decide) rfl rfl (Nat.le_of_ble_eq_true rfl) dX10_clearBy_24 (fun _ r_2 t_3 => ?_) (fun h9 => nomatch h9)
    refine zx_if_ne (tgt := 32) C dX10_clearBy_27 (by decide) (fun h_4 => ?_) (fun h_4 => ?_)
    · refine zx_aload_n C 0 dX10_clearBy_32 rfl rfl ?_
      refine zx_get C 2 (by decide) rfl rfl (by decide) inX10 q_235 rfl rfl dX10_clearBy_33 ?_
      refine zx_callV (As := []) (st := []) C yk_X4_litCandles q_505 q_506 q_507 (l_House (j := 1) (by decide)) (c_house (j := 1) (by decide)) rfl (k_X4_litCandles C.hO N 1 (by decide) t_3) (by decide) rfl rfl (Nat.le_of_ble_eq_true rfl) dX10_clearBy_36 (fun _ r_5 t_6 => ?_) (fun h9 => nomatch h9)
      refine zx_if_ne (tgt := 45) C dX10_clearBy_39 (by decide) (fun h_7 => ?_) (fun h_7 => ?_)
      · refine zx_aload_n C 0 dX10_clearBy_45 rfl rfl ?_
        refine zx_get C 2 (by decide) rfl rfl (by decide) inX10 q_235 rfl rfl dX10_clearBy_46 ?_
        refine zx_callV (As := []) (st := []) C yk_X4_passMinute q_485 q_486 q_487 (l_House (j := 1) (by decide)) (c_house (j := 1) (by decide)) rfl (k_X4_passMinute C.hO N 1 (by decide) t_6) (by decide) rfl rfl (Nat.le_of_ble_eq_true rfl) dX10_clearBy_49 (fun h9 => nomatch h9) (fun _ r_8 t_9 => ?_)
        refine zx_iinc (v := (v1 + (1 : Int32))) (L1 := [(1, .int (v1 + (1 : Int32))), (0, .ref (ad 37))]) C 1 dX10_clearBy_52 rfl rfl (by decide) rfl ?_
        refine zx_goto (tgt := 13) C dX10_clearBy_55 (by decide) ?_
        exact zx_sub (L1 := [(0, .ref (ad 37)), (1, .int (v1 + (1 : Int32)))]) [1, 0] rfl (hrec13 (v1 + (1 : Int32)) t_9)
      · refine zx_bipush (v := -9) C dX10_clearBy_42 (by decide) ?_
        exact zx_iret C dX10_clearBy_44
    · refine zx_iload_n C 1 dX10_clearBy_30 rfl rfl ?_
      exact zx_iret C dX10_clearBy_31
def lf_X10_clearBy_13 (N : Nat) : Nat → Int32 → zS → zA
  | 0, _, _ => none
  | n + 1, v1, σ => bf_X10_clearBy_13 N (lf_X10_clearBy_13 N  n) v1 σ
theorem l_X10_clearBy_13 {G : zG} {dC : Nat → ClassId} {dI : Nat → Nat → Nat} {A : Nat → Prop} {ad : Nat → Nat} {cI cC cW : ClassId} (C : zC G dC dI A 48 ad (cfC ad cI cC cW) (z_ty cI cC cW) cX10_clearBy RX10 2 6 (some .int)) (N : Nat) : ∀ (n : Nat) (v1 : Int32) (σ : zS), zW G dC dI A 48 ad (cfC ad cI cC cW) 2 true (lf_X10_clearBy_13 N  n v1 σ) σ 13 [(0, .ref (ad 37)), (1, .int v1)] [] := by
  intro n
  induction n with
  | zero => intro v1 σ; exact zx_none
  | succ n ih => intro v1 σ; exact b_X10_clearBy_13 C N (lf_X10_clearBy_13 N  n) ih v1 σ
def f_X10_clearBy (N : Nat) (σ : zS) : zA := z_b (f_X4_become N 1 0 σ) (fun r_10 t_11 => (lf_X10_clearBy_13 N N (0 : Int32) t_11))
set_option maxHeartbeats 4000000 in
set_option maxRecDepth 100000 in
theorem k_X10_clearBy {l : Launch} {dC : Nat → ClassId} {dI : Nat → Nat → Nat} {A : Nat → Prop} {ad : Nat → Nat} {cI cC cW : ClassId} (hO : zO A 48 ad (cfC ad cI cC cW)) (N : Nat) (σ : zS) : zM l dC dI A 48 ad (cfC ad cI cC cW) (z_ty cI cC cW) true yX10_clearBy cX10_clearBy 2 (some .int) 6 [.ref (ad 37)] σ (f_X10_clearBy N  σ) := by
  refine zM_of hO (by decide) (Nat.le_of_ble_eq_true rfl) (fun G hG C => ?_)
  subst hG
  unfold f_X10_clearBy
  refine zx_sub (L1 := [(0, .ref (ad 37))]) [0] rfl ?_
  refine zx_aload_n C 0 dX10_clearBy_0 rfl rfl ?_
  refine zx_get C 2 (by decide) rfl rfl (by decide) inX10 q_235 rfl rfl dX10_clearBy_1 ?_
  refine zx_aload_n C 0 dX10_clearBy_4 rfl rfl ?_
  refine zx_get C 1 (by decide) rfl rfl (by decide) inX10 q_234 rfl rfl dX10_clearBy_5 ?_
  refine zx_callV (As := [.ref (ad (18 + 0))]) (st := []) C yk_X4_become q_302 q_303 q_304 (l_House (j := 1) (by decide)) (c_house (j := 1) (by decide)) rfl (k_X4_become C.hO N 1 (by decide) 0 (by decide) σ) (by decide) rfl rfl (Nat.le_of_ble_eq_true rfl) dX10_clearBy_8 (fun h9 => nomatch h9) (fun _ r_10 t_11 => ?_)
  refine zx_iconst (v := 0) C dX10_clearBy_11 (by decide) ?_
  refine zx_istore_n (L1 := [(1, .int (0 : Int32)), (0, .ref (ad 37))]) C dX10_clearBy_12 rfl (by decide) rfl ?_
  exact zx_sub (L1 := [(0, .ref (ad 37)), (1, .int (0 : Int32))]) [1, 0] rfl (l_X10_clearBy_13 C N N (0 : Int32) t_11)
def bf_X10_dark_56 (N : Nat) (rec29 : Int32 → Int32 → Int32 → zS → zA) (v1 : Int32) (v3 : Int32) (v4 : Int32) (u0 : Int32) (σ : zS) : zA := (if u0 = (0 : Int32) then z_b (f_X4_owedTo N 1 v4 σ) (fun r_2 t_3 => (if r_2 ≤ (0 : Int32) then (rec29 v1 v3 (v4 + (1 : Int32)) t_3) else z_n (v3 ||| ((1 : Int32) <<< (v4 &&& 31))) (fun z_5 => (rec29 v1 z_5 (v4 + (1 : Int32)) t_3)))) else (rec29 v1 v3 (v4 + (1 : Int32)) σ))
set_option maxHeartbeats 4000000 in
set_option maxRecDepth 100000 in
theorem b_X10_dark_56 {G : zG} {dC : Nat → ClassId} {dI : Nat → Nat → Nat} {A : Nat → Prop} {ad : Nat → Nat} {cI cC cW : ClassId} (C : zC G dC dI A 48 ad (cfC ad cI cC cW) (z_ty cI cC cW) cX10_dark RX10 6 7 (some .int)) (N : Nat) (rec29 : Int32 → Int32 → Int32 → zS → zA) (hrec29 : ∀ (v1 : Int32) (v3 : Int32) (v4 : Int32) (σ : zS), zW G dC dI A 48 ad (cfC ad cI cC cW) 6 true (rec29 v1 v3 v4 σ) σ 29 [(0, .ref (ad 37)), (1, .int v1), (3, .int v3), (4, .int v4)] []) (v1 : Int32) (v3 : Int32) (v4 : Int32) (u0 : Int32) (σ : zS) : zW G dC dI A 48 ad (cfC ad cI cC cW) 6 true (bf_X10_dark_56 N rec29 v1 v3 v4 u0 σ) σ 56 [(0, .ref (ad 37)), (1, .int v1), (3, .int v3), (4, .int v4)] [.int u0] := by
  unfold bf_X10_dark_56
  refine zx_istore (L1 := [(5, .int u0), (0, .ref (ad 37)), (1, .int v1), (3, .int v3), (4, .int v4)]) C dX10_dark_56 (by decide) rfl ?_
  refine zx_iload C 0 dX10_dark_58 rfl ?_
  refine zx_if_ne (tgt := 82) C dX10_dark_60 (by decide) (fun h_1 => ?_) (fun h_1 => ?_)
  · refine zx_iinc (v := (v4 + (1 : Int32))) (L1 := [(4, .int (v4 + (1 : Int32))), (5, .int u0), (0, .ref (ad 37)), (1, .int v1), (3, .int v3)]) C 4 dX10_dark_82 rfl rfl (by decide) rfl ?_
    refine zx_goto (tgt := 29) C dX10_dark_85 (by decide) ?_
    exact zx_sub (L1 := [(0, .ref (ad 37)), (1, .int v1), (3, .int v3), (4, .int (v4 + (1 : Int32)))]) [2, 3, 4, 0] rfl (hrec29 v1 v3 (v4 + (1 : Int32)) σ)
  · refine zx_aload_n C 1 dX10_dark_63 rfl rfl ?_
    refine zx_get C 2 (by decide) rfl rfl (by decide) inX10 q_235 rfl rfl dX10_dark_64 ?_
    refine zx_iload C 4 dX10_dark_67 rfl ?_
    refine zx_callV (As := [.int v4]) (st := []) C yk_X4_owedTo q_537 q_538 q_539 (l_House (j := 1) (by decide)) (c_house (j := 1) (by decide)) rfl (k_X4_owedTo C.hO N 1 (by decide) v4 σ) (by decide) rfl rfl (Nat.le_of_ble_eq_true rfl) dX10_dark_69 (fun _ r_2 t_3 => ?_) (fun h9 => nomatch h9)
    refine zx_if_le (tgt := 82) C dX10_dark_72 (by decide) (fun h_4 => ?_) (fun h_4 => ?_)
    · refine zx_iinc (v := (v4 + (1 : Int32))) (L1 := [(4, .int (v4 + (1 : Int32))), (5, .int u0), (0, .ref (ad 37)), (1, .int v1), (3, .int v3)]) C 4 dX10_dark_82 rfl rfl (by decide) rfl ?_
      refine zx_goto (tgt := 29) C dX10_dark_85 (by decide) ?_
      exact zx_sub (L1 := [(0, .ref (ad 37)), (1, .int v1), (3, .int v3), (4, .int (v4 + (1 : Int32)))]) [2, 3, 4, 0] rfl (hrec29 v1 v3 (v4 + (1 : Int32)) t_3)
    · refine zx_iload_n C 3 dX10_dark_75 rfl rfl ?_
      refine zx_iconst (v := 1) C dX10_dark_76 (by decide) ?_
      refine zx_iload C 4 dX10_dark_77 rfl ?_
      refine zx_ishl C dX10_dark_79 ?_
      refine zx_ior C dX10_dark_80 ?_
      refine zx_n (fun z_5 => ?_)
      refine zx_istore_n (L1 := [(3, .int z_5), (5, .int u0), (0, .ref (ad 37)), (1, .int v1), (4, .int v4)]) C dX10_dark_81 rfl (by decide) rfl ?_
      refine zx_iinc (v := (v4 + (1 : Int32))) (L1 := [(4, .int (v4 + (1 : Int32))), (3, .int z_5), (5, .int u0), (0, .ref (ad 37)), (1, .int v1)]) C 4 dX10_dark_82 rfl rfl (by decide) rfl ?_
      refine zx_goto (tgt := 29) C dX10_dark_85 (by decide) ?_
      exact zx_sub (L1 := [(0, .ref (ad 37)), (1, .int v1), (3, .int z_5), (4, .int (v4 + (1 : Int32)))]) [3, 4, 1, 0] rfl (hrec29 v1 z_5 (v4 + (1 : Int32)) t_3)
def bf_X10_dark_55 (N : Nat) (rec29 : Int32 → Int32 → Int32 → zS → zA) (v1 : Int32) (v3 : Int32) (v4 : Int32) (σ : zS) : zA := (bf_X10_dark_56 N rec29 v1 v3 v4 (0 : Int32) σ)
set_option maxHeartbeats 4000000 in
set_option maxRecDepth 100000 in
theorem b_X10_dark_55 {G : zG} {dC : Nat → ClassId} {dI : Nat → Nat → Nat} {A : Nat → Prop} {ad : Nat → Nat} {cI cC cW : ClassId} (C : zC G dC dI A 48 ad (cfC ad cI cC cW) (z_ty cI cC cW) cX10_dark RX10 6 7 (some .int)) (N : Nat) (rec29 : Int32 → Int32 → Int32 → zS → zA) (hrec29 : ∀ (v1 : Int32) (v3 : Int32) (v4 : Int32) (σ : zS), zW G dC dI A 48 ad (cfC ad cI cC cW) 6 true (rec29 v1 v3 v4 σ) σ 29 [(0, .ref (ad 37)), (1, .int v1), (3, .int v3), (4, .int v4)] []) (v1 : Int32) (v3 : Int32) (v4 : Int32) (σ : zS) : zW G dC dI A 48 ad (cfC ad cI cC cW) 6 true (bf_X10_dark_55 N rec29 v1 v3 v4 σ) σ 55 [(0, .ref (ad 37)), (1, .int v1), (3, .int v3), (4, .int v4)] [] := by
  unfold bf_X10_dark_55
  refine zx_iconst (v := 0) C dX10_dark_55 (by decide) ?_
  exact zx_sub (L1 := [(0, .ref (ad 37)), (1, .int v1), (3, .int v3), (4, .int v4)]) [0, 1, 2, 3] rfl (b_X10_dark_56 C N rec29 hrec29 v1 v3 v4 (0 : Int32) σ)
def bf_X10_dark_29 (N : Nat) (rec29 : Int32 → Int32 → Int32 → zS → zA) (v1 : Int32) (v3 : Int32) (v4 : Int32) (σ : zS) : zA := (if (4 : Int32) ≤ v4 then some (v3, σ) else (if v1 ≤ (0 : Int32) then (bf_X10_dark_55 N rec29 v1 v3 v4 σ) else z_b (f_X4_isBright N 0 v4 σ) (fun r_8 t_9 => (if r_8 = (0 : Int32) then (bf_X10_dark_55 N rec29 v1 v3 v4 t_9) else (bf_X10_dark_56 N rec29 v1 v3 v4 (1 : Int32) t_9)))))
set_option maxHeartbeats 4000000 in
set_option maxRecDepth 100000 in
theorem b_X10_dark_29 {G : zG} {dC : Nat → ClassId} {dI : Nat → Nat → Nat} {A : Nat → Prop} {ad : Nat → Nat} {cI cC cW : ClassId} (C : zC G dC dI A 48 ad (cfC ad cI cC cW) (z_ty cI cC cW) cX10_dark RX10 6 7 (some .int)) (N : Nat) (rec29 : Int32 → Int32 → Int32 → zS → zA) (hrec29 : ∀ (v1 : Int32) (v3 : Int32) (v4 : Int32) (σ : zS), zW G dC dI A 48 ad (cfC ad cI cC cW) 6 true (rec29 v1 v3 v4 σ) σ 29 [(0, .ref (ad 37)), (1, .int v1), (3, .int v3), (4, .int v4)] []) (v1 : Int32) (v3 : Int32) (v4 : Int32) (σ : zS) : zW G dC dI A 48 ad (cfC ad cI cC cW) 6 true (bf_X10_dark_29 N rec29 v1 v3 v4 σ) σ 29 [(0, .ref (ad 37)), (1, .int v1), (3, .int v3), (4, .int v4)] [] := by
  unfold bf_X10_dark_29
  refine zx_iload C 3 dX10_dark_29 rfl ?_
  refine zx_iconst (v := 4) C dX10_dark_31 (by decide) ?_
  refine zx_icmp_ge (tgt := 88) C dX10_dark_32 (by decide) (fun h_6 => ?_) (fun h_6 => ?_)
  · refine zx_iload_n C 2 dX10_dark_88 rfl rfl ?_
    exact zx_iret C dX10_dark_89
  · refine zx_iload_n C 1 dX10_dark_35 rfl rfl ?_
    refine zx_if_le (tgt := 55) C dX10_dark_36 (by decide) (fun h_7 => ?_) (fun h_7 => ?_)
    · exact zx_sub (L1 := [(0, .ref (ad 37)), (1, .int v1), (3, .int v3), (4, .int v4)]) [0, 1, 2, 3] rfl (b_X10_dark_55 C N rec29 hrec29 v1 v3 v4 σ)
    · refine zx_aload_n C 0 dX10_dark_39 rfl rfl ?_
      refine zx_get C 1 (by decide) rfl rfl (by decide) inX10 q_234 rfl rfl dX10_dark_40 ?_
      refine zx_iload C 3 dX10_dark_43 rfl ?_
      refine zx_callV (As := [.int v4]) (st := []) C yk_X4_isBright q_517 q_518 q_519 (l_House (j := 0) (by decide)) (c_house (j := 0) (by decide)) rfl (k_X4_isBright C.hO N 0 (by decide) v4 σ) (by decide) rfl rfl (Nat.le_of_ble_eq_true rfl) dX10_dark_45 (fun _ r_8 t_9 => ?_) (fun h9 => nomatch h9)
      refine zx_if_eq (tgt := 55) C dX10_dark_48 (by decide) (fun h_10 => ?_) (fun h_10 => ?_)
      · exact zx_sub (L1 := [(0, .ref (ad 37)), (1, .int v1), (3, .int v3), (4, .int v4)]) [0, 1, 2, 3] rfl (b_X10_dark_55 C N rec29 hrec29 v1 v3 v4 t_9)
      · refine zx_iconst (v := 1) C dX10_dark_51 (by decide) ?_
        refine zx_goto (tgt := 56) C dX10_dark_52 (by decide) ?_
        exact zx_sub (L1 := [(0, .ref (ad 37)), (1, .int v1), (3, .int v3), (4, .int v4)]) [0, 1, 2, 3] rfl (b_X10_dark_56 C N rec29 hrec29 v1 v3 v4 (1 : Int32) t_9)
def lf_X10_dark_29 (N : Nat) : Nat → Int32 → Int32 → Int32 → zS → zA
  | 0, _, _, _, _ => none
  | n + 1, v1, v3, v4, σ => bf_X10_dark_29 N (lf_X10_dark_29 N  n) v1 v3 v4 σ
theorem l_X10_dark_29 {G : zG} {dC : Nat → ClassId} {dI : Nat → Nat → Nat} {A : Nat → Prop} {ad : Nat → Nat} {cI cC cW : ClassId} (C : zC G dC dI A 48 ad (cfC ad cI cC cW) (z_ty cI cC cW) cX10_dark RX10 6 7 (some .int)) (N : Nat) : ∀ (n : Nat) (v1 : Int32) (v3 : Int32) (v4 : Int32) (σ : zS), zW G dC dI A 48 ad (cfC ad cI cC cW) 6 true (lf_X10_dark_29 N  n v1 v3 v4 σ) σ 29 [(0, .ref (ad 37)), (1, .int v1), (3, .int v3), (4, .int v4)] [] := by
  intro n
  induction n with
  | zero => intro v1 v3 v4 σ; exact zx_none
  | succ n ih => intro v1 v3 v4 σ; exact b_X10_dark_29 C N (lf_X10_dark_29 N  n) ih v1 v3 v4 σ
def f_X10_dark (N : Nat) (v1 : Int32) (σ : zS) : zA := z_b (f_X10_outside N v1 (0 : Int32) (300 : Int32) σ) (fun r_11 t_12 => (if r_11 = (0 : Int32) then z_b (f_X10_thinkAhead N v1 t_12) (fun r_14 t_15 => (lf_X10_dark_29 N N v1 (0 : Int32) (0 : Int32) t_15)) else z_b (f_X10_refuse N r_11 t_12) (fun r_16 t_17 => some (r_16, t_17))))
set_option maxHeartbeats 4000000 in
set_option maxRecDepth 100000 in
theorem k_X10_dark {l : Launch} {dC : Nat → ClassId} {dI : Nat → Nat → Nat} {A : Nat → Prop} {ad : Nat → Nat} {cI cC cW : ClassId} (hO : zO A 48 ad (cfC ad cI cC cW)) (N : Nat) (v1 : Int32) (σ : zS) : zM l dC dI A 48 ad (cfC ad cI cC cW) (z_ty cI cC cW) true yX10_dark cX10_dark 6 (some .int) 7 [.ref (ad 37), .int v1] σ (f_X10_dark N v1 σ) := by
  refine zM_of hO (by decide) (Nat.le_of_ble_eq_true rfl) (fun G hG C => ?_)
  subst hG
  unfold f_X10_dark
  refine zx_sub (L1 := [(0, .ref (ad 37)), (1, .int v1)]) [0, 1] rfl ?_
  refine zx_iload_n C 1 dX10_dark_0 rfl rfl ?_
  refine zx_iconst (v := 0) C dX10_dark_1 (by decide) ?_
  refine zx_sipush (v := 300) C dX10_dark_2 (by decide) ?_
  refine zx_callS (av := [.int v1, .int (0 : Int32), .int (300 : Int32)]) (st := []) C yk_X10_outside q_467 q_468 (k_X10_outside C.hO N v1 (0 : Int32) (300 : Int32) σ) (by decide) rfl rfl (Nat.le_of_ble_eq_true rfl) dX10_dark_5 (fun _ r_11 t_12 => ?_) (fun h9 => nomatch h9)
  refine zx_istore_n (L1 := [(2, .int r_11), (0, .ref (ad 37)), (1, .int v1)]) C dX10_dark_8 rfl (by decide) rfl ?_
  refine zx_iload_n C 0 dX10_dark_9 rfl rfl ?_
  refine zx_if_eq (tgt := 19) C dX10_dark_10 (by decide) (fun h_13 => ?_) (fun h_13 => ?_)
  · refine zx_aload_n C 1 dX10_dark_19 rfl rfl ?_
    refine zx_iload_n C 2 dX10_dark_20 rfl rfl ?_
    refine zx_callV (As := [.int v1]) (st := []) C yk_X10_thinkAhead q_501 q_503 q_6 (by decide) rfl rfl (k_X10_thinkAhead C.hO N v1 t_12) (by decide) rfl rfl (Nat.le_of_ble_eq_true rfl) dX10_dark_21 (fun h9 => nomatch h9) (fun _ r_14 t_15 => ?_)
    refine zx_iconst (v := 0) C dX10_dark_24 (by decide) ?_
    refine zx_istore_n (L1 := [(3, .int (0 : Int32)), (2, .int r_11), (0, .ref (ad 37)), (1, .int v1)]) C dX10_dark_25 rfl (by decide) rfl ?_
    refine zx_iconst (v := 0) C dX10_dark_26 (by decide) ?_
    refine zx_istore (L1 := [(4, .int (0 : Int32)), (3, .int (0 : Int32)), (2, .int r_11), (0, .ref (ad 37)), (1, .int v1)]) C dX10_dark_27 (by decide) rfl ?_
    exact zx_sub (L1 := [(0, .ref (ad 37)), (1, .int v1), (3, .int (0 : Int32)), (4, .int (0 : Int32))]) [3, 4, 1, 0] rfl (l_X10_dark_29 C N N v1 (0 : Int32) (0 : Int32) t_15)
  · refine zx_aload_n C 1 dX10_dark_13 rfl rfl ?_
    refine zx_iload_n C 0 dX10_dark_14 rfl rfl ?_
    refine zx_callV (As := [.int r_11]) (st := []) C yk_X10_refuse q_268 q_270 q_0 (by decide) rfl rfl (k_X10_refuse C.hO N r_11 t_12) (by decide) rfl rfl (Nat.le_of_ble_eq_true rfl) dX10_dark_15 (fun _ r_16 t_17 => ?_) (fun h9 => nomatch h9)
    exact zx_iret C dX10_dark_18
def bf_X10_best_19 (N : Nat) (v1 : Int32) (v2 : Int32) (σ : zS) : zA := z_b (f_X10_outside N v1 (0 : Int32) (20 : Int32) σ) (fun r_1 t_2 => (if r_1 = (0 : Int32) then z_b (f_X9_find N 0 v1 t_2) (fun r_4 t_5 => (if v2 = (-1 : Int32) then some ((t_5 40 5), t_5) else z_g (z_in v2 6) (some ((t_5 45 v2.toNatClampNeg), t_5)))) else z_b (f_X10_refuse N r_1 t_2) (fun r_7 t_8 => some (r_7, t_8))))
set_option maxHeartbeats 4000000 in
set_option maxRecDepth 100000 in
theorem b_X10_best_19 {G : zG} {dC : Nat → ClassId} {dI : Nat → Nat → Nat} {A : Nat → Prop} {ad : Nat → Nat} {cI cC cW : ClassId} (C : zC G dC dI A 48 ad (cfC ad cI cC cW) (z_ty cI cC cW) cX10_best RX10 4 11 (some .int)) (N : Nat) (v1 : Int32) (v2 : Int32) (σ : zS) : zW G dC dI A 48 ad (cfC ad cI cC cW) 4 true (bf_X10_best_19 N  v1 v2 σ) σ 19 [(0, .ref (ad 37)), (1, .int v1), (2, .int v2)] [] := by
  unfold bf_X10_best_19
  refine zx_iload_n C 1 dX10_best_19 rfl rfl ?_
  refine zx_iconst (v := 0) C dX10_best_20 (by decide) ?_
  refine zx_bipush (v := 20) C dX10_best_21 (by decide) ?_
  refine zx_callS (av := [.int v1, .int (0 : Int32), .int (20 : Int32)]) (st := []) C yk_X10_outside q_467 q_468 (k_X10_outside C.hO N v1 (0 : Int32) (20 : Int32) σ) (by decide) rfl rfl (Nat.le_of_ble_eq_true rfl) dX10_best_23 (fun _ r_1 t_2 => ?_) (fun h9 => nomatch h9)
  refine zx_istore_n (L1 := [(3, .int r_1), (0, .ref (ad 37)), (1, .int v1), (2, .int v2)]) C dX10_best_26 rfl (by decide) rfl ?_
  refine zx_iload_n C 0 dX10_best_27 rfl rfl ?_
  refine zx_if_eq (tgt := 37) C dX10_best_28 (by decide) (fun h_3 => ?_) (fun h_3 => ?_)
  · refine zx_aload_n C 1 dX10_best_37 rfl rfl ?_
    refine zx_get C 6 (by decide) rfl rfl (by decide) inX10 q_239 rfl rfl dX10_best_38 ?_
    refine zx_aload_n C 1 dX10_best_41 rfl rfl ?_
    refine zx_get C 1 (by decide) rfl rfl (by decide) inX10 q_234 rfl rfl dX10_best_42 ?_
    refine zx_iload_n C 2 dX10_best_45 rfl rfl ?_
    refine zx_callV (As := [.ref (ad (18 + 0)), .int v1]) (st := []) C yk_X9_find q_545 q_546 q_547 (by decide) rfl rfl (k_X9_find C.hO N 0 (by decide) v1 t_2) (by decide) rfl rfl (Nat.le_of_ble_eq_true rfl) dX10_best_46 (fun h9 => nomatch h9) (fun _ r_4 t_5 => ?_)
    refine zx_iload_n C 3 dX10_best_49 rfl rfl ?_
    refine zx_iconst (v := -1) C dX10_best_50 (by decide) ?_
    refine zx_icmp_ne (tgt := 64) C dX10_best_51 (by decide) (fun h_6 => ?_) (fun h_6 => ?_)
    · refine zx_aload_n C 1 dX10_best_64 rfl rfl ?_
      refine zx_get C 6 (by decide) rfl rfl (by decide) inX10 q_239 rfl rfl dX10_best_65 ?_
      refine zx_get C 4 (by decide) rfl rfl (by decide) inX9 q_217 rfl rfl dX10_best_68 ?_
      refine zx_iload_n C 3 dX10_best_71 rfl rfl ?_
      refine zx_iald C 0 (by decide) rfl rfl dX10_best_72 ?_
      exact zx_iret C dX10_best_73
    · refine zx_aload_n C 1 dX10_best_54 rfl rfl ?_
      refine zx_get C 6 (by decide) rfl rfl (by decide) inX10 q_239 rfl rfl dX10_best_55 ?_
      refine zx_get C 5 (by decide) rfl rfl (by decide) inX9 q_219 rfl rfl dX10_best_58 ?_
      refine zx_goto (tgt := 73) C dX10_best_61 (by decide) ?_
      exact zx_iret C dX10_best_73
  · refine zx_aload_n C 1 dX10_best_31 rfl rfl ?_
    refine zx_iload_n C 0 dX10_best_32 rfl rfl ?_
    refine zx_callV (As := [.int r_1]) (st := []) C yk_X10_refuse q_268 q_270 q_0 (by decide) rfl rfl (k_X10_refuse C.hO N r_1 t_2) (by decide) rfl rfl (Nat.le_of_ble_eq_true rfl) dX10_best_33 (fun _ r_7 t_8 => ?_) (fun h9 => nomatch h9)
    exact zx_iret C dX10_best_36
def f_X10_best (N : Nat) (v1 : Int32) (v2 : Int32) (σ : zS) : zA := (if v2 = (-1 : Int32) then (bf_X10_best_19 N v1 v2 σ) else z_b (f_X10_isCandle N v2 σ) (fun r_10 t_11 => (if r_10 = (0 : Int32) then z_b (f_X10_refuse N (-1 : Int32) t_11) (fun r_13 t_14 => some (r_13, t_14)) else (bf_X10_best_19 N v1 v2 t_11))))
set_option maxHeartbeats 4000000 in
set_option maxRecDepth 100000 in
theorem k_X10_best {l : Launch} {dC : Nat → ClassId} {dI : Nat → Nat → Nat} {A : Nat → Prop} {ad : Nat → Nat} {cI cC cW : ClassId} (hO : zO A 48 ad (cfC ad cI cC cW)) (N : Nat) (v1 : Int32) (v2 : Int32) (σ : zS) : zM l dC dI A 48 ad (cfC ad cI cC cW) (z_ty cI cC cW) true yX10_best cX10_best 4 (some .int) 11 [.ref (ad 37), .int v1, .int v2] σ (f_X10_best N v1 v2 σ) := by
  refine zM_of hO (by decide) (Nat.le_of_ble_eq_true rfl) (fun G hG C => ?_)
  subst hG
  unfold f_X10_best
  refine zx_sub (L1 := [(0, .ref (ad 37)), (1, .int v1), (2, .int v2)]) [0, 1, 2] rfl ?_
  refine zx_iload_n C 2 dX10_best_0 rfl rfl ?_
  refine zx_iconst (v := -1) C dX10_best_1 (by decide) ?_
  refine zx_icmp_eq (tgt := 19) C dX10_best_2 (by decide) (fun h_9 => ?_) (fun h_9 => ?_)
  · exact zx_sub (L1 := [(0, .ref (ad 37)), (1, .int v1), (2, .int v2)]) [0, 1, 2] rfl (b_X10_best_19 C N v1 v2 σ)
  · refine zx_aload_n C 0 dX10_best_5 rfl rfl ?_
    refine zx_iload_n C 2 dX10_best_6 rfl rfl ?_
    refine zx_callV (As := [.int v2]) (st := []) C yk_X10_isCandle q_361 q_363 q_4 (by decide) rfl rfl (k_X10_isCandle C.hO N v2 σ) (by decide) rfl rfl (Nat.le_of_ble_eq_true rfl) dX10_best_7 (fun _ r_10 t_11 => ?_) (fun h9 => nomatch h9)
    refine zx_if_ne (tgt := 19) C dX10_best_10 (by decide) (fun h_12 => ?_) (fun h_12 => ?_)
    · exact zx_sub (L1 := [(0, .ref (ad 37)), (1, .int v1), (2, .int v2)]) [0, 1, 2] rfl (b_X10_best_19 C N v1 v2 t_11)
    · refine zx_aload_n C 0 dX10_best_13 rfl rfl ?_
      refine zx_iconst (v := -1) C dX10_best_14 (by decide) ?_
      refine zx_callV (As := [.int (-1 : Int32)]) (st := []) C yk_X10_refuse q_268 q_270 q_0 (by decide) rfl rfl (k_X10_refuse C.hO N (-1 : Int32) t_11) (by decide) rfl rfl (Nat.le_of_ble_eq_true rfl) dX10_best_15 (fun _ r_13 t_14 => ?_) (fun h9 => nomatch h9)
      exact zx_iret C dX10_best_18
def bf_X10_leastGrains_17 (N : Nat) (rec17 : Nat → Int32 → Int32 → Int32 → Int32 → Int32 → Int32 → Int32 → zS → zA) (k0 : Nat) (v1 : Int32) (v2 : Int32) (v3 : Int32) (v4 : Int32) (v5 : Int32) (v6 : Int32) (v7 : Int32) (σ : zS) : zA := (if (999 : Int32) < v7 then some ((-9 : Int32), σ) else z_b (v_worth N k0 (v6 + (1 : Int32)) v1 v2 σ) (fun r_2 t_3 => z_n (v5 + r_2) (fun z_4 => (if z_4 < v3 then (if (v6 + (1 : Int32)) = v4 then (rec17 k0 v1 v2 v3 v4 z_4 (0 : Int32) (v7 + (1 : Int32)) t_3) else (rec17 k0 v1 v2 v3 v4 v5 (v6 + (1 : Int32)) (v7 + (1 : Int32)) t_3)) else some (v7, t_3)))))
set_option maxHeartbeats 4000000 in
set_option maxRecDepth 100000 in
theorem b_X10_leastGrains_17 {G : zG} {dC : Nat → ClassId} {dI : Nat → Nat → Nat} {A : Nat → Prop} {ad : Nat → Nat} {cI cC cW : ClassId} (C : zC G dC dI A 48 ad (cfC ad cI cC cW) (z_ty cI cC cW) cX10_leastGrains RX10 9 3 (some .int)) (N : Nat) (rec17 : Nat → Int32 → Int32 → Int32 → Int32 → Int32 → Int32 → Int32 → zS → zA) (hrec17 : ∀ (k0 : Nat) (hk0 : k0 < 6) (v1 : Int32) (v2 : Int32) (v3 : Int32) (v4 : Int32) (v5 : Int32) (v6 : Int32) (v7 : Int32) (σ : zS), zW G dC dI A 48 ad (cfC ad cI cC cW) 9 true (rec17 k0 v1 v2 v3 v4 v5 v6 v7 σ) σ 17 [(0, .ref (ad (30 + k0))), (1, .int v1), (2, .int v2), (3, .int v3), (4, .int v4), (5, .int v5), (6, .int v6), (7, .int v7)] []) (k0 : Nat) (hk0 : k0 < 6) (v1 : Int32) (v2 : Int32) (v3 : Int32) (v4 : Int32) (v5 : Int32) (v6 : Int32) (v7 : Int32) (σ : zS) : zW G dC dI A 48 ad (cfC ad cI cC cW) 9 true (bf_X10_leastGrains_17 N rec17 k0 v1 v2 v3 v4 v5 v6 v7 σ) σ 17 [(0, .ref (ad (30 + k0))), (1, .int v1), (2, .int v2), (3, .int v3), (4, .int v4), (5, .int v5), (6, .int v6), (7, .int v7)] [] := by
  unfold bf_X10_leastGrains_17
  refine zx_iload C 7 dX10_leastGrains_17 rfl ?_
  refine zx_sipush (v := 999) C dX10_leastGrains_19 (by decide) ?_
  refine zx_icmp_gt (tgt := 70) C dX10_leastGrains_22 (by decide) (fun h_1 => ?_) (fun h_1 => ?_)
  · refine zx_bipush (v := -9) C dX10_leastGrains_70 (by decide) ?_
    exact zx_iret C dX10_leastGrains_72
  · refine zx_iinc (v := (v6 + (1 : Int32))) (L1 := [(6, .int (v6 + (1 : Int32))), (0, .ref (ad (30 + k0))), (1, .int v1), (2, .int v2), (3, .int v3), (4, .int v4), (5, .int v5), (7, .int v7)]) C 6 dX10_leastGrains_25 rfl rfl (by decide) rfl ?_
    refine zx_iload C 6 dX10_leastGrains_28 rfl ?_
    refine zx_aload_n C 1 dX10_leastGrains_30 rfl rfl ?_
    refine zx_iload C 0 dX10_leastGrains_31 rfl ?_
    refine zx_iload_n C 2 dX10_leastGrains_33 rfl rfl ?_
    refine zx_iload_n C 3 dX10_leastGrains_34 rfl rfl ?_
    refine zx_v_worth C N q_575 hk0 (by decide) (Nat.le_of_ble_eq_true rfl) dX10_leastGrains_35 (fun r_2 t_3 => ?_)
    refine zx_iadd C dX10_leastGrains_38 ?_
    refine zx_n (fun z_4 => ?_)
    refine zx_istore (L1 := [(8, .int z_4), (6, .int (v6 + (1 : Int32))), (0, .ref (ad (30 + k0))), (1, .int v1), (2, .int v2), (3, .int v3), (4, .int v4), (5, .int v5), (7, .int v7)]) C dX10_leastGrains_39 (by decide) rfl ?_
    refine zx_iload C 0 dX10_leastGrains_41 rfl ?_
    refine zx_iload_n C 5 dX10_leastGrains_43 rfl rfl ?_
    refine zx_icmp_lt (tgt := 50) C dX10_leastGrains_44 (by decide) (fun h_5 => ?_) (fun h_5 => ?_)
    · refine zx_iload C 1 dX10_leastGrains_50 rfl ?_
      refine zx_iload C 6 dX10_leastGrains_52 rfl ?_
      refine zx_icmp_ne (tgt := 64) C dX10_leastGrains_54 (by decide) (fun h_6 => ?_) (fun h_6 => ?_)
      · refine zx_iinc (v := (v7 + (1 : Int32))) (L1 := [(7, .int (v7 + (1 : Int32))), (8, .int z_4), (6, .int (v6 + (1 : Int32))), (0, .ref (ad (30 + k0))), (1, .int v1), (2, .int v2), (3, .int v3), (4, .int v4), (5, .int v5)]) C 8 dX10_leastGrains_64 rfl rfl (by decide) rfl ?_
        refine zx_goto (tgt := 17) C dX10_leastGrains_67 (by decide) ?_
        exact zx_sub (L1 := [(0, .ref (ad (30 + k0))), (1, .int v1), (2, .int v2), (3, .int v3), (4, .int v4), (5, .int v5), (6, .int (v6 + (1 : Int32))), (7, .int (v7 + (1 : Int32)))]) [3, 4, 5, 6, 7, 8, 2, 0] rfl (hrec17 k0 hk0 v1 v2 v3 v4 v5 (v6 + (1 : Int32)) (v7 + (1 : Int32)) t_3)
      · refine zx_iload C 0 dX10_leastGrains_57 rfl ?_
        refine zx_istore (L1 := [(5, .int z_4), (8, .int z_4), (6, .int (v6 + (1 : Int32))), (0, .ref (ad (30 + k0))), (1, .int v1), (2, .int v2), (3, .int v3), (4, .int v4), (7, .int v7)]) C dX10_leastGrains_59 (by decide) rfl ?_
        refine zx_iconst (v := 0) C dX10_leastGrains_61 (by decide) ?_
        refine zx_istore (L1 := [(6, .int (0 : Int32)), (5, .int z_4), (8, .int z_4), (0, .ref (ad (30 + k0))), (1, .int v1), (2, .int v2), (3, .int v3), (4, .int v4), (7, .int v7)]) C dX10_leastGrains_62 (by decide) rfl ?_
        refine zx_iinc (v := (v7 + (1 : Int32))) (L1 := [(7, .int (v7 + (1 : Int32))), (6, .int (0 : Int32)), (5, .int z_4), (8, .int z_4), (0, .ref (ad (30 + k0))), (1, .int v1), (2, .int v2), (3, .int v3), (4, .int v4)]) C 8 dX10_leastGrains_64 rfl rfl (by decide) rfl ?_
        refine zx_goto (tgt := 17) C dX10_leastGrains_67 (by decide) ?_
        exact zx_sub (L1 := [(0, .ref (ad (30 + k0))), (1, .int v1), (2, .int v2), (3, .int v3), (4, .int v4), (5, .int z_4), (6, .int (0 : Int32)), (7, .int (v7 + (1 : Int32)))]) [4, 5, 6, 7, 8, 2, 1, 0] rfl (hrec17 k0 hk0 v1 v2 v3 v4 z_4 (0 : Int32) (v7 + (1 : Int32)) t_3)
    · refine zx_iload C 8 dX10_leastGrains_47 rfl ?_
      exact zx_iret C dX10_leastGrains_49
def lf_X10_leastGrains_17 (N : Nat) : Nat → Nat → Int32 → Int32 → Int32 → Int32 → Int32 → Int32 → Int32 → zS → zA
  | 0, _, _, _, _, _, _, _, _, _ => none
  | n + 1, k0, v1, v2, v3, v4, v5, v6, v7, σ => bf_X10_leastGrains_17 N (lf_X10_leastGrains_17 N  n) k0 v1 v2 v3 v4 v5 v6 v7 σ
theorem l_X10_leastGrains_17 {G : zG} {dC : Nat → ClassId} {dI : Nat → Nat → Nat} {A : Nat → Prop} {ad : Nat → Nat} {cI cC cW : ClassId} (C : zC G dC dI A 48 ad (cfC ad cI cC cW) (z_ty cI cC cW) cX10_leastGrains RX10 9 3 (some .int)) (N : Nat) : ∀ (n : Nat) (k0 : Nat) (hk0 : k0 < 6) (v1 : Int32) (v2 : Int32) (v3 : Int32) (v4 : Int32) (v5 : Int32) (v6 : Int32) (v7 : Int32) (σ : zS), zW G dC dI A 48 ad (cfC ad cI cC cW) 9 true (lf_X10_leastGrains_17 N  n k0 v1 v2 v3 v4 v5 v6 v7 σ) σ 17 [(0, .ref (ad (30 + k0))), (1, .int v1), (2, .int v2), (3, .int v3), (4, .int v4), (5, .int v5), (6, .int v6), (7, .int v7)] [] := by
  intro n
  induction n with
  | zero => intro k0 hk0 v1 v2 v3 v4 v5 v6 v7 σ; exact zx_none
  | succ n ih => intro k0 hk0 v1 v2 v3 v4 v5 v6 v7 σ; exact b_X10_leastGrains_17 C N (lf_X10_leastGrains_17 N  n) ih k0 hk0 v1 v2 v3 v4 v5 v6 v7 σ
def f_X10_leastGrains (N : Nat) (k0 : Nat) (v1 : Int32) (v2 : Int32) (v3 : Int32) (σ : zS) : zA := z_b (v_rate N k0 v1 v2 σ) (fun r_7 t_8 => (lf_X10_leastGrains_17 N N k0 v1 v2 v3 r_7 (0 : Int32) (0 : Int32) (1 : Int32) t_8))
set_option maxHeartbeats 4000000 in
set_option maxRecDepth 100000 in
theorem k_X10_leastGrains {l : Launch} {dC : Nat → ClassId} {dI : Nat → Nat → Nat} {A : Nat → Prop} {ad : Nat → Nat} {cI cC cW : ClassId} (hO : zO A 48 ad (cfC ad cI cC cW)) (N : Nat) (k0 : Nat) (hk0 : k0 < 6) (v1 : Int32) (v2 : Int32) (v3 : Int32) (σ : zS) : zM l dC dI A 48 ad (cfC ad cI cC cW) (z_ty cI cC cW) true yX10_leastGrains cX10_leastGrains 9 (some .int) 3 [.ref (ad (30 + k0)), .int v1, .int v2, .int v3] σ (f_X10_leastGrains N k0 v1 v2 v3 σ) := by
  refine zM_of hO (by decide) (Nat.le_of_ble_eq_true rfl) (fun G hG C => ?_)
  subst hG
  unfold f_X10_leastGrains
  refine zx_sub (L1 := [(0, .ref (ad (30 + k0))), (1, .int v1), (2, .int v2), (3, .int v3)]) [0, 1, 2, 3] rfl ?_
  refine zx_aload_n C 0 dX10_leastGrains_0 rfl rfl ?_
  refine zx_iload_n C 1 dX10_leastGrains_1 rfl rfl ?_
  refine zx_iload_n C 2 dX10_leastGrains_2 rfl rfl ?_
  refine zx_v_rate C N q_574 hk0 (by decide) (Nat.le_of_ble_eq_true rfl) dX10_leastGrains_3 (fun r_7 t_8 => ?_)
  refine zx_istore (L1 := [(4, .int r_7), (0, .ref (ad (30 + k0))), (1, .int v1), (2, .int v2), (3, .int v3)]) C dX10_leastGrains_6 (by decide) rfl ?_
  refine zx_iconst (v := 0) C dX10_leastGrains_8 (by decide) ?_
  refine zx_istore (L1 := [(5, .int (0 : Int32)), (4, .int r_7), (0, .ref (ad (30 + k0))), (1, .int v1), (2, .int v2), (3, .int v3)]) C dX10_leastGrains_9 (by decide) rfl ?_
  refine zx_iconst (v := 0) C dX10_leastGrains_11 (by decide) ?_
  refine zx_istore (L1 := [(6, .int (0 : Int32)), (5, .int (0 : Int32)), (4, .int r_7), (0, .ref (ad (30 + k0))), (1, .int v1), (2, .int v2), (3, .int v3)]) C dX10_leastGrains_12 (by decide) rfl ?_
  refine zx_iconst (v := 1) C dX10_leastGrains_14 (by decide) ?_
  refine zx_istore (L1 := [(7, .int (1 : Int32)), (6, .int (0 : Int32)), (5, .int (0 : Int32)), (4, .int r_7), (0, .ref (ad (30 + k0))), (1, .int v1), (2, .int v2), (3, .int v3)]) C dX10_leastGrains_15 (by decide) rfl ?_
  exact zx_sub (L1 := [(0, .ref (ad (30 + k0))), (1, .int v1), (2, .int v2), (3, .int v3), (4, .int r_7), (5, .int (0 : Int32)), (6, .int (0 : Int32)), (7, .int (1 : Int32))]) [4, 5, 6, 7, 3, 2, 1, 0] rfl (l_X10_leastGrains_17 C N N k0 hk0 v1 v2 v3 r_7 (0 : Int32) (0 : Int32) (1 : Int32) t_8)
def f_X10_pour (N : Nat) (v1 : Int32) (v2 : Int32) (v3 : Int32) (v4 : Int32) (σ : zS) : zA := z_b (f_X10_isKind N v1 σ) (fun r_1 t_2 => (if r_1 = (0 : Int32) then z_b (f_X10_refuse N (-2 : Int32) t_2) (fun r_21 t_22 => some (r_21, t_22)) else z_b (f_X10_outside N v2 (0 : Int32) (9 : Int32) t_2) (fun r_4 t_5 => (if r_4 = (0 : Int32) then z_b (f_X10_areTwo N v3 v4 t_5) (fun r_7 t_8 => (if r_7 = (0 : Int32) then z_b (f_X10_refuse N (-1 : Int32) t_8) (fun r_17 t_18 => some (r_17, t_18)) else z_b (f_X10_pair N v3 v4 t_8) (fun r_10 t_11 => z_g (z_in r_10 16) (z_n (t_11 (27 + 0) r_10.toNatClampNeg) (fun z_12 => (if z_12 = (0 : Int32) then some ((0 : Int32), t_11) else z_g (z_in v1 6) (z_g (z_in v4 4) (z_b (f_X10_leastGrains N v1.toNatClampNeg v2 (t_11 (24 + 0) v4.toNatClampNeg) z_12 t_11) (fun r_15 t_16 => some (r_15, t_16)))))))))) else z_b (f_X10_refuse N r_4 t_5) (fun r_19 t_20 => some (r_19, t_20))))))
set_option maxHeartbeats 4000000 in
set_option maxRecDepth 100000 in
theorem k_X10_pour {l : Launch} {dC : Nat → ClassId} {dI : Nat → Nat → Nat} {A : Nat → Prop} {ad : Nat → Nat} {cI cC cW : ClassId} (hO : zO A 48 ad (cfC ad cI cC cW)) (N : Nat) (v1 : Int32) (v2 : Int32) (v3 : Int32) (v4 : Int32) (σ : zS) : zM l dC dI A 48 ad (cfC ad cI cC cW) (z_ty cI cC cW) true yX10_pour cX10_pour 7 (some .int) 4 [.ref (ad 37), .int v1, .int v2, .int v3, .int v4] σ (f_X10_pour N v1 v2 v3 v4 σ) := by
  refine zM_of hO (by decide) (Nat.le_of_ble_eq_true rfl) (fun G hG C => ?_)
  subst hG
  unfold f_X10_pour
  refine zx_sub (L1 := [(0, .ref (ad 37)), (1, .int v1), (2, .int v2), (3, .int v3), (4, .int v4)]) [0, 1, 2, 3, 4] rfl ?_
  refine zx_iload_n C 1 dX10_pour_0 rfl rfl ?_
  refine zx_callS (av := [.int v1]) (st := []) C yk_X10_isKind q_570 q_332 (k_X10_isKind C.hO N v1 σ) (by decide) rfl rfl (Nat.le_of_ble_eq_true rfl) dX10_pour_1 (fun _ r_1 t_2 => ?_) (fun h9 => nomatch h9)
  refine zx_if_ne (tgt := 14) C dX10_pour_4 (by decide) (fun h_3 => ?_) (fun h_3 => ?_)
  · refine zx_iload_n C 2 dX10_pour_14 rfl rfl ?_
    refine zx_iconst (v := 0) C dX10_pour_15 (by decide) ?_
    refine zx_bipush (v := 9) C dX10_pour_16 (by decide) ?_
    refine zx_callS (av := [.int v2, .int (0 : Int32), .int (9 : Int32)]) (st := []) C yk_X10_outside q_467 q_468 (k_X10_outside C.hO N v2 (0 : Int32) (9 : Int32) t_2) (by decide) rfl rfl (Nat.le_of_ble_eq_true rfl) dX10_pour_18 (fun _ r_4 t_5 => ?_) (fun h9 => nomatch h9)
    refine zx_istore (L1 := [(5, .int r_4), (0, .ref (ad 37)), (1, .int v1), (2, .int v2), (3, .int v3), (4, .int v4)]) C dX10_pour_21 (by decide) rfl ?_
    refine zx_iload C 0 dX10_pour_23 rfl ?_
    refine zx_if_eq (tgt := 35) C dX10_pour_25 (by decide) (fun h_6 => ?_) (fun h_6 => ?_)
    · refine zx_iload_n C 4 dX10_pour_35 rfl rfl ?_
      refine zx_iload C 5 dX10_pour_36 rfl ?_
      refine zx_callS (av := [.int v3, .int v4]) (st := []) C yk_X10_areTwo q_474 q_342 (k_X10_areTwo C.hO N v3 v4 t_5) (by decide) rfl rfl (Nat.le_of_ble_eq_true rfl) dX10_pour_38 (fun _ r_7 t_8 => ?_) (fun h9 => nomatch h9)
      refine zx_if_ne (tgt := 50) C dX10_pour_41 (by decide) (fun h_9 => ?_) (fun h_9 => ?_)
      · refine zx_aload_n C 1 dX10_pour_50 rfl rfl ?_
        refine zx_get C 1 (by decide) rfl rfl (by decide) inX10 q_234 rfl rfl dX10_pour_51 ?_
        refine zx_get C 3 (l_House (j := 0) (by decide)) (c_house (j := 0) (by decide)) rfl (by decide) inX4 q_159 rfl rfl dX10_pour_54 ?_
        refine zx_iload_n C 4 dX10_pour_57 rfl rfl ?_
        refine zx_iload C 5 dX10_pour_58 rfl ?_
        refine zx_callS (av := [.int v3, .int v4]) (st := [.ref (ad (27 + 0))]) C yk_X10_pair q_475 q_346 (k_X10_pair C.hO N v3 v4 t_8) (by decide) rfl rfl (Nat.le_of_ble_eq_true rfl) dX10_pour_60 (fun _ r_10 t_11 => ?_) (fun h9 => nomatch h9)
        refine zx_iald C 0 (l_deb (j := 0) (by decide)) (c_deb (j := 0) (by decide) _) rfl dX10_pour_63 ?_
        refine zx_n (fun z_12 => ?_)
        refine zx_istore (L1 := [(6, .int z_12), (5, .int r_4), (0, .ref (ad 37)), (1, .int v1), (2, .int v2), (3, .int v3), (4, .int v4)]) C dX10_pour_64 (by decide) rfl ?_
        refine zx_iload C 0 dX10_pour_66 rfl ?_
        refine zx_if_ne (tgt := 75) C dX10_pour_68 (by decide) (fun h_13 => ?_) (fun h_13 => ?_)
        · refine zx_aload_n C 2 dX10_pour_75 rfl rfl ?_
          refine zx_get C 0 (by decide) rfl rfl (by decide) inX10 q_233 rfl rfl dX10_pour_76 ?_
          refine zx_iload_n C 3 dX10_pour_79 rfl rfl ?_
          refine zx_aald C 2 (by decide) rfl rfl dX10_pour_80 (fun h_14 => ?_)
          refine zx_iload_n C 4 dX10_pour_81 rfl rfl ?_
          refine zx_aload_n C 2 dX10_pour_82 rfl rfl ?_
          refine zx_get C 1 (by decide) rfl rfl (by decide) inX10 q_234 rfl rfl dX10_pour_83 ?_
          refine zx_get C 2 (l_House (j := 0) (by decide)) (c_house (j := 0) (by decide)) rfl (by decide) inX4 q_156 rfl rfl dX10_pour_86 ?_
          refine zx_iload C 6 dX10_pour_89 rfl ?_
          refine zx_iald C 0 (l_dra (j := 0) (by decide)) (c_dra (j := 0) (by decide) _) rfl dX10_pour_91 ?_
          refine zx_iload C 0 dX10_pour_92 rfl ?_
          refine zx_callS (av := [.ref (ad (30 + v1.toNatClampNeg)), .int v2, .int (t_11 (24 + 0) v4.toNatClampNeg), .int z_12]) (st := []) C yk_X10_leastGrains q_571 q_572 (k_X10_leastGrains C.hO N v1.toNatClampNeg (wax_lt h_14) v2 (t_11 (24 + 0) v4.toNatClampNeg) z_12 t_11) (by decide) rfl rfl (Nat.le_of_ble_eq_true rfl) dX10_pour_94 (fun _ r_15 t_16 => ?_) (fun h9 => nomatch h9)
          exact zx_iret C dX10_pour_97
        · refine zx_iconst (v := 0) C dX10_pour_71 (by decide) ?_
          refine zx_goto (tgt := 97) C dX10_pour_72 (by decide) ?_
          exact zx_iret C dX10_pour_97
      · refine zx_aload_n C 1 dX10_pour_44 rfl rfl ?_
        refine zx_iconst (v := -1) C dX10_pour_45 (by decide) ?_
        refine zx_callV (As := [.int (-1 : Int32)]) (st := []) C yk_X10_refuse q_268 q_270 q_0 (by decide) rfl rfl (k_X10_refuse C.hO N (-1 : Int32) t_8) (by decide) rfl rfl (Nat.le_of_ble_eq_true rfl) dX10_pour_46 (fun _ r_17 t_18 => ?_) (fun h9 => nomatch h9)
        exact zx_iret C dX10_pour_49
    · refine zx_aload_n C 1 dX10_pour_28 rfl rfl ?_
      refine zx_iload C 0 dX10_pour_29 rfl ?_
      refine zx_callV (As := [.int r_4]) (st := []) C yk_X10_refuse q_268 q_270 q_0 (by decide) rfl rfl (k_X10_refuse C.hO N r_4 t_5) (by decide) rfl rfl (Nat.le_of_ble_eq_true rfl) dX10_pour_31 (fun _ r_19 t_20 => ?_) (fun h9 => nomatch h9)
      exact zx_iret C dX10_pour_34
  · refine zx_aload_n C 0 dX10_pour_7 rfl rfl ?_
    refine zx_bipush (v := -2) C dX10_pour_8 (by decide) ?_
    refine zx_callV (As := [.int (-2 : Int32)]) (st := []) C yk_X10_refuse q_268 q_270 q_0 (by decide) rfl rfl (k_X10_refuse C.hO N (-2 : Int32) t_2) (by decide) rfl rfl (Nat.le_of_ble_eq_true rfl) dX10_pour_10 (fun _ r_21 t_22 => ?_) (fun h9 => nomatch h9)
    exact zx_iret C dX10_pour_13
def f_X10_strike (N : Nat) (σ : zS) : zA := z_b (f_X4_strikePairs N 0 σ) (fun r_1 t_2 => z_b (f_X4_strikeTriples N 0 t_2) (fun r_3 t_4 => some ((r_1 + r_3), t_4)))
set_option maxHeartbeats 4000000 in
set_option maxRecDepth 100000 in
theorem k_X10_strike {l : Launch} {dC : Nat → ClassId} {dI : Nat → Nat → Nat} {A : Nat → Prop} {ad : Nat → Nat} {cI cC cW : ClassId} (hO : zO A 48 ad (cfC ad cI cC cW)) (N : Nat) (σ : zS) : zM l dC dI A 48 ad (cfC ad cI cC cW) (z_ty cI cC cW) true yX10_strike cX10_strike 1 (some .int) 3 [.ref (ad 37)] σ (f_X10_strike N  σ) := by
  refine zM_of hO (by decide) (Nat.le_of_ble_eq_true rfl) (fun G hG C => ?_)
  subst hG
  unfold f_X10_strike
  refine zx_sub (L1 := [(0, .ref (ad 37))]) [0] rfl ?_
  refine zx_aload_n C 0 dX10_strike_0 rfl rfl ?_
  refine zx_get C 1 (by decide) rfl rfl (by decide) inX10 q_234 rfl rfl dX10_strike_1 ?_
  refine zx_callV (As := []) (st := []) C yk_X4_strikePairs q_580 q_581 q_582 (l_House (j := 0) (by decide)) (c_house (j := 0) (by decide)) rfl (k_X4_strikePairs C.hO N 0 (by decide) σ) (by decide) rfl rfl (Nat.le_of_ble_eq_true rfl) dX10_strike_4 (fun _ r_1 t_2 => ?_) (fun h9 => nomatch h9)
  refine zx_aload_n C 0 dX10_strike_7 rfl rfl ?_
  refine zx_get C 1 (by decide) rfl rfl (by decide) inX10 q_234 rfl rfl dX10_strike_8 ?_
  refine zx_callV (As := []) (st := [.int r_1]) C yk_X4_strikeTriples q_584 q_585 q_586 (l_House (j := 0) (by decide)) (c_house (j := 0) (by decide)) rfl (k_X4_strikeTriples C.hO N 0 (by decide) t_2) (by decide) rfl rfl (Nat.le_of_ble_eq_true rfl) dX10_strike_11 (fun _ r_3 t_4 => ?_) (fun h9 => nomatch h9)
  refine zx_iadd C dX10_strike_14 ?_
  exact zx_iret C dX10_strike_15
def f_X10_owed (N : Nat) (v1 : Int32) (σ : zS) : zA := z_b (f_X10_isPerson N v1 σ) (fun r_1 t_2 => (if r_1 = (0 : Int32) then z_b (f_X10_refuse N (-1 : Int32) t_2) (fun r_8 t_9 => some (((1000000000 : Int32) - r_8), t_9)) else z_b (f_X4_owedTo N 0 v1 t_2) (fun r_4 t_5 => z_b (f_X4_owedBy N 0 v1 t_5) (fun r_6 t_7 => some ((r_4 - r_6), t_7)))))
set_option maxHeartbeats 4000000 in
set_option maxRecDepth 100000 in
theorem k_X10_owed {l : Launch} {dC : Nat → ClassId} {dI : Nat → Nat → Nat} {A : Nat → Prop} {ad : Nat → Nat} {cI cC cW : ClassId} (hO : zO A 48 ad (cfC ad cI cC cW)) (N : Nat) (v1 : Int32) (σ : zS) : zM l dC dI A 48 ad (cfC ad cI cC cW) (z_ty cI cC cW) true yX10_owed cX10_owed 2 (some .int) 2 [.ref (ad 37), .int v1] σ (f_X10_owed N v1 σ) := by
  refine zM_of hO (by decide) (Nat.le_of_ble_eq_true rfl) (fun G hG C => ?_)
  subst hG
  unfold f_X10_owed
  refine zx_sub (L1 := [(0, .ref (ad 37)), (1, .int v1)]) [0, 1] rfl ?_
  refine zx_iload_n C 1 dX10_owed_0 rfl rfl ?_
  refine zx_callS (av := [.int v1]) (st := []) C yk_X10_isPerson q_344 q_335 (k_X10_isPerson C.hO N v1 σ) (by decide) rfl rfl (Nat.le_of_ble_eq_true rfl) dX10_owed_1 (fun _ r_1 t_2 => ?_) (fun h9 => nomatch h9)
  refine zx_if_ne (tgt := 16) C dX10_owed_4 (by decide) (fun h_3 => ?_) (fun h_3 => ?_)
  · refine zx_aload_n C 0 dX10_owed_16 rfl rfl ?_
    refine zx_get C 1 (by decide) rfl rfl (by decide) inX10 q_234 rfl rfl dX10_owed_17 ?_
    refine zx_iload_n C 1 dX10_owed_20 rfl rfl ?_
    refine zx_callV (As := [.int v1]) (st := []) C yk_X4_owedTo q_537 q_538 q_539 (l_House (j := 0) (by decide)) (c_house (j := 0) (by decide)) rfl (k_X4_owedTo C.hO N 0 (by decide) v1 t_2) (by decide) rfl rfl (Nat.le_of_ble_eq_true rfl) dX10_owed_21 (fun _ r_4 t_5 => ?_) (fun h9 => nomatch h9)
    refine zx_aload_n C 0 dX10_owed_24 rfl rfl ?_
    refine zx_get C 1 (by decide) rfl rfl (by decide) inX10 q_234 rfl rfl dX10_owed_25 ?_
    refine zx_iload_n C 1 dX10_owed_28 rfl rfl ?_
    refine zx_callV (As := [.int v1]) (st := [.int r_4]) C yk_X4_owedBy q_597 q_598 q_599 (l_House (j := 0) (by decide)) (c_house (j := 0) (by decide)) rfl (k_X4_owedBy C.hO N 0 (by decide) v1 t_5) (by decide) rfl rfl (Nat.le_of_ble_eq_true rfl) dX10_owed_29 (fun _ r_6 t_7 => ?_) (fun h9 => nomatch h9)
    refine zx_isub C dX10_owed_32 ?_
    exact zx_iret C dX10_owed_33
  · refine zx_ldc (v := 1000000000) C dX10_owed_7 q_596 ?_
    refine zx_aload_n C 0 dX10_owed_9 rfl rfl ?_
    refine zx_iconst (v := -1) C dX10_owed_10 (by decide) ?_
    refine zx_callV (As := [.int (-1 : Int32)]) (st := [.int (1000000000 : Int32)]) C yk_X10_refuse q_268 q_270 q_0 (by decide) rfl rfl (k_X10_refuse C.hO N (-1 : Int32) t_2) (by decide) rfl rfl (Nat.le_of_ble_eq_true rfl) dX10_owed_11 (fun _ r_8 t_9 => ?_) (fun h9 => nomatch h9)
    refine zx_isub C dX10_owed_14 ?_
    exact zx_iret C dX10_owed_15
def bf_X10_cheat_80 (N : Nat) (rec80 : Int32 → Int32 → Int32 → Int32 → Int32 → Int32 → Int32 → zS → zA) (v1 : Int32) (v2 : Int32) (v3 : Int32) (v4 : Int32) (v5 : Int32) (v6 : Int32) (v7 : Int32) (σ : zS) : zA := (if (6 : Int32) ≤ v7 then some (v6, σ) else z_g (z_in v7 6) (z_g (z_in v1 4) (z_b (v_rate N v7.toNatClampNeg v2 (σ (24 + 0) v1.toNatClampNeg) σ) (fun r_3 t_4 => (if (if (0 : Int32) < (v3 - (v5 * r_3)) then (v3 - (v5 * r_3)) else (0 : Int32)) = v4 then z_n (v6 ||| ((1 : Int32) <<< (v7 &&& 31))) (fun z_6 => (rec80 v1 v2 v3 v4 v5 z_6 (v7 + (1 : Int32)) t_4)) else (rec80 v1 v2 v3 v4 v5 v6 (v7 + (1 : Int32)) t_4))))))
set_option maxHeartbeats 4000000 in
set_option maxRecDepth 100000 in
theorem b_X10_cheat_80 {G : zG} {dC : Nat → ClassId} {dI : Nat → Nat → Nat} {A : Nat → Prop} {ad : Nat → Nat} {cI cC cW : ClassId} (C : zC G dC dI A 48 ad (cfC ad cI cC cW) (z_ty cI cC cW) cX10_cheat RX10 9 3 (some .int)) (N : Nat) (rec80 : Int32 → Int32 → Int32 → Int32 → Int32 → Int32 → Int32 → zS → zA) (hrec80 : ∀ (v1 : Int32) (v2 : Int32) (v3 : Int32) (v4 : Int32) (v5 : Int32) (v6 : Int32) (v7 : Int32) (σ : zS), zW G dC dI A 48 ad (cfC ad cI cC cW) 9 true (rec80 v1 v2 v3 v4 v5 v6 v7 σ) σ 80 [(0, .ref (ad 37)), (1, .int v1), (2, .int v2), (3, .int v3), (4, .int v4), (5, .int v5), (6, .int v6), (7, .int v7)] []) (v1 : Int32) (v2 : Int32) (v3 : Int32) (v4 : Int32) (v5 : Int32) (v6 : Int32) (v7 : Int32) (σ : zS) : zW G dC dI A 48 ad (cfC ad cI cC cW) 9 true (bf_X10_cheat_80 N rec80 v1 v2 v3 v4 v5 v6 v7 σ) σ 80 [(0, .ref (ad 37)), (1, .int v1), (2, .int v2), (3, .int v3), (4, .int v4), (5, .int v5), (6, .int v6), (7, .int v7)] [] := by
  unfold bf_X10_cheat_80
  refine zx_iload C 7 dX10_cheat_80 rfl ?_
  refine zx_bipush (v := 6) C dX10_cheat_82 (by decide) ?_
  refine zx_icmp_ge (tgt := 140) C dX10_cheat_84 (by decide) (fun h_1 => ?_) (fun h_1 => ?_)
  · refine zx_iload C 6 dX10_cheat_140 rfl ?_
    exact zx_iret C dX10_cheat_142
  · refine zx_aload_n C 0 dX10_cheat_87 rfl rfl ?_
    refine zx_get C 0 (by decide) rfl rfl (by decide) inX10 q_233 rfl rfl dX10_cheat_88 ?_
    refine zx_iload C 7 dX10_cheat_91 rfl ?_
    refine zx_aald C 2 (by decide) rfl rfl dX10_cheat_93 (fun h_2 => ?_)
    refine zx_iload_n C 2 dX10_cheat_94 rfl rfl ?_
    refine zx_aload_n C 0 dX10_cheat_95 rfl rfl ?_
    refine zx_get C 1 (by decide) rfl rfl (by decide) inX10 q_234 rfl rfl dX10_cheat_96 ?_
    refine zx_get C 2 (l_House (j := 0) (by decide)) (c_house (j := 0) (by decide)) rfl (by decide) inX4 q_156 rfl rfl dX10_cheat_99 ?_
    refine zx_iload_n C 1 dX10_cheat_102 rfl rfl ?_
    refine zx_iald C 0 (l_dra (j := 0) (by decide)) (c_dra (j := 0) (by decide) _) rfl dX10_cheat_103 ?_
    refine zx_v_rate C N q_574 (wax_lt h_2) (by decide) (Nat.le_of_ble_eq_true rfl) dX10_cheat_104 (fun r_3 t_4 => ?_)
    refine zx_istore (L1 := [(8, .int r_3), (0, .ref (ad 37)), (1, .int v1), (2, .int v2), (3, .int v3), (4, .int v4), (5, .int v5), (6, .int v6), (7, .int v7)]) C dX10_cheat_107 (by decide) rfl ?_
    refine zx_iconst (v := 0) C dX10_cheat_109 (by decide) ?_
    refine zx_iload_n C 4 dX10_cheat_110 rfl rfl ?_
    refine zx_iload C 6 dX10_cheat_111 rfl ?_
    refine zx_iload C 0 dX10_cheat_113 rfl ?_
    refine zx_imul C dX10_cheat_115 ?_
    refine zx_isub C dX10_cheat_116 ?_
    refine zx_max C q_605 q_390 q_49 q_391 (by decide) (Nat.le_of_ble_eq_true rfl) dX10_cheat_117 ?_
    refine zx_iload C 5 dX10_cheat_120 rfl ?_
    refine zx_icmp_ne (tgt := 134) C dX10_cheat_122 (by decide) (fun h_5 => ?_) (fun h_5 => ?_)
    · refine zx_iinc (v := (v7 + (1 : Int32))) (L1 := [(7, .int (v7 + (1 : Int32))), (8, .int r_3), (0, .ref (ad 37)), (1, .int v1), (2, .int v2), (3, .int v3), (4, .int v4), (5, .int v5), (6, .int v6)]) C 8 dX10_cheat_134 rfl rfl (by decide) rfl ?_
      refine zx_goto (tgt := 80) C dX10_cheat_137 (by decide) ?_
      exact zx_sub (L1 := [(0, .ref (ad 37)), (1, .int v1), (2, .int v2), (3, .int v3), (4, .int v4), (5, .int v5), (6, .int v6), (7, .int (v7 + (1 : Int32)))]) [2, 3, 4, 5, 6, 7, 8, 0] rfl (hrec80 v1 v2 v3 v4 v5 v6 (v7 + (1 : Int32)) t_4)
    · refine zx_iload C 7 dX10_cheat_125 rfl ?_
      refine zx_iconst (v := 1) C dX10_cheat_127 (by decide) ?_
      refine zx_iload C 8 dX10_cheat_128 rfl ?_
      refine zx_ishl C dX10_cheat_130 ?_
      refine zx_ior C dX10_cheat_131 ?_
      refine zx_n (fun z_6 => ?_)
      refine zx_istore (L1 := [(6, .int z_6), (8, .int r_3), (0, .ref (ad 37)), (1, .int v1), (2, .int v2), (3, .int v3), (4, .int v4), (5, .int v5), (7, .int v7)]) C dX10_cheat_132 (by decide) rfl ?_
      refine zx_iinc (v := (v7 + (1 : Int32))) (L1 := [(7, .int (v7 + (1 : Int32))), (6, .int z_6), (8, .int r_3), (0, .ref (ad 37)), (1, .int v1), (2, .int v2), (3, .int v3), (4, .int v4), (5, .int v5)]) C 8 dX10_cheat_134 rfl rfl (by decide) rfl ?_
      refine zx_goto (tgt := 80) C dX10_cheat_137 (by decide) ?_
      exact zx_sub (L1 := [(0, .ref (ad 37)), (1, .int v1), (2, .int v2), (3, .int v3), (4, .int v4), (5, .int v5), (6, .int z_6), (7, .int (v7 + (1 : Int32)))]) [3, 4, 5, 6, 7, 8, 1, 0] rfl (hrec80 v1 v2 v3 v4 v5 z_6 (v7 + (1 : Int32)) t_4)
def lf_X10_cheat_80 (N : Nat) : Nat → Int32 → Int32 → Int32 → Int32 → Int32 → Int32 → Int32 → zS → zA
  | 0, _, _, _, _, _, _, _, _ => none
  | n + 1, v1, v2, v3, v4, v5, v6, v7, σ => bf_X10_cheat_80 N (lf_X10_cheat_80 N  n) v1 v2 v3 v4 v5 v6 v7 σ
theorem l_X10_cheat_80 {G : zG} {dC : Nat → ClassId} {dI : Nat → Nat → Nat} {A : Nat → Prop} {ad : Nat → Nat} {cI cC cW : ClassId} (C : zC G dC dI A 48 ad (cfC ad cI cC cW) (z_ty cI cC cW) cX10_cheat RX10 9 3 (some .int)) (N : Nat) : ∀ (n : Nat) (v1 : Int32) (v2 : Int32) (v3 : Int32) (v4 : Int32) (v5 : Int32) (v6 : Int32) (v7 : Int32) (σ : zS), zW G dC dI A 48 ad (cfC ad cI cC cW) 9 true (lf_X10_cheat_80 N  n v1 v2 v3 v4 v5 v6 v7 σ) σ 80 [(0, .ref (ad 37)), (1, .int v1), (2, .int v2), (3, .int v3), (4, .int v4), (5, .int v5), (6, .int v6), (7, .int v7)] [] := by
  intro n
  induction n with
  | zero => intro v1 v2 v3 v4 v5 v6 v7 σ; exact zx_none
  | succ n ih => intro v1 v2 v3 v4 v5 v6 v7 σ; exact b_X10_cheat_80 C N (lf_X10_cheat_80 N  n) ih v1 v2 v3 v4 v5 v6 v7 σ
def bf_X10_cheat_67 (N : Nat) (σ : zS) : zA := z_b (f_X10_refuse N (-6 : Int32) σ) (fun r_7 t_8 => some (r_7, t_8))
set_option maxHeartbeats 4000000 in
set_option maxRecDepth 100000 in
theorem b_X10_cheat_67 {G : zG} {dC : Nat → ClassId} {dI : Nat → Nat → Nat} {A : Nat → Prop} {ad : Nat → Nat} {cI cC cW : ClassId} (C : zC G dC dI A 48 ad (cfC ad cI cC cW) (z_ty cI cC cW) cX10_cheat RX10 9 3 (some .int)) (N : Nat) (σ : zS) : zW G dC dI A 48 ad (cfC ad cI cC cW) 9 true (bf_X10_cheat_67 N   σ) σ 67 [(0, .ref (ad 37))] [] := by
  unfold bf_X10_cheat_67
  refine zx_aload_n C 0 dX10_cheat_67 rfl rfl ?_
  refine zx_bipush (v := -6) C dX10_cheat_68 (by decide) ?_
  refine zx_callV (As := [.int (-6 : Int32)]) (st := []) C yk_X10_refuse q_268 q_270 q_0 (by decide) rfl rfl (k_X10_refuse C.hO N (-6 : Int32) σ) (by decide) rfl rfl (Nat.le_of_ble_eq_true rfl) dX10_cheat_70 (fun _ r_7 t_8 => ?_) (fun h9 => nomatch h9)
  exact zx_iret C dX10_cheat_73
def bf_X10_cheat_31 (N : Nat) (σ : zS) : zA := z_b (f_X10_refuse N (-4 : Int32) σ) (fun r_9 t_10 => some (r_9, t_10))
set_option maxHeartbeats 4000000 in
set_option maxRecDepth 100000 in
theorem b_X10_cheat_31 {G : zG} {dC : Nat → ClassId} {dI : Nat → Nat → Nat} {A : Nat → Prop} {ad : Nat → Nat} {cI cC cW : ClassId} (C : zC G dC dI A 48 ad (cfC ad cI cC cW) (z_ty cI cC cW) cX10_cheat RX10 9 3 (some .int)) (N : Nat) (σ : zS) : zW G dC dI A 48 ad (cfC ad cI cC cW) 9 true (bf_X10_cheat_31 N   σ) σ 31 [(0, .ref (ad 37))] [] := by
  unfold bf_X10_cheat_31
  refine zx_aload_n C 0 dX10_cheat_31 rfl rfl ?_
  refine zx_bipush (v := -4) C dX10_cheat_32 (by decide) ?_
  refine zx_callV (As := [.int (-4 : Int32)]) (st := []) C yk_X10_refuse q_268 q_270 q_0 (by decide) rfl rfl (k_X10_refuse C.hO N (-4 : Int32) σ) (by decide) rfl rfl (Nat.le_of_ble_eq_true rfl) dX10_cheat_34 (fun _ r_9 t_10 => ?_) (fun h9 => nomatch h9)
  exact zx_iret C dX10_cheat_37
def f_X10_cheat (N : Nat) (v1 : Int32) (v2 : Int32) (v3 : Int32) (v4 : Int32) (v5 : Int32) (σ : zS) : zA := z_b (f_X10_isPerson N v1 σ) (fun r_11 t_12 => (if r_11 = (0 : Int32) then z_b (f_X10_refuse N (-1 : Int32) t_12) (fun r_22 t_23 => some (r_22, t_23)) else (if v2 < (0 : Int32) then (bf_X10_cheat_31 N t_12) else (if v3 < (0 : Int32) then (bf_X10_cheat_31 N t_12) else (if v4 < (0 : Int32) then (bf_X10_cheat_31 N t_12) else (if (0 : Int32) ≤ v5 then (if (9 : Int32) < v2 then (bf_X10_cheat_67 N t_12) else (if (999 : Int32) < v3 then (bf_X10_cheat_67 N t_12) else (if (999 : Int32) < v4 then (bf_X10_cheat_67 N t_12) else (if v5 ≤ (300 : Int32) then (lf_X10_cheat_80 N N v1 v2 v3 v4 v5 (0 : Int32) (0 : Int32) t_12) else (bf_X10_cheat_67 N t_12))))) else (bf_X10_cheat_31 N t_12)))))))
set_option maxHeartbeats 4000000 in
set_option maxRecDepth 100000 in
theorem k_X10_cheat {l : Launch} {dC : Nat → ClassId} {dI : Nat → Nat → Nat} {A : Nat → Prop} {ad : Nat → Nat} {cI cC cW : ClassId} (hO : zO A 48 ad (cfC ad cI cC cW)) (N : Nat) (v1 : Int32) (v2 : Int32) (v3 : Int32) (v4 : Int32) (v5 : Int32) (σ : zS) : zM l dC dI A 48 ad (cfC ad cI cC cW) (z_ty cI cC cW) true yX10_cheat cX10_cheat 9 (some .int) 3 [.ref (ad 37), .int v1, .int v2, .int v3, .int v4, .int v5] σ (f_X10_cheat N v1 v2 v3 v4 v5 σ) := by
  refine zM_of hO (by decide) (Nat.le_of_ble_eq_true rfl) (fun G hG C => ?_)
  subst hG
  unfold f_X10_cheat
  refine zx_sub (L1 := [(0, .ref (ad 37)), (1, .int v1), (2, .int v2), (3, .int v3), (4, .int v4), (5, .int v5)]) [0, 1, 2, 3, 4, 5] rfl ?_
  refine zx_iload_n C 1 dX10_cheat_0 rfl rfl ?_
  refine zx_callS (av := [.int v1]) (st := []) C yk_X10_isPerson q_344 q_335 (k_X10_isPerson C.hO N v1 σ) (by decide) rfl rfl (Nat.le_of_ble_eq_true rfl) dX10_cheat_1 (fun _ r_11 t_12 => ?_) (fun h9 => nomatch h9)
  refine zx_if_ne (tgt := 13) C dX10_cheat_4 (by decide) (fun h_13 => ?_) (fun h_13 => ?_)
  · refine zx_iload_n C 2 dX10_cheat_13 rfl rfl ?_
    refine zx_if_lt (tgt := 31) C dX10_cheat_14 (by decide) (fun h_14 => ?_) (fun h_14 => ?_)
    · exact zx_sub (L1 := [(0, .ref (ad 37))]) [0] rfl (b_X10_cheat_31 C N t_12)
    · refine zx_iload_n C 3 dX10_cheat_17 rfl rfl ?_
      refine zx_if_lt (tgt := 31) C dX10_cheat_18 (by decide) (fun h_15 => ?_) (fun h_15 => ?_)
      · exact zx_sub (L1 := [(0, .ref (ad 37))]) [0] rfl (b_X10_cheat_31 C N t_12)
      · refine zx_iload C 4 dX10_cheat_21 rfl ?_
        refine zx_if_lt (tgt := 31) C dX10_cheat_23 (by decide) (fun h_16 => ?_) (fun h_16 => ?_)
        · exact zx_sub (L1 := [(0, .ref (ad 37))]) [0] rfl (b_X10_cheat_31 C N t_12)
        · refine zx_iload C 5 dX10_cheat_26 rfl ?_
          refine zx_if_ge (tgt := 38) C dX10_cheat_28 (by decide) (fun h_17 => ?_) (fun h_17 => ?_)
          · refine zx_iload_n C 2 dX10_cheat_38 rfl rfl ?_
            refine zx_bipush (v := 9) C dX10_cheat_39 (by decide) ?_
            refine zx_icmp_gt (tgt := 67) C dX10_cheat_41 (by decide) (fun h_18 => ?_) (fun h_18 => ?_)
            · exact zx_sub (L1 := [(0, .ref (ad 37))]) [0] rfl (b_X10_cheat_67 C N t_12)
            · refine zx_iload_n C 3 dX10_cheat_44 rfl rfl ?_
              refine zx_sipush (v := 999) C dX10_cheat_45 (by decide) ?_
              refine zx_icmp_gt (tgt := 67) C dX10_cheat_48 (by decide) (fun h_19 => ?_) (fun h_19 => ?_)
              · exact zx_sub (L1 := [(0, .ref (ad 37))]) [0] rfl (b_X10_cheat_67 C N t_12)
              · refine zx_iload C 4 dX10_cheat_51 rfl ?_
                refine zx_sipush (v := 999) C dX10_cheat_53 (by decide) ?_
                refine zx_icmp_gt (tgt := 67) C dX10_cheat_56 (by decide) (fun h_20 => ?_) (fun h_20 => ?_)
                · exact zx_sub (L1 := [(0, .ref (ad 37))]) [0] rfl (b_X10_cheat_67 C N t_12)
                · refine zx_iload C 5 dX10_cheat_59 rfl ?_
                  refine zx_sipush (v := 300) C dX10_cheat_61 (by decide) ?_
                  refine zx_icmp_le (tgt := 74) C dX10_cheat_64 (by decide) (fun h_21 => ?_) (fun h_21 => ?_)
                  · refine zx_iconst (v := 0) C dX10_cheat_74 (by decide) ?_
                    refine zx_istore (L1 := [(6, .int (0 : Int32)), (0, .ref (ad 37)), (1, .int v1), (2, .int v2), (3, .int v3), (4, .int v4), (5, .int v5)]) C dX10_cheat_75 (by decide) rfl ?_
                    refine zx_iconst (v := 0) C dX10_cheat_77 (by decide) ?_
                    refine zx_istore (L1 := [(7, .int (0 : Int32)), (6, .int (0 : Int32)), (0, .ref (ad 37)), (1, .int v1), (2, .int v2), (3, .int v3), (4, .int v4), (5, .int v5)]) C dX10_cheat_78 (by decide) rfl ?_
                    exact zx_sub (L1 := [(0, .ref (ad 37)), (1, .int v1), (2, .int v2), (3, .int v3), (4, .int v4), (5, .int v5), (6, .int (0 : Int32)), (7, .int (0 : Int32))]) [2, 3, 4, 5, 6, 7, 1, 0] rfl (l_X10_cheat_80 C N N v1 v2 v3 v4 v5 (0 : Int32) (0 : Int32) t_12)
                  · exact zx_sub (L1 := [(0, .ref (ad 37))]) [0] rfl (b_X10_cheat_67 C N t_12)
          · exact zx_sub (L1 := [(0, .ref (ad 37))]) [0] rfl (b_X10_cheat_31 C N t_12)
  · refine zx_aload_n C 0 dX10_cheat_7 rfl rfl ?_
    refine zx_iconst (v := -1) C dX10_cheat_8 (by decide) ?_
    refine zx_callV (As := [.int (-1 : Int32)]) (st := []) C yk_X10_refuse q_268 q_270 q_0 (by decide) rfl rfl (k_X10_refuse C.hO N (-1 : Int32) t_12) (by decide) rfl rfl (Nat.le_of_ble_eq_true rfl) dX10_cheat_9 (fun _ r_22 t_23 => ?_) (fun h9 => nomatch h9)
    exact zx_iret C dX10_cheat_12
def bf_X10_dripped_123 (N : Nat) (rec92 : Int32 → Int32 → Nat → Int32 → Int32 → Int32 → Int32 → Int32 → Int32 → zS → zA) (v3 : Int32) (v4 : Int32) (c5 : Nat) (v6 : Int32) (v7 : Int32) (v8 : Int32) (v9 : Int32) (v10 : Int32) (v11 : Int32) (σ : zS) : zA := z_g (z_in (σ c5 0) 6) (z_b (v_rate N (σ c5 0).toNatClampNeg (σ c5 1) v6 σ) (fun r_2 t_3 => z_n (if v7 < r_2 then v7 else r_2) (fun z_4 => z_g (z_in (t_3 c5 0) 6) (z_b (v_drips N (t_3 c5 0).toNatClampNeg z_4 (t_3 c5 1) v6 t_3) (fun r_6 t_7 => z_n (v8 + r_6) (fun z_8 => z_n (v7 - z_4) (fun z_9 => (rec92 v3 v4 c5 v6 z_9 z_8 v9 v10 (v11 + (1 : Int32)) t_7))))))))
set_option maxHeartbeats 4000000 in
set_option maxRecDepth 100000 in
theorem b_X10_dripped_123 {G : zG} {dC : Nat → ClassId} {dI : Nat → Nat → Nat} {A : Nat → Prop} {ad : Nat → Nat} {cI cC cW : ClassId} (C : zC G dC dI A 48 ad (cfC ad cI cC cW) (z_ty cI cC cW) cX10_dripped RX10 13 3 (some .int)) (N : Nat) (rec92 : Int32 → Int32 → Nat → Int32 → Int32 → Int32 → Int32 → Int32 → Int32 → zS → zA) (hrec92 : ∀ (v3 : Int32) (v4 : Int32) (c5 : Nat) (hc5 : c5 < 18) (v6 : Int32) (v7 : Int32) (v8 : Int32) (v9 : Int32) (v10 : Int32) (v11 : Int32) (σ : zS), zW G dC dI A 48 ad (cfC ad cI cC cW) 13 true (rec92 v3 v4 c5 v6 v7 v8 v9 v10 v11 σ) σ 92 [(0, .ref (ad 37)), (3, .int v3), (4, .int v4), (5, .ref (ad c5)), (6, .int v6), (7, .int v7), (8, .int v8), (9, .int v9), (10, .int v10), (11, .int v11)] []) (v3 : Int32) (v4 : Int32) (c5 : Nat) (hc5 : c5 < 18) (v6 : Int32) (v7 : Int32) (v8 : Int32) (v9 : Int32) (v10 : Int32) (v11 : Int32) (σ : zS) : zW G dC dI A 48 ad (cfC ad cI cC cW) 13 true (bf_X10_dripped_123 N rec92 v3 v4 c5 v6 v7 v8 v9 v10 v11 σ) σ 123 [(0, .ref (ad 37)), (3, .int v3), (4, .int v4), (5, .ref (ad c5)), (6, .int v6), (7, .int v7), (8, .int v8), (9, .int v9), (10, .int v10), (11, .int v11)] [] := by
  unfold bf_X10_dripped_123
  refine zx_aload_n C 0 dX10_dripped_123 rfl rfl ?_
  refine zx_get C 0 (by decide) rfl rfl (by decide) inX10 q_233 rfl rfl dX10_dripped_124 ?_
  refine zx_aload C 3 dX10_dripped_127 rfl ?_
  refine zx_get C 0 (l_cand (c := c5) hc5) (c_cand (c := c5) hc5) rfl (by decide) inX1 q_117 rfl rfl dX10_dripped_129 ?_
  refine zx_aald C 2 (by decide) rfl rfl dX10_dripped_132 (fun h_1 => ?_)
  refine zx_aload C 3 dX10_dripped_133 rfl ?_
  refine zx_get C 1 (l_cand (c := c5) hc5) (c_cand (c := c5) hc5) rfl (by decide) inX1 q_121 rfl rfl dX10_dripped_135 ?_
  refine zx_iload C 4 dX10_dripped_138 rfl ?_
  refine zx_v_rate C N q_574 (wax_lt h_1) (by decide) (Nat.le_of_ble_eq_true rfl) dX10_dripped_140 (fun r_2 t_3 => ?_)
  refine zx_iload C 5 dX10_dripped_143 rfl ?_
  refine zx_min C q_484 q_398 q_49 q_399 (by decide) (Nat.le_of_ble_eq_true rfl) dX10_dripped_145 ?_
  refine zx_n (fun z_4 => ?_)
  refine zx_istore (L1 := [(12, .int z_4), (0, .ref (ad 37)), (3, .int v3), (4, .int v4), (5, .ref (ad c5)), (6, .int v6), (7, .int v7), (8, .int v8), (9, .int v9), (10, .int v10), (11, .int v11)]) C dX10_dripped_148 (by decide) rfl ?_
  refine zx_iload C 7 dX10_dripped_150 rfl ?_
  refine zx_aload_n C 1 dX10_dripped_152 rfl rfl ?_
  refine zx_get C 0 (by decide) rfl rfl (by decide) inX10 q_233 rfl rfl dX10_dripped_153 ?_
  refine zx_aload C 4 dX10_dripped_156 rfl ?_
  refine zx_get C 0 (l_cand (c := c5) hc5) (c_cand (c := c5) hc5) rfl (by decide) inX1 q_117 rfl rfl dX10_dripped_158 ?_
  refine zx_aald C 2 (by decide) rfl rfl dX10_dripped_161 (fun h_5 => ?_)
  refine zx_iload C 0 dX10_dripped_162 rfl ?_
  refine zx_aload C 4 dX10_dripped_164 rfl ?_
  refine zx_get C 1 (l_cand (c := c5) hc5) (c_cand (c := c5) hc5) rfl (by decide) inX1 q_121 rfl rfl dX10_dripped_166 ?_
  refine zx_iload C 5 dX10_dripped_169 rfl ?_
  refine zx_v_drips C N q_610 (wax_lt h_5) (by decide) (Nat.le_of_ble_eq_true rfl) dX10_dripped_171 (fun r_6 t_7 => ?_)
  refine zx_iadd C dX10_dripped_174 ?_
  refine zx_n (fun z_8 => ?_)
  refine zx_istore (L1 := [(8, .int z_8), (12, .int z_4), (0, .ref (ad 37)), (3, .int v3), (4, .int v4), (5, .ref (ad c5)), (6, .int v6), (7, .int v7), (9, .int v9), (10, .int v10), (11, .int v11)]) C dX10_dripped_175 (by decide) rfl ?_
  refine zx_iload C 7 dX10_dripped_177 rfl ?_
  refine zx_iload C 1 dX10_dripped_179 rfl ?_
  refine zx_isub C dX10_dripped_181 ?_
  refine zx_n (fun z_9 => ?_)
  refine zx_istore (L1 := [(7, .int z_9), (8, .int z_8), (12, .int z_4), (0, .ref (ad 37)), (3, .int v3), (4, .int v4), (5, .ref (ad c5)), (6, .int v6), (9, .int v9), (10, .int v10), (11, .int v11)]) C dX10_dripped_182 (by decide) rfl ?_
  refine zx_iinc (v := (v11 + (1 : Int32))) (L1 := [(11, .int (v11 + (1 : Int32))), (7, .int z_9), (8, .int z_8), (12, .int z_4), (0, .ref (ad 37)), (3, .int v3), (4, .int v4), (5, .ref (ad c5)), (6, .int v6), (9, .int v9), (10, .int v10)]) C 10 dX10_dripped_184 rfl rfl (by decide) rfl ?_
  refine zx_goto (tgt := 92) C dX10_dripped_187 (by decide) ?_
  exact zx_sub (L1 := [(0, .ref (ad 37)), (3, .int v3), (4, .int v4), (5, .ref (ad c5)), (6, .int v6), (7, .int z_9), (8, .int z_8), (9, .int v9), (10, .int v10), (11, .int (v11 + (1 : Int32)))]) [4, 5, 6, 7, 8, 1, 2, 9, 10, 0] rfl (hrec92 v3 v4 c5 hc5 v6 z_9 z_8 v9 v10 (v11 + (1 : Int32)) t_7)
def bf_X10_dripped_121 (N : Nat) (rec92 : Int32 → Int32 → Nat → Int32 → Int32 → Int32 → Int32 → Int32 → Int32 → zS → zA) (v3 : Int32) (v4 : Int32) (c5 : Nat) (v6 : Int32) (v7 : Int32) (v8 : Int32) (v9 : Int32) (v11 : Int32) (u0 : Int32) (σ : zS) : zA := (bf_X10_dripped_123 N rec92 v3 v4 c5 v6 v7 v8 v9 u0 v11 σ)
set_option maxHeartbeats 4000000 in
set_option maxRecDepth 100000 in
theorem b_X10_dripped_121 {G : zG} {dC : Nat → ClassId} {dI : Nat → Nat → Nat} {A : Nat → Prop} {ad : Nat → Nat} {cI cC cW : ClassId} (C : zC G dC dI A 48 ad (cfC ad cI cC cW) (z_ty cI cC cW) cX10_dripped RX10 13 3 (some .int)) (N : Nat) (rec92 : Int32 → Int32 → Nat → Int32 → Int32 → Int32 → Int32 → Int32 → Int32 → zS → zA) (hrec92 : ∀ (v3 : Int32) (v4 : Int32) (c5 : Nat) (hc5 : c5 < 18) (v6 : Int32) (v7 : Int32) (v8 : Int32) (v9 : Int32) (v10 : Int32) (v11 : Int32) (σ : zS), zW G dC dI A 48 ad (cfC ad cI cC cW) 13 true (rec92 v3 v4 c5 v6 v7 v8 v9 v10 v11 σ) σ 92 [(0, .ref (ad 37)), (3, .int v3), (4, .int v4), (5, .ref (ad c5)), (6, .int v6), (7, .int v7), (8, .int v8), (9, .int v9), (10, .int v10), (11, .int v11)] []) (v3 : Int32) (v4 : Int32) (c5 : Nat) (hc5 : c5 < 18) (v6 : Int32) (v7 : Int32) (v8 : Int32) (v9 : Int32) (v11 : Int32) (u0 : Int32) (σ : zS) : zW G dC dI A 48 ad (cfC ad cI cC cW) 13 true (bf_X10_dripped_121 N rec92 v3 v4 c5 v6 v7 v8 v9 v11 u0 σ) σ 121 [(0, .ref (ad 37)), (3, .int v3), (4, .int v4), (5, .ref (ad c5)), (6, .int v6), (7, .int v7), (8, .int v8), (9, .int v9), (11, .int v11)] [.int u0] := by
  unfold bf_X10_dripped_121
  refine zx_istore (L1 := [(10, .int u0), (0, .ref (ad 37)), (3, .int v3), (4, .int v4), (5, .ref (ad c5)), (6, .int v6), (7, .int v7), (8, .int v8), (9, .int v9), (11, .int v11)]) C dX10_dripped_121 (by decide) rfl ?_
  exact zx_sub (L1 := [(0, .ref (ad 37)), (3, .int v3), (4, .int v4), (5, .ref (ad c5)), (6, .int v6), (7, .int v7), (8, .int v8), (9, .int v9), (10, .int u0), (11, .int v11)]) [1, 2, 3, 4, 5, 6, 7, 8, 0, 9] rfl (b_X10_dripped_123 C N rec92 hrec92 v3 v4 c5 hc5 v6 v7 v8 v9 u0 v11 σ)
def bf_X10_dripped_92 (N : Nat) (rec92 : Int32 → Int32 → Nat → Int32 → Int32 → Int32 → Int32 → Int32 → Int32 → zS → zA) (v3 : Int32) (v4 : Int32) (c5 : Nat) (v6 : Int32) (v7 : Int32) (v8 : Int32) (v9 : Int32) (v10 : Int32) (v11 : Int32) (σ : zS) : zA := (if (99 : Int32) < v11 then (if v4 = (0 : Int32) then some (v9, σ) else some (v10, σ)) else (if v8 = v3 then (if (v9 + (1 : Int32)) = (1 : Int32) then (bf_X10_dripped_121 N rec92 v3 v4 c5 v6 v7 v8 (v9 + (1 : Int32)) v11 v11 σ) else (bf_X10_dripped_121 N rec92 v3 v4 c5 v6 v7 v8 (v9 + (1 : Int32)) v11 v10 σ)) else (bf_X10_dripped_123 N rec92 v3 v4 c5 v6 v7 v8 v9 v10 v11 σ)))
set_option maxHeartbeats 4000000 in
set_option maxRecDepth 100000 in
theorem b_X10_dripped_92 {G : zG} {dC : Nat → ClassId} {dI : Nat → Nat → Nat} {A : Nat → Prop} {ad : Nat → Nat} {cI cC cW : ClassId} (C : zC G dC dI A 48 ad (cfC ad cI cC cW) (z_ty cI cC cW) cX10_dripped RX10 13 3 (some .int)) (N : Nat) (rec92 : Int32 → Int32 → Nat → Int32 → Int32 → Int32 → Int32 → Int32 → Int32 → zS → zA) (hrec92 : ∀ (v3 : Int32) (v4 : Int32) (c5 : Nat) (hc5 : c5 < 18) (v6 : Int32) (v7 : Int32) (v8 : Int32) (v9 : Int32) (v10 : Int32) (v11 : Int32) (σ : zS), zW G dC dI A 48 ad (cfC ad cI cC cW) 13 true (rec92 v3 v4 c5 v6 v7 v8 v9 v10 v11 σ) σ 92 [(0, .ref (ad 37)), (3, .int v3), (4, .int v4), (5, .ref (ad c5)), (6, .int v6), (7, .int v7), (8, .int v8), (9, .int v9), (10, .int v10), (11, .int v11)] []) (v3 : Int32) (v4 : Int32) (c5 : Nat) (hc5 : c5 < 18) (v6 : Int32) (v7 : Int32) (v8 : Int32) (v9 : Int32) (v10 : Int32) (v11 : Int32) (σ : zS) : zW G dC dI A 48 ad (cfC ad cI cC cW) 13 true (bf_X10_dripped_92 N rec92 v3 v4 c5 v6 v7 v8 v9 v10 v11 σ) σ 92 [(0, .ref (ad 37)), (3, .int v3), (4, .int v4), (5, .ref (ad c5)), (6, .int v6), (7, .int v7), (8, .int v8), (9, .int v9), (10, .int v10), (11, .int v11)] [] := by
  unfold bf_X10_dripped_92
  refine zx_iload C 9 dX10_dripped_92 rfl ?_
  refine zx_bipush (v := 99) C dX10_dripped_94 (by decide) ?_
  refine zx_icmp_gt (tgt := 190) C dX10_dripped_96 (by decide) (fun h_10 => ?_) (fun h_10 => ?_)
  · refine zx_iload C 2 dX10_dripped_190 rfl ?_
    refine zx_if_ne (tgt := 200) C dX10_dripped_192 (by decide) (fun h_11 => ?_) (fun h_11 => ?_)
    · refine zx_iload C 8 dX10_dripped_200 rfl ?_
      exact zx_iret C dX10_dripped_202
    · refine zx_iload C 7 dX10_dripped_195 rfl ?_
      refine zx_goto (tgt := 202) C dX10_dripped_197 (by decide) ?_
      exact zx_iret C dX10_dripped_202
  · refine zx_iload C 6 dX10_dripped_99 rfl ?_
    refine zx_iload_n C 1 dX10_dripped_101 rfl rfl ?_
    refine zx_icmp_ne (tgt := 123) C dX10_dripped_102 (by decide) (fun h_12 => ?_) (fun h_12 => ?_)
    · exact zx_sub (L1 := [(0, .ref (ad 37)), (3, .int v3), (4, .int v4), (5, .ref (ad c5)), (6, .int v6), (7, .int v7), (8, .int v8), (9, .int v9), (10, .int v10), (11, .int v11)]) [0, 1, 2, 3, 4, 5, 6, 7, 8, 9] rfl (b_X10_dripped_123 C N rec92 hrec92 v3 v4 c5 hc5 v6 v7 v8 v9 v10 v11 σ)
    · refine zx_iinc (v := (v9 + (1 : Int32))) (L1 := [(9, .int (v9 + (1 : Int32))), (0, .ref (ad 37)), (3, .int v3), (4, .int v4), (5, .ref (ad c5)), (6, .int v6), (7, .int v7), (8, .int v8), (10, .int v10), (11, .int v11)]) C 7 dX10_dripped_105 rfl rfl (by decide) rfl ?_
      refine zx_iload C 0 dX10_dripped_108 rfl ?_
      refine zx_iconst (v := 1) C dX10_dripped_110 (by decide) ?_
      refine zx_icmp_ne (tgt := 119) C dX10_dripped_111 (by decide) (fun h_13 => ?_) (fun h_13 => ?_)
      · refine zx_iload C 8 dX10_dripped_119 rfl ?_
        exact zx_sub (L1 := [(0, .ref (ad 37)), (3, .int v3), (4, .int v4), (5, .ref (ad c5)), (6, .int v6), (7, .int v7), (8, .int v8), (9, .int (v9 + (1 : Int32))), (11, .int v11)]) [1, 2, 3, 4, 5, 6, 7, 0, 9] rfl (b_X10_dripped_121 C N rec92 hrec92 v3 v4 c5 hc5 v6 v7 v8 (v9 + (1 : Int32)) v11 v10 σ)
      · refine zx_iload C 9 dX10_dripped_114 rfl ?_
        refine zx_goto (tgt := 121) C dX10_dripped_116 (by decide) ?_
        exact zx_sub (L1 := [(0, .ref (ad 37)), (3, .int v3), (4, .int v4), (5, .ref (ad c5)), (6, .int v6), (7, .int v7), (8, .int v8), (9, .int (v9 + (1 : Int32))), (11, .int v11)]) [1, 2, 3, 4, 5, 6, 7, 0, 9] rfl (b_X10_dripped_121 C N rec92 hrec92 v3 v4 c5 hc5 v6 v7 v8 (v9 + (1 : Int32)) v11 v11 σ)
def lf_X10_dripped_92 (N : Nat) : Nat → Int32 → Int32 → Nat → Int32 → Int32 → Int32 → Int32 → Int32 → Int32 → zS → zA
  | 0, _, _, _, _, _, _, _, _, _, _ => none
  | n + 1, v3, v4, c5, v6, v7, v8, v9, v10, v11, σ => bf_X10_dripped_92 N (lf_X10_dripped_92 N  n) v3 v4 c5 v6 v7 v8 v9 v10 v11 σ
theorem l_X10_dripped_92 {G : zG} {dC : Nat → ClassId} {dI : Nat → Nat → Nat} {A : Nat → Prop} {ad : Nat → Nat} {cI cC cW : ClassId} (C : zC G dC dI A 48 ad (cfC ad cI cC cW) (z_ty cI cC cW) cX10_dripped RX10 13 3 (some .int)) (N : Nat) : ∀ (n : Nat) (v3 : Int32) (v4 : Int32) (c5 : Nat) (hc5 : c5 < 18) (v6 : Int32) (v7 : Int32) (v8 : Int32) (v9 : Int32) (v10 : Int32) (v11 : Int32) (σ : zS), zW G dC dI A 48 ad (cfC ad cI cC cW) 13 true (lf_X10_dripped_92 N  n v3 v4 c5 v6 v7 v8 v9 v10 v11 σ) σ 92 [(0, .ref (ad 37)), (3, .int v3), (4, .int v4), (5, .ref (ad c5)), (6, .int v6), (7, .int v7), (8, .int v8), (9, .int v9), (10, .int v10), (11, .int v11)] [] := by
  intro n
  induction n with
  | zero => intro v3 v4 c5 hc5 v6 v7 v8 v9 v10 v11 σ; exact zx_none
  | succ n ih => intro v3 v4 c5 hc5 v6 v7 v8 v9 v10 v11 σ; exact b_X10_dripped_92 C N (lf_X10_dripped_92 N  n) ih v3 v4 c5 hc5 v6 v7 v8 v9 v10 v11 σ
def bf_X10_dripped_39 (N : Nat) (v1 : Int32) (v2 : Int32) (v3 : Int32) (v4 : Int32) (σ : zS) : zA := (if (0 : Int32) ≤ v3 then z_g (z_in v1 6) (z_g (z_in v2 4) (z_n (σ (24 + 0) v2.toNatClampNeg) (fun z_16 => z_n (σ (6 * 0 + v1.toNatClampNeg) 2) (fun z_17 => (lf_X10_dripped_92 N N v3 v4 (6 * 0 + v1.toNatClampNeg) z_16 z_17 (0 : Int32) (0 : Int32) (-9 : Int32) (0 : Int32) σ))))) else z_b (f_X10_refuse N (-4 : Int32) σ) (fun r_18 t_19 => some (r_18, t_19)))
set_option maxHeartbeats 4000000 in
set_option maxRecDepth 100000 in
theorem b_X10_dripped_39 {G : zG} {dC : Nat → ClassId} {dI : Nat → Nat → Nat} {A : Nat → Prop} {ad : Nat → Nat} {cI cC cW : ClassId} (C : zC G dC dI A 48 ad (cfC ad cI cC cW) (z_ty cI cC cW) cX10_dripped RX10 13 3 (some .int)) (N : Nat) (v1 : Int32) (v2 : Int32) (v3 : Int32) (v4 : Int32) (σ : zS) : zW G dC dI A 48 ad (cfC ad cI cC cW) 13 true (bf_X10_dripped_39 N  v1 v2 v3 v4 σ) σ 39 [(0, .ref (ad 37)), (1, .int v1), (2, .int v2), (3, .int v3), (4, .int v4)] [] := by
  unfold bf_X10_dripped_39
  refine zx_iload_n C 3 dX10_dripped_39 rfl rfl ?_
  refine zx_if_ge (tgt := 50) C dX10_dripped_40 (by decide) (fun h_14 => ?_) (fun h_14 => ?_)
  · refine zx_aload_n C 0 dX10_dripped_50 rfl rfl ?_
    refine zx_get C 1 (by decide) rfl rfl (by decide) inX10 q_234 rfl rfl dX10_dripped_51 ?_
    refine zx_get C 1 (l_House (j := 0) (by decide)) (c_house (j := 0) (by decide)) rfl (by decide) inX4 q_153 rfl rfl dX10_dripped_54 ?_
    refine zx_iload_n C 1 dX10_dripped_57 rfl rfl ?_
    refine zx_aald C 1 (l_cands (j := 0) (by decide)) (c_cands (j := 0) (by decide)) rfl dX10_dripped_58 (fun h_15 => ?_)
    refine zx_astore (L1 := [(5, .ref (ad (6 * 0 + v1.toNatClampNeg))), (0, .ref (ad 37)), (1, .int v1), (2, .int v2), (3, .int v3), (4, .int v4)]) C dX10_dripped_59 (by decide) rfl ?_
    refine zx_aload_n C 1 dX10_dripped_61 rfl rfl ?_
    refine zx_get C 1 (by decide) rfl rfl (by decide) inX10 q_234 rfl rfl dX10_dripped_62 ?_
    refine zx_get C 2 (l_House (j := 0) (by decide)) (c_house (j := 0) (by decide)) rfl (by decide) inX4 q_156 rfl rfl dX10_dripped_65 ?_
    refine zx_iload_n C 3 dX10_dripped_68 rfl rfl ?_
    refine zx_iald C 0 (l_dra (j := 0) (by decide)) (c_dra (j := 0) (by decide) _) rfl dX10_dripped_69 ?_
    refine zx_n (fun z_16 => ?_)
    refine zx_istore (L1 := [(6, .int z_16), (5, .ref (ad (6 * 0 + v1.toNatClampNeg))), (0, .ref (ad 37)), (1, .int v1), (2, .int v2), (3, .int v3), (4, .int v4)]) C dX10_dripped_70 (by decide) rfl ?_
    refine zx_aload C 1 dX10_dripped_72 rfl ?_
    refine zx_get C 2 (l_cand (c := (6 * 0 + v1.toNatClampNeg)) (cand_lt h_15 (by decide))) (c_cand (c := (6 * 0 + v1.toNatClampNeg)) (cand_lt h_15 (by decide))) rfl (by decide) inX1 q_125 rfl rfl dX10_dripped_74 ?_
    refine zx_n (fun z_17 => ?_)
    refine zx_istore (L1 := [(7, .int z_17), (6, .int z_16), (5, .ref (ad (6 * 0 + v1.toNatClampNeg))), (0, .ref (ad 37)), (1, .int v1), (2, .int v2), (3, .int v3), (4, .int v4)]) C dX10_dripped_77 (by decide) rfl ?_
    refine zx_iconst (v := 0) C dX10_dripped_79 (by decide) ?_
    refine zx_istore (L1 := [(8, .int (0 : Int32)), (7, .int z_17), (6, .int z_16), (5, .ref (ad (6 * 0 + v1.toNatClampNeg))), (0, .ref (ad 37)), (1, .int v1), (2, .int v2), (3, .int v3), (4, .int v4)]) C dX10_dripped_80 (by decide) rfl ?_
    refine zx_iconst (v := 0) C dX10_dripped_82 (by decide) ?_
    refine zx_istore (L1 := [(9, .int (0 : Int32)), (8, .int (0 : Int32)), (7, .int z_17), (6, .int z_16), (5, .ref (ad (6 * 0 + v1.toNatClampNeg))), (0, .ref (ad 37)), (1, .int v1), (2, .int v2), (3, .int v3), (4, .int v4)]) C dX10_dripped_83 (by decide) rfl ?_
    refine zx_bipush (v := -9) C dX10_dripped_85 (by decide) ?_
    refine zx_istore (L1 := [(10, .int (-9 : Int32)), (9, .int (0 : Int32)), (8, .int (0 : Int32)), (7, .int z_17), (6, .int z_16), (5, .ref (ad (6 * 0 + v1.toNatClampNeg))), (0, .ref (ad 37)), (1, .int v1), (2, .int v2), (3, .int v3), (4, .int v4)]) C dX10_dripped_87 (by decide) rfl ?_
    refine zx_iconst (v := 0) C dX10_dripped_89 (by decide) ?_
    refine zx_istore (L1 := [(11, .int (0 : Int32)), (10, .int (-9 : Int32)), (9, .int (0 : Int32)), (8, .int (0 : Int32)), (7, .int z_17), (6, .int z_16), (5, .ref (ad (6 * 0 + v1.toNatClampNeg))), (0, .ref (ad 37)), (1, .int v1), (2, .int v2), (3, .int v3), (4, .int v4)]) C dX10_dripped_90 (by decide) rfl ?_
    exact zx_sub (L1 := [(0, .ref (ad 37)), (3, .int v3), (4, .int v4), (5, .ref (ad (6 * 0 + v1.toNatClampNeg))), (6, .int z_16), (7, .int z_17), (8, .int (0 : Int32)), (9, .int (0 : Int32)), (10, .int (-9 : Int32)), (11, .int (0 : Int32))]) [7, 10, 11, 6, 5, 4, 3, 2, 1, 0] rfl (l_X10_dripped_92 C N N v3 v4 (6 * 0 + v1.toNatClampNeg) (cand_lt h_15 (by decide)) z_16 z_17 (0 : Int32) (0 : Int32) (-9 : Int32) (0 : Int32) σ)
  · refine zx_aload_n C 0 dX10_dripped_43 rfl rfl ?_
    refine zx_bipush (v := -4) C dX10_dripped_44 (by decide) ?_
    refine zx_callV (As := [.int (-4 : Int32)]) (st := []) C yk_X10_refuse q_268 q_270 q_0 (by decide) rfl rfl (k_X10_refuse C.hO N (-4 : Int32) σ) (by decide) rfl rfl (Nat.le_of_ble_eq_true rfl) dX10_dripped_46 (fun _ r_18 t_19 => ?_) (fun h9 => nomatch h9)
    exact zx_iret C dX10_dripped_49
def bf_X10_dripped_15 (N : Nat) (σ : zS) : zA := z_b (f_X10_refuse N (-1 : Int32) σ) (fun r_20 t_21 => some (r_20, t_21))
set_option maxHeartbeats 4000000 in
set_option maxRecDepth 100000 in
theorem b_X10_dripped_15 {G : zG} {dC : Nat → ClassId} {dI : Nat → Nat → Nat} {A : Nat → Prop} {ad : Nat → Nat} {cI cC cW : ClassId} (C : zC G dC dI A 48 ad (cfC ad cI cC cW) (z_ty cI cC cW) cX10_dripped RX10 13 3 (some .int)) (N : Nat) (σ : zS) : zW G dC dI A 48 ad (cfC ad cI cC cW) 13 true (bf_X10_dripped_15 N   σ) σ 15 [(0, .ref (ad 37))] [] := by
  unfold bf_X10_dripped_15
  refine zx_aload_n C 0 dX10_dripped_15 rfl rfl ?_
  refine zx_iconst (v := -1) C dX10_dripped_16 (by decide) ?_
  refine zx_callV (As := [.int (-1 : Int32)]) (st := []) C yk_X10_refuse q_268 q_270 q_0 (by decide) rfl rfl (k_X10_refuse C.hO N (-1 : Int32) σ) (by decide) rfl rfl (Nat.le_of_ble_eq_true rfl) dX10_dripped_17 (fun _ r_20 t_21 => ?_) (fun h9 => nomatch h9)
  exact zx_iret C dX10_dripped_20
def f_X10_dripped (N : Nat) (v1 : Int32) (v2 : Int32) (v3 : Int32) (v4 : Int32) (σ : zS) : zA := z_b (f_X10_isCandle N v1 σ) (fun r_22 t_23 => (if r_22 = (0 : Int32) then (bf_X10_dripped_15 N t_23) else z_b (f_X10_isPerson N v2 t_23) (fun r_25 t_26 => (if r_25 = (0 : Int32) then (bf_X10_dripped_15 N t_26) else (if v4 = (0 : Int32) then (bf_X10_dripped_39 N v1 v2 v3 v4 t_26) else (if v4 = (1 : Int32) then (bf_X10_dripped_39 N v1 v2 v3 v4 t_26) else z_b (f_X10_refuse N (-2 : Int32) t_26) (fun r_30 t_31 => some (r_30, t_31))))))))
set_option maxHeartbeats 4000000 in
set_option maxRecDepth 100000 in
theorem k_X10_dripped {l : Launch} {dC : Nat → ClassId} {dI : Nat → Nat → Nat} {A : Nat → Prop} {ad : Nat → Nat} {cI cC cW : ClassId} (hO : zO A 48 ad (cfC ad cI cC cW)) (N : Nat) (v1 : Int32) (v2 : Int32) (v3 : Int32) (v4 : Int32) (σ : zS) : zM l dC dI A 48 ad (cfC ad cI cC cW) (z_ty cI cC cW) true yX10_dripped cX10_dripped 13 (some .int) 3 [.ref (ad 37), .int v1, .int v2, .int v3, .int v4] σ (f_X10_dripped N v1 v2 v3 v4 σ) := by
  refine zM_of hO (by decide) (Nat.le_of_ble_eq_true rfl) (fun G hG C => ?_)
  subst hG
  unfold f_X10_dripped
  refine zx_sub (L1 := [(0, .ref (ad 37)), (1, .int v1), (2, .int v2), (3, .int v3), (4, .int v4)]) [0, 1, 2, 3, 4] rfl ?_
  refine zx_aload_n C 0 dX10_dripped_0 rfl rfl ?_
  refine zx_iload_n C 1 dX10_dripped_1 rfl rfl ?_
  refine zx_callV (As := [.int v1]) (st := []) C yk_X10_isCandle q_361 q_363 q_4 (by decide) rfl rfl (k_X10_isCandle C.hO N v1 σ) (by decide) rfl rfl (Nat.le_of_ble_eq_true rfl) dX10_dripped_2 (fun _ r_22 t_23 => ?_) (fun h9 => nomatch h9)
  refine zx_if_eq (tgt := 15) C dX10_dripped_5 (by decide) (fun h_24 => ?_) (fun h_24 => ?_)
  · exact zx_sub (L1 := [(0, .ref (ad 37))]) [0] rfl (b_X10_dripped_15 C N t_23)
  · refine zx_iload_n C 2 dX10_dripped_8 rfl rfl ?_
    refine zx_callS (av := [.int v2]) (st := []) C yk_X10_isPerson q_344 q_335 (k_X10_isPerson C.hO N v2 t_23) (by decide) rfl rfl (Nat.le_of_ble_eq_true rfl) dX10_dripped_9 (fun _ r_25 t_26 => ?_) (fun h9 => nomatch h9)
    refine zx_if_ne (tgt := 21) C dX10_dripped_12 (by decide) (fun h_27 => ?_) (fun h_27 => ?_)
    · refine zx_iload C 4 dX10_dripped_21 rfl ?_
      refine zx_if_eq (tgt := 39) C dX10_dripped_23 (by decide) (fun h_28 => ?_) (fun h_28 => ?_)
      · exact zx_sub (L1 := [(0, .ref (ad 37)), (1, .int v1), (2, .int v2), (3, .int v3), (4, .int v4)]) [0, 1, 2, 3, 4] rfl (b_X10_dripped_39 C N v1 v2 v3 v4 t_26)
      · refine zx_iload C 4 dX10_dripped_26 rfl ?_
        refine zx_iconst (v := 1) C dX10_dripped_28 (by decide) ?_
        refine zx_icmp_eq (tgt := 39) C dX10_dripped_29 (by decide) (fun h_29 => ?_) (fun h_29 => ?_)
        · exact zx_sub (L1 := [(0, .ref (ad 37)), (1, .int v1), (2, .int v2), (3, .int v3), (4, .int v4)]) [0, 1, 2, 3, 4] rfl (b_X10_dripped_39 C N v1 v2 v3 v4 t_26)
        · refine zx_aload_n C 0 dX10_dripped_32 rfl rfl ?_
          refine zx_bipush (v := -2) C dX10_dripped_33 (by decide) ?_
          refine zx_callV (As := [.int (-2 : Int32)]) (st := []) C yk_X10_refuse q_268 q_270 q_0 (by decide) rfl rfl (k_X10_refuse C.hO N (-2 : Int32) t_26) (by decide) rfl rfl (Nat.le_of_ble_eq_true rfl) dX10_dripped_35 (fun _ r_30 t_31 => ?_) (fun h9 => nomatch h9)
          exact zx_iret C dX10_dripped_38
    · exact zx_sub (L1 := [(0, .ref (ad 37))]) [0] rfl (b_X10_dripped_15 C N t_26)
def bf_X10_row_27 (N : Nat) (σ : zS) : zA := z_b (f_X10_refuse N (-6 : Int32) σ) (fun r_1 t_2 => some (r_1, t_2))
set_option maxHeartbeats 4000000 in
set_option maxRecDepth 100000 in
theorem b_X10_row_27 {G : zG} {dC : Nat → ClassId} {dI : Nat → Nat → Nat} {A : Nat → Prop} {ad : Nat → Nat} {cI cC cW : ClassId} (C : zC G dC dI A 48 ad (cfC ad cI cC cW) (z_ty cI cC cW) cX10_row RX10 2 1 (some .int)) (N : Nat) (σ : zS) : zW G dC dI A 48 ad (cfC ad cI cC cW) 2 true (bf_X10_row_27 N   σ) σ 27 [(0, .ref (ad 37))] [] := by
  unfold bf_X10_row_27
  refine zx_aload_n C 0 dX10_row_27 rfl rfl ?_
  refine zx_bipush (v := -6) C dX10_row_28 (by decide) ?_
  refine zx_callV (As := [.int (-6 : Int32)]) (st := []) C yk_X10_refuse q_268 q_270 q_0 (by decide) rfl rfl (k_X10_refuse C.hO N (-6 : Int32) σ) (by decide) rfl rfl (Nat.le_of_ble_eq_true rfl) dX10_row_30 (fun _ r_1 t_2 => ?_) (fun h9 => nomatch h9)
  exact zx_iret C dX10_row_33
def f_X10_row (N : Nat) (v1 : Int32) (σ : zS) : zA := (if (0 : Int32) ≤ v1 then (if (999 : Int32) < v1 then (bf_X10_row_27 N σ) else (if (σ 37 8) < (6 : Int32) then z_g (z_in (σ 37 8) 6) (z_m (z_put σ 46 (σ 37 8).toNatClampNeg v1) (fun t_6 => z_m (z_put t_6 37 8 ((t_6 37 8) + (1 : Int32))) (fun t_7 => some ((t_7 37 8), t_7)))) else (bf_X10_row_27 N σ))) else z_b (f_X10_refuse N (-4 : Int32) σ) (fun r_8 t_9 => some (r_8, t_9)))
set_option maxHeartbeats 4000000 in
set_option maxRecDepth 100000 in
theorem k_X10_row {l : Launch} {dC : Nat → ClassId} {dI : Nat → Nat → Nat} {A : Nat → Prop} {ad : Nat → Nat} {cI cC cW : ClassId} (hO : zO A 48 ad (cfC ad cI cC cW)) (N : Nat) (v1 : Int32) (σ : zS) : zM l dC dI A 48 ad (cfC ad cI cC cW) (z_ty cI cC cW) true yX10_row cX10_row 2 (some .int) 1 [.ref (ad 37), .int v1] σ (f_X10_row N v1 σ) := by
  refine zM_of hO (by decide) (Nat.le_of_ble_eq_true rfl) (fun G hG C => ?_)
  subst hG
  unfold f_X10_row
  refine zx_sub (L1 := [(0, .ref (ad 37)), (1, .int v1)]) [0, 1] rfl ?_
  refine zx_iload_n C 1 dX10_row_0 rfl rfl ?_
  refine zx_if_ge (tgt := 11) C dX10_row_1 (by decide) (fun h_3 => ?_) (fun h_3 => ?_)
  · refine zx_iload_n C 1 dX10_row_11 rfl rfl ?_
    refine zx_sipush (v := 999) C dX10_row_12 (by decide) ?_
    refine zx_icmp_gt (tgt := 27) C dX10_row_15 (by decide) (fun h_4 => ?_) (fun h_4 => ?_)
    · exact zx_sub (L1 := [(0, .ref (ad 37))]) [0] rfl (b_X10_row_27 C N σ)
    · refine zx_aload_n C 0 dX10_row_18 rfl rfl ?_
      refine zx_get C 8 (by decide) rfl rfl (by decide) inX10 q_241 rfl rfl dX10_row_19 ?_
      refine zx_bipush (v := 6) C dX10_row_22 (by decide) ?_
      refine zx_icmp_lt (tgt := 34) C dX10_row_24 (by decide) (fun h_5 => ?_) (fun h_5 => ?_)
      · refine zx_aload_n C 0 dX10_row_34 rfl rfl ?_
        refine zx_get C 7 (by decide) rfl rfl (by decide) inX10 q_240 rfl rfl dX10_row_35 ?_
        refine zx_aload_n C 0 dX10_row_38 rfl rfl ?_
        refine zx_get C 8 (by decide) rfl rfl (by decide) inX10 q_241 rfl rfl dX10_row_39 ?_
        refine zx_iload_n C 1 dX10_row_42 rfl rfl ?_
        refine zx_iast C 0 (by decide) (fun _ => rfl) rfl dX10_row_43 (fun t_6 => ?_)
        refine zx_aload_n C 0 dX10_row_44 rfl rfl ?_
        refine zx_dup C dX10_row_45 rfl ?_
        refine zx_get C 8 (by decide) rfl rfl (by decide) inX10 q_241 rfl rfl dX10_row_46 ?_
        refine zx_iconst (v := 1) C dX10_row_49 (by decide) ?_
        refine zx_iadd C dX10_row_50 ?_
        refine zx_put (ty := .int) C 8 (by decide) rfl rfl (by decide) inX10 tyX10 tyX10_ok nmX10 q_241 rfl rfl (by decide +kernel) rfl rfl (Nat.le_of_ble_eq_true rfl) (by rfl) dX10_row_51 (fun t_7 => ?_)
        refine zx_aload_n C 0 dX10_row_54 rfl rfl ?_
        refine zx_get C 8 (by decide) rfl rfl (by decide) inX10 q_241 rfl rfl dX10_row_55 ?_
        exact zx_iret C dX10_row_58
      · exact zx_sub (L1 := [(0, .ref (ad 37))]) [0] rfl (b_X10_row_27 C N σ)
  · refine zx_aload_n C 0 dX10_row_4 rfl rfl ?_
    refine zx_bipush (v := -4) C dX10_row_5 (by decide) ?_
    refine zx_callV (As := [.int (-4 : Int32)]) (st := []) C yk_X10_refuse q_268 q_270 q_0 (by decide) rfl rfl (k_X10_refuse C.hO N (-4 : Int32) σ) (by decide) rfl rfl (Nat.le_of_ble_eq_true rfl) dX10_row_7 (fun _ r_8 t_9 => ?_) (fun h9 => nomatch h9)
    exact zx_iret C dX10_row_10
def bf_X10_firstWrong_17 (N : Nat) (rec17 : Int32 → Int32 → zS → zA) (v1 : Int32) (v2 : Int32) (σ : zS) : zA := (if v1 ≤ v2 then (if (σ 37 8) = (σ (18 + 0) 4) then some ((-9 : Int32), σ) else some (v1, σ)) else z_g (z_in v2 6) (z_g (z_in v2 6) ((if (σ 46 v2.toNatClampNeg) = (σ (6 * 0 + v2.toNatClampNeg) 2) then (rec17 v1 (v2 + (1 : Int32)) σ) else some (v2, σ)))))
set_option maxHeartbeats 4000000 in
set_option maxRecDepth 100000 in
theorem b_X10_firstWrong_17 {G : zG} {dC : Nat → ClassId} {dI : Nat → Nat → Nat} {A : Nat → Prop} {ad : Nat → Nat} {cI cC cW : ClassId} (C : zC G dC dI A 48 ad (cfC ad cI cC cW) (z_ty cI cC cW) cX10_firstWrong RX10 3 1 (some .int)) (N : Nat) (rec17 : Int32 → Int32 → zS → zA) (hrec17 : ∀ (v1 : Int32) (v2 : Int32) (σ : zS), zW G dC dI A 48 ad (cfC ad cI cC cW) 3 true (rec17 v1 v2 σ) σ 17 [(0, .ref (ad 37)), (1, .int v1), (2, .int v2)] []) (v1 : Int32) (v2 : Int32) (σ : zS) : zW G dC dI A 48 ad (cfC ad cI cC cW) 3 true (bf_X10_firstWrong_17 N rec17 v1 v2 σ) σ 17 [(0, .ref (ad 37)), (1, .int v1), (2, .int v2)] [] := by
  unfold bf_X10_firstWrong_17
  refine zx_iload_n C 2 dX10_firstWrong_17 rfl rfl ?_
  refine zx_iload_n C 1 dX10_firstWrong_18 rfl rfl ?_
  refine zx_icmp_ge (tgt := 51) C dX10_firstWrong_19 (by decide) (fun h_1 => ?_) (fun h_1 => ?_)
  · refine zx_aload_n C 0 dX10_firstWrong_51 rfl rfl ?_
    refine zx_get C 8 (by decide) rfl rfl (by decide) inX10 q_241 rfl rfl dX10_firstWrong_52 ?_
    refine zx_aload_n C 0 dX10_firstWrong_55 rfl rfl ?_
    refine zx_get C 1 (by decide) rfl rfl (by decide) inX10 q_234 rfl rfl dX10_firstWrong_56 ?_
    refine zx_get C 4 (l_House (j := 0) (by decide)) (c_house (j := 0) (by decide)) rfl (by decide) inX4 q_162 rfl rfl dX10_firstWrong_59 ?_
    refine zx_icmp_ne (tgt := 70) C dX10_firstWrong_62 (by decide) (fun h_2 => ?_) (fun h_2 => ?_)
    · refine zx_iload_n C 1 dX10_firstWrong_70 rfl rfl ?_
      exact zx_iret C dX10_firstWrong_71
    · refine zx_bipush (v := -9) C dX10_firstWrong_65 (by decide) ?_
      refine zx_goto (tgt := 71) C dX10_firstWrong_67 (by decide) ?_
      exact zx_iret C dX10_firstWrong_71
  · refine zx_aload_n C 0 dX10_firstWrong_22 rfl rfl ?_
    refine zx_get C 7 (by decide) rfl rfl (by decide) inX10 q_240 rfl rfl dX10_firstWrong_23 ?_
    refine zx_iload_n C 2 dX10_firstWrong_26 rfl rfl ?_
    refine zx_iald C 0 (by decide) rfl rfl dX10_firstWrong_27 ?_
    refine zx_aload_n C 0 dX10_firstWrong_28 rfl rfl ?_
    refine zx_get C 1 (by decide) rfl rfl (by decide) inX10 q_234 rfl rfl dX10_firstWrong_29 ?_
    refine zx_get C 1 (l_House (j := 0) (by decide)) (c_house (j := 0) (by decide)) rfl (by decide) inX4 q_153 rfl rfl dX10_firstWrong_32 ?_
    refine zx_iload_n C 2 dX10_firstWrong_35 rfl rfl ?_
    refine zx_aald C 1 (l_cands (j := 0) (by decide)) (c_cands (j := 0) (by decide)) rfl dX10_firstWrong_36 (fun h_3 => ?_)
    refine zx_get C 2 (l_cand (c := (6 * 0 + v2.toNatClampNeg)) (cand_lt h_3 (by decide))) (c_cand (c := (6 * 0 + v2.toNatClampNeg)) (cand_lt h_3 (by decide))) rfl (by decide) inX1 q_125 rfl rfl dX10_firstWrong_37 ?_
    refine zx_icmp_eq (tgt := 45) C dX10_firstWrong_40 (by decide) (fun h_4 => ?_) (fun h_4 => ?_)
    · refine zx_iinc (v := (v2 + (1 : Int32))) (L1 := [(2, .int (v2 + (1 : Int32))), (0, .ref (ad 37)), (1, .int v1)]) C 2 dX10_firstWrong_45 rfl rfl (by decide) rfl ?_
      refine zx_goto (tgt := 17) C dX10_firstWrong_48 (by decide) ?_
      exact zx_sub (L1 := [(0, .ref (ad 37)), (1, .int v1), (2, .int (v2 + (1 : Int32)))]) [1, 2, 0] rfl (hrec17 v1 (v2 + (1 : Int32)) σ)
    · refine zx_iload_n C 2 dX10_firstWrong_43 rfl rfl ?_
      exact zx_iret C dX10_firstWrong_44
def lf_X10_firstWrong_17 (N : Nat) : Nat → Int32 → Int32 → zS → zA
  | 0, _, _, _ => none
  | n + 1, v1, v2, σ => bf_X10_firstWrong_17 N (lf_X10_firstWrong_17 N  n) v1 v2 σ
theorem l_X10_firstWrong_17 {G : zG} {dC : Nat → ClassId} {dI : Nat → Nat → Nat} {A : Nat → Prop} {ad : Nat → Nat} {cI cC cW : ClassId} (C : zC G dC dI A 48 ad (cfC ad cI cC cW) (z_ty cI cC cW) cX10_firstWrong RX10 3 1 (some .int)) (N : Nat) : ∀ (n : Nat) (v1 : Int32) (v2 : Int32) (σ : zS), zW G dC dI A 48 ad (cfC ad cI cC cW) 3 true (lf_X10_firstWrong_17 N  n v1 v2 σ) σ 17 [(0, .ref (ad 37)), (1, .int v1), (2, .int v2)] [] := by
  intro n
  induction n with
  | zero => intro v1 v2 σ; exact zx_none
  | succ n ih => intro v1 v2 σ; exact b_X10_firstWrong_17 C N (lf_X10_firstWrong_17 N  n) ih v1 v2 σ
def f_X10_firstWrong (N : Nat) (σ : zS) : zA := z_n (if (σ (18 + 0) 4) < (σ 37 8) then (σ (18 + 0) 4) else (σ 37 8)) (fun z_5 => (lf_X10_firstWrong_17 N N z_5 (0 : Int32) σ))
set_option maxHeartbeats 4000000 in
set_option maxRecDepth 100000 in
theorem k_X10_firstWrong {l : Launch} {dC : Nat → ClassId} {dI : Nat → Nat → Nat} {A : Nat → Prop} {ad : Nat → Nat} {cI cC cW : ClassId} (hO : zO A 48 ad (cfC ad cI cC cW)) (N : Nat) (σ : zS) : zM l dC dI A 48 ad (cfC ad cI cC cW) (z_ty cI cC cW) true yX10_firstWrong cX10_firstWrong 3 (some .int) 1 [.ref (ad 37)] σ (f_X10_firstWrong N  σ) := by
  refine zM_of hO (by decide) (Nat.le_of_ble_eq_true rfl) (fun G hG C => ?_)
  subst hG
  unfold f_X10_firstWrong
  refine zx_sub (L1 := [(0, .ref (ad 37))]) [0] rfl ?_
  refine zx_aload_n C 0 dX10_firstWrong_0 rfl rfl ?_
  refine zx_get C 8 (by decide) rfl rfl (by decide) inX10 q_241 rfl rfl dX10_firstWrong_1 ?_
  refine zx_aload_n C 0 dX10_firstWrong_4 rfl rfl ?_
  refine zx_get C 1 (by decide) rfl rfl (by decide) inX10 q_234 rfl rfl dX10_firstWrong_5 ?_
  refine zx_get C 4 (l_House (j := 0) (by decide)) (c_house (j := 0) (by decide)) rfl (by decide) inX4 q_162 rfl rfl dX10_firstWrong_8 ?_
  refine zx_min C q_484 q_398 q_49 q_399 (by decide) (Nat.le_of_ble_eq_true rfl) dX10_firstWrong_11 ?_
  refine zx_n (fun z_5 => ?_)
  refine zx_istore_n (L1 := [(1, .int z_5), (0, .ref (ad 37))]) C dX10_firstWrong_14 rfl (by decide) rfl ?_
  refine zx_iconst (v := 0) C dX10_firstWrong_15 (by decide) ?_
  refine zx_istore_n (L1 := [(2, .int (0 : Int32)), (1, .int z_5), (0, .ref (ad 37))]) C dX10_firstWrong_16 rfl (by decide) rfl ?_
  exact zx_sub (L1 := [(0, .ref (ad 37)), (1, .int z_5), (2, .int (0 : Int32))]) [2, 1, 0] rfl (l_X10_firstWrong_17 C N N z_5 (0 : Int32) σ)
def f_X10_judge (N : Nat) (σ : zS) : zA := z_b (f_X10_firstWrong N σ) (fun r_1 t_2 => z_m (z_put t_2 37 8 (0 : Int32)) (fun t_3 => some (r_1, t_3)))
set_option maxHeartbeats 4000000 in
set_option maxRecDepth 100000 in
theorem k_X10_judge {l : Launch} {dC : Nat → ClassId} {dI : Nat → Nat → Nat} {A : Nat → Prop} {ad : Nat → Nat} {cI cC cW : ClassId} (hO : zO A 48 ad (cfC ad cI cC cW)) (N : Nat) (σ : zS) : zM l dC dI A 48 ad (cfC ad cI cC cW) (z_ty cI cC cW) true yX10_judge cX10_judge 2 (some .int) 2 [.ref (ad 37)] σ (f_X10_judge N  σ) := by
  refine zM_of hO (by decide) (Nat.le_of_ble_eq_true rfl) (fun G hG C => ?_)
  subst hG
  unfold f_X10_judge
  refine zx_sub (L1 := [(0, .ref (ad 37))]) [0] rfl ?_
  refine zx_aload_n C 0 dX10_judge_0 rfl rfl ?_
  refine zx_callV (As := []) (st := []) C yk_X10_firstWrong q_619 q_621 q_9 (by decide) rfl rfl (k_X10_firstWrong C.hO N σ) (by decide) rfl rfl (Nat.le_of_ble_eq_true rfl) dX10_judge_1 (fun _ r_1 t_2 => ?_) (fun h9 => nomatch h9)
  refine zx_istore_n (L1 := [(1, .int r_1), (0, .ref (ad 37))]) C dX10_judge_4 rfl (by decide) rfl ?_
  refine zx_aload_n C 1 dX10_judge_5 rfl rfl ?_
  refine zx_iconst (v := 0) C dX10_judge_6 (by decide) ?_
  refine zx_put (ty := .int) C 8 (by decide) rfl rfl (by decide) inX10 tyX10 tyX10_ok nmX10 q_241 rfl rfl (by decide +kernel) rfl rfl (Nat.le_of_ble_eq_true rfl) (by rfl) dX10_judge_7 (fun t_3 => ?_)
  refine zx_iload_n C 0 dX10_judge_10 rfl rfl ?_
  exact zx_iret C dX10_judge_11
def bf_X10_seeds_110 (N : Nat) (rec52 : Int32 → Int32 → Int32 → zS → zA) (v1 : Int32) (v4 : Int32) (v5 : Int32) (sc0 : Nat) (u1 : Int32) (σ : zS) : zA := z_g (z_bo u1) (z_m (z_put σ sc0 5 u1) (fun t_1 => z_b (f_X4_passMinute N 1 t_1) (fun r_3 t_4 => (rec52 v1 v4 (v5 + (1 : Int32)) t_4))))
set_option maxHeartbeats 4000000 in
set_option maxRecDepth 100000 in
theorem b_X10_seeds_110 {G : zG} {dC : Nat → ClassId} {dI : Nat → Nat → Nat} {A : Nat → Prop} {ad : Nat → Nat} {cI cC cW : ClassId} (C : zC G dC dI A 48 ad (cfC ad cI cC cW) (z_ty cI cC cW) cX10_seeds RX10 7 6 (some .int)) (N : Nat) (rec52 : Int32 → Int32 → Int32 → zS → zA) (hrec52 : ∀ (v1 : Int32) (v4 : Int32) (v5 : Int32) (σ : zS), zW G dC dI A 48 ad (cfC ad cI cC cW) 7 true (rec52 v1 v4 v5 σ) σ 52 [(0, .ref (ad 37)), (1, .int v1), (4, .int v4), (5, .int v5)] []) (v1 : Int32) (v4 : Int32) (v5 : Int32) (sc0 : Nat) (hsc0 : sc0 < 18) (u1 : Int32) (σ : zS) : zW G dC dI A 48 ad (cfC ad cI cC cW) 7 true (bf_X10_seeds_110 N rec52 v1 v4 v5 sc0 u1 σ) σ 110 [(0, .ref (ad 37)), (1, .int v1), (4, .int v4), (5, .int v5)] [.int u1, .ref (ad sc0)] := by
  unfold bf_X10_seeds_110
  refine zx_g (fun h_2 => ?_)
  refine zx_put (ty := .boolean) C 5 (l_cand (c := sc0) hsc0) (c_cand (c := sc0) hsc0) rfl (by decide) inX1 tyX1 tyX1_ok nmX1 q_134 rfl rfl (by decide +kernel) (z_bo_n h_2) (z_bo_f h_2) (Nat.le_of_ble_eq_true rfl) (by rw [c_cand (c := sc0) hsc0, z_put_same]; rfl) dX10_seeds_110 (fun t_1 => ?_)
  refine zx_aload_n C 0 dX10_seeds_113 rfl rfl ?_
  refine zx_get C 2 (by decide) rfl rfl (by decide) inX10 q_235 rfl rfl dX10_seeds_114 ?_
  refine zx_callV (As := []) (st := []) C yk_X4_passMinute q_485 q_486 q_487 (l_House (j := 1) (by decide)) (c_house (j := 1) (by decide)) rfl (k_X4_passMinute C.hO N 1 (by decide) t_1) (by decide) rfl rfl (Nat.le_of_ble_eq_true rfl) dX10_seeds_117 (fun h9 => nomatch h9) (fun _ r_3 t_4 => ?_)
  refine zx_iinc (v := (v5 + (1 : Int32))) (L1 := [(5, .int (v5 + (1 : Int32))), (0, .ref (ad 37)), (1, .int v1), (4, .int v4)]) C 3 dX10_seeds_120 rfl rfl (by decide) rfl ?_
  refine zx_goto (tgt := 52) C dX10_seeds_123 (by decide) ?_
  exact zx_sub (L1 := [(0, .ref (ad 37)), (1, .int v1), (4, .int v4), (5, .int (v5 + (1 : Int32)))]) [1, 2, 3, 0] rfl (hrec52 v1 v4 (v5 + (1 : Int32)) t_4)
def bf_X10_seeds_52 (N : Nat) (rec52 : Int32 → Int32 → Int32 → zS → zA) (v1 : Int32) (v4 : Int32) (v5 : Int32) (σ : zS) : zA := (if v1 ≤ v5 then z_b (f_X4_allGrains N 1 σ) (fun r_6 t_7 => some (r_6, t_7)) else z_n ((v4 * (1103515245 : Int32)) + (12345 : Int32)) (fun z_8 => z_g (z_nz (σ (18 + 0) 4)) (z_g (z_in (((z_8 &&& (2147483647 : Int32)) / (65536 : Int32)) - ((z_8 &&& (2147483647 : Int32)) / (65536 : Int32)) / (σ (18 + 0) 4) * (σ (18 + 0) 4)) 6) ((if (σ (6 * 1 + (((z_8 &&& (2147483647 : Int32)) / (65536 : Int32)) - ((z_8 &&& (2147483647 : Int32)) / (65536 : Int32)) / (σ (18 + 0) 4) * (σ (18 + 0) 4)).toNatClampNeg) 5) = (0 : Int32) then (bf_X10_seeds_110 N rec52 v1 z_8 v5 (6 * 1 + (((z_8 &&& (2147483647 : Int32)) / (65536 : Int32)) - ((z_8 &&& (2147483647 : Int32)) / (65536 : Int32)) / (σ (18 + 0) 4) * (σ (18 + 0) 4)).toNatClampNeg) (1 : Int32) σ) else (bf_X10_seeds_110 N rec52 v1 z_8 v5 (6 * 1 + (((z_8 &&& (2147483647 : Int32)) / (65536 : Int32)) - ((z_8 &&& (2147483647 : Int32)) / (65536 : Int32)) / (σ (18 + 0) 4) * (σ (18 + 0) 4)).toNatClampNeg) (0 : Int32) σ))))))
set_option maxHeartbeats 4000000 in
set_option maxRecDepth 100000 in
theorem b_X10_seeds_52 {G : zG} {dC : Nat → ClassId} {dI : Nat → Nat → Nat} {A : Nat → Prop} {ad : Nat → Nat} {cI cC cW : ClassId} (C : zC G dC dI A 48 ad (cfC ad cI cC cW) (z_ty cI cC cW) cX10_seeds RX10 7 6 (some .int)) (N : Nat) (rec52 : Int32 → Int32 → Int32 → zS → zA) (hrec52 : ∀ (v1 : Int32) (v4 : Int32) (v5 : Int32) (σ : zS), zW G dC dI A 48 ad (cfC ad cI cC cW) 7 true (rec52 v1 v4 v5 σ) σ 52 [(0, .ref (ad 37)), (1, .int v1), (4, .int v4), (5, .int v5)] []) (v1 : Int32) (v4 : Int32) (v5 : Int32) (σ : zS) : zW G dC dI A 48 ad (cfC ad cI cC cW) 7 true (bf_X10_seeds_52 N rec52 v1 v4 v5 σ) σ 52 [(0, .ref (ad 37)), (1, .int v1), (4, .int v4), (5, .int v5)] [] := by
  unfold bf_X10_seeds_52
  refine zx_iload C 3 dX10_seeds_52 rfl ?_
  refine zx_iload_n C 1 dX10_seeds_54 rfl rfl ?_
  refine zx_icmp_ge (tgt := 126) C dX10_seeds_55 (by decide) (fun h_5 => ?_) (fun h_5 => ?_)
  · refine zx_aload_n C 0 dX10_seeds_126 rfl rfl ?_
    refine zx_get C 2 (by decide) rfl rfl (by decide) inX10 q_235 rfl rfl dX10_seeds_127 ?_
    refine zx_callV (As := []) (st := []) C yk_X4_allGrains q_630 q_631 q_632 (l_House (j := 1) (by decide)) (c_house (j := 1) (by decide)) rfl (k_X4_allGrains C.hO N 1 (by decide) σ) (by decide) rfl rfl (Nat.le_of_ble_eq_true rfl) dX10_seeds_130 (fun _ r_6 t_7 => ?_) (fun h9 => nomatch h9)
    exact zx_iret C dX10_seeds_133
  · refine zx_iload C 2 dX10_seeds_58 rfl ?_
    refine zx_ldc (v := 1103515245) C dX10_seeds_60 q_627 ?_
    refine zx_imul C dX10_seeds_62 ?_
    refine zx_sipush (v := 12345) C dX10_seeds_63 (by decide) ?_
    refine zx_iadd C dX10_seeds_66 ?_
    refine zx_n (fun z_8 => ?_)
    refine zx_istore (L1 := [(4, .int z_8), (0, .ref (ad 37)), (1, .int v1), (5, .int v5)]) C dX10_seeds_67 (by decide) rfl ?_
    refine zx_aload_n C 1 dX10_seeds_69 rfl rfl ?_
    refine zx_get C 2 (by decide) rfl rfl (by decide) inX10 q_235 rfl rfl dX10_seeds_70 ?_
    refine zx_get C 1 (l_House (j := 1) (by decide)) (c_house (j := 1) (by decide)) rfl (by decide) inX4 q_153 rfl rfl dX10_seeds_73 ?_
    refine zx_iload C 0 dX10_seeds_76 rfl ?_
    refine zx_ldc (v := 2147483647) C dX10_seeds_78 q_628 ?_
    refine zx_iand C dX10_seeds_80 ?_
    refine zx_ldc (v := 65536) C dX10_seeds_81 q_629 ?_
    refine zx_idiv C dX10_seeds_83 (by decide) ?_
    refine zx_aload_n C 1 dX10_seeds_84 rfl rfl ?_
    refine zx_get C 1 (by decide) rfl rfl (by decide) inX10 q_234 rfl rfl dX10_seeds_85 ?_
    refine zx_get C 4 (l_House (j := 0) (by decide)) (c_house (j := 0) (by decide)) rfl (by decide) inX4 q_162 rfl rfl dX10_seeds_88 ?_
    refine zx_iremg C dX10_seeds_91 ?_
    refine zx_aald C 1 (l_cands (j := 1) (by decide)) (c_cands (j := 1) (by decide)) rfl dX10_seeds_92 (fun h_9 => ?_)
    refine zx_astore (L1 := [(6, .ref (ad (6 * 1 + (((z_8 &&& (2147483647 : Int32)) / (65536 : Int32)) - ((z_8 &&& (2147483647 : Int32)) / (65536 : Int32)) / (σ (18 + 0) 4) * (σ (18 + 0) 4)).toNatClampNeg))), (4, .int z_8), (0, .ref (ad 37)), (1, .int v1), (5, .int v5)]) C dX10_seeds_93 (by decide) rfl ?_
    refine zx_aload C 0 dX10_seeds_95 rfl ?_
    refine zx_aload C 0 dX10_seeds_97 rfl ?_
    refine zx_get C 5 (l_cand (c := (6 * 1 + (((z_8 &&& (2147483647 : Int32)) / (65536 : Int32)) - ((z_8 &&& (2147483647 : Int32)) / (65536 : Int32)) / (σ (18 + 0) 4) * (σ (18 + 0) 4)).toNatClampNeg)) (cand_lt h_9 (by decide))) (c_cand (c := (6 * 1 + (((z_8 &&& (2147483647 : Int32)) / (65536 : Int32)) - ((z_8 &&& (2147483647 : Int32)) / (65536 : Int32)) / (σ (18 + 0) 4) * (σ (18 + 0) 4)).toNatClampNeg)) (cand_lt h_9 (by decide))) rfl (by decide) inX1 q_134 rfl rfl dX10_seeds_99 ?_
    refine zx_if_ne (tgt := 109) C dX10_seeds_102 (by decide) (fun h_10 => ?_) (fun h_10 => ?_)
    · refine zx_iconst (v := 0) C dX10_seeds_109 (by decide) ?_
      exact zx_sub (L1 := [(0, .ref (ad 37)), (1, .int v1), (4, .int z_8), (5, .int v5)]) [2, 3, 1, 4] rfl (b_X10_seeds_110 C N rec52 hrec52 v1 z_8 v5 (6 * 1 + (((z_8 &&& (2147483647 : Int32)) / (65536 : Int32)) - ((z_8 &&& (2147483647 : Int32)) / (65536 : Int32)) / (σ (18 + 0) 4) * (σ (18 + 0) 4)).toNatClampNeg) (cand_lt h_9 (by decide)) (0 : Int32) σ)
    · refine zx_iconst (v := 1) C dX10_seeds_105 (by decide) ?_
      refine zx_goto (tgt := 110) C dX10_seeds_106 (by decide) ?_
      exact zx_sub (L1 := [(0, .ref (ad 37)), (1, .int v1), (4, .int z_8), (5, .int v5)]) [2, 3, 1, 4] rfl (b_X10_seeds_110 C N rec52 hrec52 v1 z_8 v5 (6 * 1 + (((z_8 &&& (2147483647 : Int32)) / (65536 : Int32)) - ((z_8 &&& (2147483647 : Int32)) / (65536 : Int32)) / (σ (18 + 0) 4) * (σ (18 + 0) 4)).toNatClampNeg) (cand_lt h_9 (by decide)) (1 : Int32) σ)
def lf_X10_seeds_52 (N : Nat) : Nat → Int32 → Int32 → Int32 → zS → zA
  | 0, _, _, _, _ => none
  | n + 1, v1, v4, v5, σ => bf_X10_seeds_52 N (lf_X10_seeds_52 N  n) v1 v4 v5 σ
theorem l_X10_seeds_52 {G : zG} {dC : Nat → ClassId} {dI : Nat → Nat → Nat} {A : Nat → Prop} {ad : Nat → Nat} {cI cC cW : ClassId} (C : zC G dC dI A 48 ad (cfC ad cI cC cW) (z_ty cI cC cW) cX10_seeds RX10 7 6 (some .int)) (N : Nat) : ∀ (n : Nat) (v1 : Int32) (v4 : Int32) (v5 : Int32) (σ : zS), zW G dC dI A 48 ad (cfC ad cI cC cW) 7 true (lf_X10_seeds_52 N  n v1 v4 v5 σ) σ 52 [(0, .ref (ad 37)), (1, .int v1), (4, .int v4), (5, .int v5)] [] := by
  intro n
  induction n with
  | zero => intro v1 v4 v5 σ; exact zx_none
  | succ n ih => intro v1 v4 v5 σ; exact b_X10_seeds_52 C N (lf_X10_seeds_52 N  n) ih v1 v4 v5 σ
def f_X10_seeds (N : Nat) (v1 : Int32) (v2 : Int32) (σ : zS) : zA := z_b (f_X10_outside N v1 (1 : Int32) (60 : Int32) σ) (fun r_11 t_12 => (if r_11 = (0 : Int32) then (if (t_12 (18 + 0) 4) = (0 : Int32) then z_b (f_X10_refuse N (-3 : Int32) t_12) (fun r_17 t_18 => some (r_17, t_18)) else z_b (f_X4_become N 1 0 t_12) (fun r_15 t_16 => (lf_X10_seeds_52 N N v1 v2 (0 : Int32) t_16))) else z_b (f_X10_refuse N r_11 t_12) (fun r_19 t_20 => some (r_19, t_20))))
set_option maxHeartbeats 4000000 in
set_option maxRecDepth 100000 in
theorem k_X10_seeds {l : Launch} {dC : Nat → ClassId} {dI : Nat → Nat → Nat} {A : Nat → Prop} {ad : Nat → Nat} {cI cC cW : ClassId} (hO : zO A 48 ad (cfC ad cI cC cW)) (N : Nat) (v1 : Int32) (v2 : Int32) (σ : zS) : zM l dC dI A 48 ad (cfC ad cI cC cW) (z_ty cI cC cW) true yX10_seeds cX10_seeds 7 (some .int) 6 [.ref (ad 37), .int v1, .int v2] σ (f_X10_seeds N v1 v2 σ) := by
  refine zM_of hO (by decide) (Nat.le_of_ble_eq_true rfl) (fun G hG C => ?_)
  subst hG
  unfold f_X10_seeds
  refine zx_sub (L1 := [(0, .ref (ad 37)), (1, .int v1), (2, .int v2)]) [0, 1, 2] rfl ?_
  refine zx_iload_n C 1 dX10_seeds_0 rfl rfl ?_
  refine zx_iconst (v := 1) C dX10_seeds_1 (by decide) ?_
  refine zx_bipush (v := 60) C dX10_seeds_2 (by decide) ?_
  refine zx_callS (av := [.int v1, .int (1 : Int32), .int (60 : Int32)]) (st := []) C yk_X10_outside q_467 q_468 (k_X10_outside C.hO N v1 (1 : Int32) (60 : Int32) σ) (by decide) rfl rfl (Nat.le_of_ble_eq_true rfl) dX10_seeds_4 (fun _ r_11 t_12 => ?_) (fun h9 => nomatch h9)
  refine zx_istore_n (L1 := [(3, .int r_11), (0, .ref (ad 37)), (1, .int v1), (2, .int v2)]) C dX10_seeds_7 rfl (by decide) rfl ?_
  refine zx_iload_n C 0 dX10_seeds_8 rfl rfl ?_
  refine zx_if_eq (tgt := 18) C dX10_seeds_9 (by decide) (fun h_13 => ?_) (fun h_13 => ?_)
  · refine zx_aload_n C 1 dX10_seeds_18 rfl rfl ?_
    refine zx_get C 1 (by decide) rfl rfl (by decide) inX10 q_234 rfl rfl dX10_seeds_19 ?_
    refine zx_get C 4 (l_House (j := 0) (by decide)) (c_house (j := 0) (by decide)) rfl (by decide) inX4 q_162 rfl rfl dX10_seeds_22 ?_
    refine zx_if_ne (tgt := 35) C dX10_seeds_25 (by decide) (fun h_14 => ?_) (fun h_14 => ?_)
    · refine zx_aload_n C 1 dX10_seeds_35 rfl rfl ?_
      refine zx_get C 2 (by decide) rfl rfl (by decide) inX10 q_235 rfl rfl dX10_seeds_36 ?_
      refine zx_aload_n C 1 dX10_seeds_39 rfl rfl ?_
      refine zx_get C 1 (by decide) rfl rfl (by decide) inX10 q_234 rfl rfl dX10_seeds_40 ?_
      refine zx_callV (As := [.ref (ad (18 + 0))]) (st := []) C yk_X4_become q_302 q_303 q_304 (l_House (j := 1) (by decide)) (c_house (j := 1) (by decide)) rfl (k_X4_become C.hO N 1 (by decide) 0 (by decide) t_12) (by decide) rfl rfl (Nat.le_of_ble_eq_true rfl) dX10_seeds_43 (fun h9 => nomatch h9) (fun _ r_15 t_16 => ?_)
      refine zx_iload_n C 3 dX10_seeds_46 rfl rfl ?_
      refine zx_istore (L1 := [(4, .int v2), (3, .int r_11), (0, .ref (ad 37)), (1, .int v1), (2, .int v2)]) C dX10_seeds_47 (by decide) rfl ?_
      refine zx_iconst (v := 0) C dX10_seeds_49 (by decide) ?_
      refine zx_istore (L1 := [(5, .int (0 : Int32)), (4, .int v2), (3, .int r_11), (0, .ref (ad 37)), (1, .int v1), (2, .int v2)]) C dX10_seeds_50 (by decide) rfl ?_
      exact zx_sub (L1 := [(0, .ref (ad 37)), (1, .int v1), (4, .int v2), (5, .int (0 : Int32))]) [3, 4, 1, 0] rfl (l_X10_seeds_52 C N N v1 v2 (0 : Int32) t_16)
    · refine zx_aload_n C 1 dX10_seeds_28 rfl rfl ?_
      refine zx_bipush (v := -3) C dX10_seeds_29 (by decide) ?_
      refine zx_callV (As := [.int (-3 : Int32)]) (st := []) C yk_X10_refuse q_268 q_270 q_0 (by decide) rfl rfl (k_X10_refuse C.hO N (-3 : Int32) t_12) (by decide) rfl rfl (Nat.le_of_ble_eq_true rfl) dX10_seeds_31 (fun _ r_17 t_18 => ?_) (fun h9 => nomatch h9)
      exact zx_iret C dX10_seeds_34
  · refine zx_aload_n C 1 dX10_seeds_12 rfl rfl ?_
    refine zx_iload_n C 0 dX10_seeds_13 rfl rfl ?_
    refine zx_callV (As := [.int r_11]) (st := []) C yk_X10_refuse q_268 q_270 q_0 (by decide) rfl rfl (k_X10_refuse C.hO N r_11 t_12) (by decide) rfl rfl (Nat.le_of_ble_eq_true rfl) dX10_seeds_14 (fun _ r_19 t_20 => ?_) (fun h9 => nomatch h9)
    exact zx_iret C dX10_seeds_17
def f_X10_image (N : Nat) (σ : zS) : zA := z_b (f_X4_become N 2 0 σ) (fun r_1 t_2 => z_m (z_put t_2 37 4 (1 : Int32)) (fun t_3 => some ((t_3 (18 + 0) 5), t_3)))
set_option maxHeartbeats 4000000 in
set_option maxRecDepth 100000 in
theorem k_X10_image {l : Launch} {dC : Nat → ClassId} {dI : Nat → Nat → Nat} {A : Nat → Prop} {ad : Nat → Nat} {cI cC cW : ClassId} (hO : zO A 48 ad (cfC ad cI cC cW)) (N : Nat) (σ : zS) : zM l dC dI A 48 ad (cfC ad cI cC cW) (z_ty cI cC cW) true yX10_image cX10_image 1 (some .int) 2 [.ref (ad 37)] σ (f_X10_image N  σ) := by
  refine zM_of hO (by decide) (Nat.le_of_ble_eq_true rfl) (fun G hG C => ?_)
  subst hG
  unfold f_X10_image
  refine zx_sub (L1 := [(0, .ref (ad 37))]) [0] rfl ?_
  refine zx_aload_n C 0 dX10_image_0 rfl rfl ?_
  refine zx_get C 3 (by decide) rfl rfl (by decide) inX10 q_236 rfl rfl dX10_image_1 ?_
  refine zx_aload_n C 0 dX10_image_4 rfl rfl ?_
  refine zx_get C 1 (by decide) rfl rfl (by decide) inX10 q_234 rfl rfl dX10_image_5 ?_
  refine zx_callV (As := [.ref (ad (18 + 0))]) (st := []) C yk_X4_become q_302 q_303 q_304 (l_House (j := 2) (by decide)) (c_house (j := 2) (by decide)) rfl (k_X4_become C.hO N 2 (by decide) 0 (by decide) σ) (by decide) rfl rfl (Nat.le_of_ble_eq_true rfl) dX10_image_8 (fun h9 => nomatch h9) (fun _ r_1 t_2 => ?_)
  refine zx_aload_n C 0 dX10_image_11 rfl rfl ?_
  refine zx_iconst (v := 1) C dX10_image_12 (by decide) ?_
  refine zx_put (ty := .boolean) C 4 (by decide) rfl rfl (by decide) inX10 tyX10 tyX10_ok nmX10 q_237 rfl rfl (by decide +kernel) (z_bo_n (by decide)) (z_bo_f (by decide)) (Nat.le_of_ble_eq_true rfl) (by rfl) dX10_image_13 (fun t_3 => ?_)
  refine zx_aload_n C 0 dX10_image_16 rfl rfl ?_
  refine zx_get C 1 (by decide) rfl rfl (by decide) inX10 q_234 rfl rfl dX10_image_17 ?_
  refine zx_get C 5 (l_House (j := 0) (by decide)) (c_house (j := 0) (by decide)) rfl (by decide) inX4 q_164 rfl rfl dX10_image_20 ?_
  exact zx_iret C dX10_image_23
def f_X10_restore (N : Nat) (σ : zS) : zA := (if (σ 37 4) = (0 : Int32) then z_b (f_X10_refuse N (-3 : Int32) σ) (fun r_4 t_5 => some (r_4, t_5)) else z_b (f_X4_become N 0 2 σ) (fun r_2 t_3 => some ((t_3 (18 + 0) 5), t_3)))
set_option maxHeartbeats 4000000 in
set_option maxRecDepth 100000 in
theorem k_X10_restore {l : Launch} {dC : Nat → ClassId} {dI : Nat → Nat → Nat} {A : Nat → Prop} {ad : Nat → Nat} {cI cC cW : ClassId} (hO : zO A 48 ad (cfC ad cI cC cW)) (N : Nat) (σ : zS) : zM l dC dI A 48 ad (cfC ad cI cC cW) (z_ty cI cC cW) true yX10_restore cX10_restore 1 (some .int) 2 [.ref (ad 37)] σ (f_X10_restore N  σ) := by
  refine zM_of hO (by decide) (Nat.le_of_ble_eq_true rfl) (fun G hG C => ?_)
  subst hG
  unfold f_X10_restore
  refine zx_sub (L1 := [(0, .ref (ad 37))]) [0] rfl ?_
  refine zx_aload_n C 0 dX10_restore_0 rfl rfl ?_
  refine zx_get C 4 (by decide) rfl rfl (by decide) inX10 q_237 rfl rfl dX10_restore_1 ?_
  refine zx_if_ne (tgt := 14) C dX10_restore_4 (by decide) (fun h_1 => ?_) (fun h_1 => ?_)
  · refine zx_aload_n C 0 dX10_restore_14 rfl rfl ?_
    refine zx_get C 1 (by decide) rfl rfl (by decide) inX10 q_234 rfl rfl dX10_restore_15 ?_
    refine zx_aload_n C 0 dX10_restore_18 rfl rfl ?_
    refine zx_get C 3 (by decide) rfl rfl (by decide) inX10 q_236 rfl rfl dX10_restore_19 ?_
    refine zx_callV (As := [.ref (ad (18 + 2))]) (st := []) C yk_X4_become q_302 q_303 q_304 (l_House (j := 0) (by decide)) (c_house (j := 0) (by decide)) rfl (k_X4_become C.hO N 0 (by decide) 2 (by decide) σ) (by decide) rfl rfl (Nat.le_of_ble_eq_true rfl) dX10_restore_22 (fun h9 => nomatch h9) (fun _ r_2 t_3 => ?_)
    refine zx_aload_n C 0 dX10_restore_25 rfl rfl ?_
    refine zx_get C 1 (by decide) rfl rfl (by decide) inX10 q_234 rfl rfl dX10_restore_26 ?_
    refine zx_get C 5 (l_House (j := 0) (by decide)) (c_house (j := 0) (by decide)) rfl (by decide) inX4 q_164 rfl rfl dX10_restore_29 ?_
    exact zx_iret C dX10_restore_32
  · refine zx_aload_n C 0 dX10_restore_7 rfl rfl ?_
    refine zx_bipush (v := -3) C dX10_restore_8 (by decide) ?_
    refine zx_callV (As := [.int (-3 : Int32)]) (st := []) C yk_X10_refuse q_268 q_270 q_0 (by decide) rfl rfl (k_X10_refuse C.hO N (-3 : Int32) σ) (by decide) rfl rfl (Nat.le_of_ble_eq_true rfl) dX10_restore_10 (fun _ r_4 t_5 => ?_) (fun h9 => nomatch h9)
    exact zx_iret C dX10_restore_13
def bf_X10_count_22 (N : Nat) (v1 : Int32) (σ : zS) : zA := (if v1 = (0 : Int32) then some ((σ (18 + 0) 4), σ) else (if v1 = (1 : Int32) then some ((σ (18 + 0) 5), σ) else (if v1 = (2 : Int32) then z_b (f_X4_allGrains N 0 σ) (fun r_4 t_5 => some (r_4, t_5)) else (if v1 = (3 : Int32) then z_b (f_X4_allDebts N 0 σ) (fun r_7 t_8 => some (r_7, t_8)) else (if v1 = (4 : Int32) then z_b (f_X4_litCandles N 0 σ) (fun r_10 t_11 => some (r_10, t_11)) else (if v1 = (5 : Int32) then some ((σ (18 + 0) 6), σ) else (if v1 = (6 : Int32) then some ((σ (18 + 0) 7), σ) else (if v1 = (7 : Int32) then some ((σ (18 + 0) 8), σ) else (if v1 = (8 : Int32) then some ((σ 38 1), σ) else (if v1 = (9 : Int32) then some ((σ 37 8), σ) else some ((-9 : Int32), σ)))))))))))
set_option maxHeartbeats 4000000 in
set_option maxRecDepth 100000 in
theorem b_X10_count_22 {G : zG} {dC : Nat → ClassId} {dI : Nat → Nat → Nat} {A : Nat → Prop} {ad : Nat → Nat} {cI cC cW : ClassId} (C : zC G dC dI A 48 ad (cfC ad cI cC cW) (z_ty cI cC cW) cX10_count RX10 2 1 (some .int)) (N : Nat) (v1 : Int32) (σ : zS) : zW G dC dI A 48 ad (cfC ad cI cC cW) 2 true (bf_X10_count_22 N  v1 σ) σ 22 [(0, .ref (ad 37)), (1, .int v1)] [] := by
  unfold bf_X10_count_22
  refine zx_iload_n C 1 dX10_count_22 rfl rfl ?_
  refine zx_ite (fun h_1 => ?_) (fun h_1 => ?_)
  · refine zx_tableIn (tgt := 76) C dX10_count_23 (by rw [h_1] <;> decide) (by rw [h_1] <;> decide) (by rw [h_1] <;> rfl) (by decide) ?_
    refine zx_aload_n C 0 dX10_count_76 rfl rfl ?_
    refine zx_get C 1 (by decide) rfl rfl (by decide) inX10 q_234 rfl rfl dX10_count_77 ?_
    refine zx_get C 4 (l_House (j := 0) (by decide)) (c_house (j := 0) (by decide)) rfl (by decide) inX4 q_162 rfl rfl dX10_count_80 ?_
    exact zx_iret C dX10_count_83
  · refine zx_ite (fun h_2 => ?_) (fun h_2 => ?_)
    · refine zx_tableIn (tgt := 84) C dX10_count_23 (by rw [h_2] <;> decide) (by rw [h_2] <;> decide) (by rw [h_2] <;> rfl) (by decide) ?_
      refine zx_aload_n C 0 dX10_count_84 rfl rfl ?_
      refine zx_get C 1 (by decide) rfl rfl (by decide) inX10 q_234 rfl rfl dX10_count_85 ?_
      refine zx_get C 5 (l_House (j := 0) (by decide)) (c_house (j := 0) (by decide)) rfl (by decide) inX4 q_164 rfl rfl dX10_count_88 ?_
      exact zx_iret C dX10_count_91
    · refine zx_ite (fun h_3 => ?_) (fun h_3 => ?_)
      · refine zx_tableIn (tgt := 92) C dX10_count_23 (by rw [h_3] <;> decide) (by rw [h_3] <;> decide) (by rw [h_3] <;> rfl) (by decide) ?_
        refine zx_aload_n C 0 dX10_count_92 rfl rfl ?_
        refine zx_get C 1 (by decide) rfl rfl (by decide) inX10 q_234 rfl rfl dX10_count_93 ?_
        refine zx_callV (As := []) (st := []) C yk_X4_allGrains q_630 q_631 q_632 (l_House (j := 0) (by decide)) (c_house (j := 0) (by decide)) rfl (k_X4_allGrains C.hO N 0 (by decide) σ) (by decide) rfl rfl (Nat.le_of_ble_eq_true rfl) dX10_count_96 (fun _ r_4 t_5 => ?_) (fun h9 => nomatch h9)
        exact zx_iret C dX10_count_99
      · refine zx_ite (fun h_6 => ?_) (fun h_6 => ?_)
        · refine zx_tableIn (tgt := 100) C dX10_count_23 (by rw [h_6] <;> decide) (by rw [h_6] <;> decide) (by rw [h_6] <;> rfl) (by decide) ?_
          refine zx_aload_n C 0 dX10_count_100 rfl rfl ?_
          refine zx_get C 1 (by decide) rfl rfl (by decide) inX10 q_234 rfl rfl dX10_count_101 ?_
          refine zx_callV (As := []) (st := []) C yk_X4_allDebts q_529 q_530 q_531 (l_House (j := 0) (by decide)) (c_house (j := 0) (by decide)) rfl (k_X4_allDebts C.hO N 0 (by decide) σ) (by decide) rfl rfl (Nat.le_of_ble_eq_true rfl) dX10_count_104 (fun _ r_7 t_8 => ?_) (fun h9 => nomatch h9)
          exact zx_iret C dX10_count_107
        · refine zx_ite (fun h_9 => ?_) (fun h_9 => ?_)
          · refine zx_tableIn (tgt := 108) C dX10_count_23 (by rw [h_9] <;> decide) (by rw [h_9] <;> decide) (by rw [h_9] <;> rfl) (by decide) ?_
            refine zx_aload_n C 0 dX10_count_108 rfl rfl ?_
            refine zx_get C 1 (by decide) rfl rfl (by decide) inX10 q_234 rfl rfl dX10_count_109 ?_
            refine zx_callV (As := []) (st := []) C yk_X4_litCandles q_505 q_506 q_507 (l_House (j := 0) (by decide)) (c_house (j := 0) (by decide)) rfl (k_X4_litCandles C.hO N 0 (by decide) σ) (by decide) rfl rfl (Nat.le_of_ble_eq_true rfl) dX10_count_112 (fun _ r_10 t_11 => ?_) (fun h9 => nomatch h9)
            exact zx_iret C dX10_count_115
          · refine zx_ite (fun h_12 => ?_) (fun h_12 => ?_)
            · refine zx_tableIn (tgt := 116) C dX10_count_23 (by rw [h_12] <;> decide) (by rw [h_12] <;> decide) (by rw [h_12] <;> rfl) (by decide) ?_
              refine zx_aload_n C 0 dX10_count_116 rfl rfl ?_
              refine zx_get C 1 (by decide) rfl rfl (by decide) inX10 q_234 rfl rfl dX10_count_117 ?_
              refine zx_get C 6 (l_House (j := 0) (by decide)) (c_house (j := 0) (by decide)) rfl (by decide) inX4 q_166 rfl rfl dX10_count_120 ?_
              exact zx_iret C dX10_count_123
            · refine zx_ite (fun h_13 => ?_) (fun h_13 => ?_)
              · refine zx_tableIn (tgt := 124) C dX10_count_23 (by rw [h_13] <;> decide) (by rw [h_13] <;> decide) (by rw [h_13] <;> rfl) (by decide) ?_
                refine zx_aload_n C 0 dX10_count_124 rfl rfl ?_
                refine zx_get C 1 (by decide) rfl rfl (by decide) inX10 q_234 rfl rfl dX10_count_125 ?_
                refine zx_get C 7 (l_House (j := 0) (by decide)) (c_house (j := 0) (by decide)) rfl (by decide) inX4 q_168 rfl rfl dX10_count_128 ?_
                exact zx_iret C dX10_count_131
              · refine zx_ite (fun h_14 => ?_) (fun h_14 => ?_)
                · refine zx_tableIn (tgt := 132) C dX10_count_23 (by rw [h_14] <;> decide) (by rw [h_14] <;> decide) (by rw [h_14] <;> rfl) (by decide) ?_
                  refine zx_aload_n C 0 dX10_count_132 rfl rfl ?_
                  refine zx_get C 1 (by decide) rfl rfl (by decide) inX10 q_234 rfl rfl dX10_count_133 ?_
                  refine zx_get C 8 (l_House (j := 0) (by decide)) (c_house (j := 0) (by decide)) rfl (by decide) inX4 q_170 rfl rfl dX10_count_136 ?_
                  exact zx_iret C dX10_count_139
                · refine zx_ite (fun h_15 => ?_) (fun h_15 => ?_)
                  · refine zx_tableIn (tgt := 140) C dX10_count_23 (by rw [h_15] <;> decide) (by rw [h_15] <;> decide) (by rw [h_15] <;> rfl) (by decide) ?_
                    refine zx_aload_n C 0 dX10_count_140 rfl rfl ?_
                    refine zx_get C 5 (by decide) rfl rfl (by decide) inX10 q_238 rfl rfl dX10_count_141 ?_
                    refine zx_get C 1 (by decide) rfl rfl (by decide) inX5 q_200 rfl rfl dX10_count_144 ?_
                    exact zx_iret C dX10_count_147
                  · refine zx_ite (fun h_16 => ?_) (fun h_16 => ?_)
                    · refine zx_tableIn (tgt := 148) C dX10_count_23 (by rw [h_16] <;> decide) (by rw [h_16] <;> decide) (by rw [h_16] <;> rfl) (by decide) ?_
                      refine zx_aload_n C 0 dX10_count_148 rfl rfl ?_
                      refine zx_get C 8 (by decide) rfl rfl (by decide) inX10 q_241 rfl rfl dX10_count_149 ?_
                      exact zx_iret C dX10_count_152
                    · refine zx_tableOut (tgt := 153) C dX10_count_23 (z_out (fun c h1 h2 hx => by rcases (show c = 0 ∨ c = 1 ∨ c = 2 ∨ c = 3 ∨ c = 4 ∨ c = 5 ∨ c = 6 ∨ c = 7 ∨ c = 8 ∨ c = 9 by omega) with rfl | rfl | rfl | rfl | rfl | rfl | rfl | rfl | rfl | rfl <;> first | exact h_1 hx | exact h_2 hx | exact h_3 hx | exact h_6 hx | exact h_9 hx | exact h_12 hx | exact h_13 hx | exact h_14 hx | exact h_15 hx | exact h_16 hx)) (by decide) ?_
                      refine zx_bipush (v := -9) C dX10_count_153 (by decide) ?_
                      exact zx_iret C dX10_count_155
def f_X10_count (N : Nat) (v1 : Int32) (σ : zS) : zA := (if v1 < (11 : Int32) then (bf_X10_count_22 N v1 σ) else (if (16 : Int32) < v1 then (bf_X10_count_22 N v1 σ) else z_g (z_in (v1 - (10 : Int32)) 7) (some ((σ 47 (v1 - (10 : Int32)).toNatClampNeg), σ))))
set_option maxHeartbeats 4000000 in
set_option maxRecDepth 100000 in
theorem k_X10_count {l : Launch} {dC : Nat → ClassId} {dI : Nat → Nat → Nat} {A : Nat → Prop} {ad : Nat → Nat} {cI cC cW : ClassId} (hO : zO A 48 ad (cfC ad cI cC cW)) (N : Nat) (v1 : Int32) (σ : zS) : zM l dC dI A 48 ad (cfC ad cI cC cW) (z_ty cI cC cW) true yX10_count cX10_count 2 (some .int) 1 [.ref (ad 37), .int v1] σ (f_X10_count N v1 σ) := by
  refine zM_of hO (by decide) (Nat.le_of_ble_eq_true rfl) (fun G hG C => ?_)
  subst hG
  unfold f_X10_count
  refine zx_sub (L1 := [(0, .ref (ad 37)), (1, .int v1)]) [0, 1] rfl ?_
  refine zx_iload_n C 1 dX10_count_0 rfl rfl ?_
  refine zx_bipush (v := 11) C dX10_count_1 (by decide) ?_
  refine zx_icmp_lt (tgt := 22) C dX10_count_3 (by decide) (fun h_17 => ?_) (fun h_17 => ?_)
  · exact zx_sub (L1 := [(0, .ref (ad 37)), (1, .int v1)]) [0, 1] rfl (b_X10_count_22 C N v1 σ)
  · refine zx_iload_n C 1 dX10_count_6 rfl rfl ?_
    refine zx_bipush (v := 16) C dX10_count_7 (by decide) ?_
    refine zx_icmp_gt (tgt := 22) C dX10_count_9 (by decide) (fun h_18 => ?_) (fun h_18 => ?_)
    · exact zx_sub (L1 := [(0, .ref (ad 37)), (1, .int v1)]) [0, 1] rfl (b_X10_count_22 C N v1 σ)
    · refine zx_aload_n C 0 dX10_count_12 rfl rfl ?_
      refine zx_get C 9 (by decide) rfl rfl (by decide) inX10 q_242 rfl rfl dX10_count_13 ?_
      refine zx_iload_n C 1 dX10_count_16 rfl rfl ?_
      refine zx_bipush (v := 10) C dX10_count_17 (by decide) ?_
      refine zx_isub C dX10_count_19 ?_
      refine zx_iald C 0 (by decide) rfl rfl dX10_count_20 ?_
      exact zx_iret C dX10_count_21
