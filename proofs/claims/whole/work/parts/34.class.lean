/-! The class: what its house's methods do to the value. -/
section HC
variable {σ : zS} {j : Nat} {h : hS} {N : Nat}
theorem rc_c (hR : RC σ j h) {i : Nat} (hi : i < hn h) {k : Nat} (hk : k < 6) : σ (6 * j + i) k = nI (hc h i k) := hR.2.2.2.2.2.1 i hi k hk
theorem rc_d (hR : RC σ j h) {k : Nat} (hk : k < 4) : σ (24 + j) k = nI (hd h k) := hR.2.2.2.2.2.2.1 k hk
theorem rc_b (hR : RC σ j h) {k : Nat} (hk : k < 16) : σ (27 + j) k = nI (hb h k) := hR.2.2.2.2.2.2.2 k hk
theorem e_burnsOf (hR : RC σ j h) (hV : V0 h) {i : Nat} (hi : i < hn h) : f_X4_burnsOf N j (6 * j + i) σ = some (nI (h_b h i), σ) := by
  obtain ⟨-, hV2, hV3, -, -⟩ := hV
  obtain ⟨c0, c1, c2, c3, c4, c5⟩ := hV2 i hi
  have hdd := hV3 _ c4
  unfold f_X4_burnsOf
  rw [rc_c hR hi (by decide : 0 < 6), rc_c hR hi (by decide : 1 < 6), rc_c hR hi (by decide : 4 < 6), z_in_n c0 (by decide), z_in_n c4 (by decide), nI_clamp (by omega), nI_clamp (by omega), rc_d hR c4]
  rw [z_g_t, z_g_t, e_rate N c0 c1 hdd, z_b_some, rc_c hR hi (by decide : 2 < 6)]
  have := rate_pos _ c0 _ c1 _ hdd
  rw [i_min (by omega) (by omega)]
  rfl
theorem e_burnMinute (hR : RC σ j h) (hV : V0 h) (hj : j < 3) {i : Nat} (hi : i < hn h) : ok (f_X4_burnMinute N j (6 * j + i) σ) (fun _ σ' => RC σ' j (burn0 h i) ∧ fC j σ σ') := by
  obtain ⟨b1, b2, b3⟩ := h_b_lt hV hi
  have hdl := h_d_le hV hi
  have hwl := h_w_lt hV hi
  have hol := h_o_lt hV hi
  obtain ⟨hV1, hV2, hV3, hV4, hV5⟩ := id hV
  obtain ⟨c0, c1, c2, c3, c4, c5⟩ := hV2 i hi
  have hdd := hV3 _ c4
  have hbb := hV4 _ hol
  unfold f_X4_burnMinute
  refine ok_be (e_burnsOf hR hV hi) ?_
  rw [rc_c hR hi (by decide : 0 < 6), rc_c hR hi (by decide : 1 < 6), rc_c hR hi (by decide : 4 < 6)]
  refine ok_g (z_in_n c0 (by decide)) (ok_g (z_in_n c4 (by decide)) ?_)
  rw [nI_clamp (by omega), nI_clamp (by omega), rc_d hR c4]
  refine ok_be (e_drips N c0 c1 b1 hdd σ) ?_
  rw [rc_c hR hi (by decide : 3 < 6), rc_c hR hi (by decide : 4 < 6)]
  refine ok_be (show f_X10_pair N (nI (hc h i 3)) (nI (hc h i 4)) σ = some (nI (h_o h i), σ) by unfold f_X10_pair; rw [li4, pk_mul, nI_add, Nat.mul_comm]; rfl) ?_
  rw [rc_c hR hi (by decide : 0 < 6)]
  refine ok_g (z_in_n hol (by decide)) (ok_g (z_in_n c0 (by decide)) ?_)
  rw [nI_clamp (by omega : hc h i 0 < 2 ^ 31), nI_clamp (by omega : h_o h i < 2 ^ 31)]
  rw [show drip (hc h i 0) (hc h i 1) (h_b h i) (hd h (hc h i 4)) = h_d h i from rfl, pk_sub hdl]
  refine ok_be (e_wc N c0 (by omega) σ) ?_
  rw [show wrth (hc h i 0) (h_b h i - h_d h i) = h_w h i from rfl]
  refine ok_n (ok_g (z_in_n hol (by decide)) (ok_g (z_in_n hol (by decide)) (ok_m ?_)))
  rw [rc_b hR hol, i_min (by omega) (by omega), show min (hb h (h_o h i)) (h_w h i) = h_p h i from rfl, pk_sub (by unfold h_p; omega)]
  refine ok_m ?_
  have e1 : z_put σ (27 + j) (h_o h i) (nI (hb h (h_o h i) - h_p h i)) (6 * j + i) = σ (6 * j + i) := z_put_ne _ _ _ (by omega)
  rw [e1, rc_c hR hi (by decide : 2 < 6), pk_sub b2]
  generalize hs1 : z_put σ (27 + j) (h_o h i) (nI (hb h (h_o h i) - h_p h i)) = σ1
  generalize hs2 : z_put σ1 (6 * j + i) 2 (nI (hc h i 2 - h_b h i)) = σ2
  have key : ∀ q : Nat, q < 2 → (q = if 0 < hc h i 2 - h_b h i then 1 else 0) → ok (bf_X4_burnMinute_108 N j (nI (h_b h i)) (nI (h_d h i)) (nI (h_p h i)) (6 * j + i) (nI q) σ2) (fun _ σ' => RC σ' j (burn0 h i) ∧ fC j σ σ') := by
    intro q hq2 hqe
    unfold bf_X4_burnMinute_108
    refine ok_g (z_bo_n2 hq2) (ok_m (ok_m (ok_m (ok_m (ok_ret ?_)))))
    subst hs2 hs1
    obtain ⟨a1, a2, a3, a4, a5, a6, a7, a8⟩ := id hR
    constructor
    · refine ⟨?_, ?_, ?_, ?_, ?_, fun k hk q' hq' => ?_, fun k hk => ?_, fun k hk => ?_⟩
      · simp (disch := omega) only [z_put_ne, z_put_same, pk_un, pk_us]; exact a1
      · simp (disch := omega) only [z_put_ne, z_put_same, pk_un, pk_us]; exact a2
      · simp (disch := omega) only [z_put_ne, z_put_same, pk_un, pk_us]; rw [a3]; rfl
      · simp (disch := omega) only [z_put_ne, z_put_same, pk_un, pk_us]; rw [a4]; rfl
      · simp (disch := omega) only [z_put_ne, z_put_same, pk_un, pk_us]; rw [a5]; rfl
      · have hk' : k < hn h := hk
        show _ = nI (un (hc h) i (h_c h i) k q')
        by_cases hki : k = i
        · subst hki
          rw [un_s]
          simp (disch := omega) only [z_put_ne, z_put_same]
          by_cases q5 : q' = 5
          · subst q5
            rw [pk_us, hqe]
            unfold h_c
            rw [un_s]
          · by_cases q2 : q' = 2
            · subst q2
              rw [pk_un (by decide), pk_us]
              unfold h_c
              rw [un_n _ _ (by decide), un_s]
            · rw [pk_un q5, pk_un q2]
              unfold h_c
              rw [un_n _ _ q5, un_n _ _ q2]
              exact a6 k hk' q' hq'
        · rw [un_n _ _ hki]
          have hne : 6 * j + k ≠ 6 * j + i := by omega
          simp (disch := omega) only [z_put_ne]
          exact a6 k hk' q' hq'
      · simp (disch := omega) only [z_put_ne]; exact a7 k hk
      · show _ = nI (un (hb h) (h_o h i) (hb h (h_o h i) - h_p h i) k)
        simp (disch := omega) only [z_put_ne, z_put_same]
        by_cases e : k = h_o h i
        · subst e; rw [pk_us, un_s]
        · rw [pk_un e, un_n _ _ e]; exact a8 k hk
    · exact ((((((fC.put (by unfold hr; omega)).tr (fC.put (by unfold hr; omega))).tr (fC.put (by unfold hr; omega))).tr (fC.put (by unfold hr; omega))).tr (fC.put (by unfold hr; omega))).tr (fC.put (by unfold hr; omega)))
  have e2 : σ2 (6 * j + i) 2 = nI (hc h i 2 - h_b h i) := by rw [← hs2, z_put_same, pk_us]
  rw [e2]
  refine ok_if (fun hle => ?_) (fun hle => ?_)
  · rw [li0, i_le (by omega) (by omega)] at hle
    exact key 0 (by decide) (by rw [if_neg (by omega)])
  · rw [li0, i_le (by omega) (by omega)] at hle
    exact key 1 (by decide) (by rw [if_pos (by omega)])
theorem e_isBurning (hR : RC σ j h) (hV : V0 h) {i : Nat} (hi : i < hn h) : f_X4_isBurning N (6 * j + i) σ = some (nI (if hc h i 5 = 1 ∧ 0 < hc h i 2 then 1 else 0), σ) := by
  obtain ⟨-, hV2, -⟩ := hV
  obtain ⟨c0, c1, c2, c3, c4, c5⟩ := hV2 i hi
  unfold f_X4_isBurning
  rw [rc_c hR hi (by decide : 5 < 6), rc_c hR hi (by decide : 2 < 6), li0, li1, t_eq (by omega) (by omega), t_le (by omega) (by omega)]
  by_cases h5 : hc h i 5 = 0
  · rw [if_pos h5, if_neg (by omega)]
  · rw [if_neg h5]
    by_cases h2 : hc h i 2 ≤ 0
    · rw [if_pos h2, if_neg (by omega)]
    · rw [if_neg h2, if_pos (by omega)]
theorem e_passMinute (hN : 7 ≤ N) (hR : RC σ j h) (hV : V0 h) (hj : j < 3) : ok (f_X4_passMinute N j σ) (fun _ σ' => RC σ' j (mint h) ∧ fC j σ σ') := by
  unfold f_X4_passMinute
  have h6 := hV.1
  refine cnt_loop (Q := fun o => ok o (fun _ σ' => RC σ' j (mint h) ∧ fC j σ σ')) (F := fun n v s => lf_X4_passMinute_2 N n j v s) (I := fun i s => RC s j (burnN h i) ∧ fC j σ s) (e := hn h) ?_ ?_ N 0 σ (Nat.zero_le _) (by omega) ⟨hR, fC.rf⟩
  · intro n s ⟨r, f⟩
    show ok (bf_X4_passMinute_2 N _ j _ s) _
    unfold bf_X4_passMinute_2
    obtain ⟨a1, a2, a3, a4, a5, a6, a7, a8⟩ := id r
    rw [a1, burnN_n, t_le (by omega) (by omega)]
    refine ok_t (Nat.le_refl _) (ok_m (ok_ret ⟨?_, f.tr (fC.put (by unfold hr; omega))⟩))
    rw [a2, li1, nI_add]
    refine ⟨?_, ?_, ?_, ?_, ?_, fun k hk q hq => ?_, fun k hk => ?_, fun k hk => ?_⟩
    · simp (disch := omega) only [z_put_same, pk_un]; exact a1
    · simp (disch := omega) only [z_put_same, pk_us]; rfl
    · simp (disch := omega) only [z_put_same, pk_un]; exact a3
    · simp (disch := omega) only [z_put_same, pk_un]; exact a4
    · simp (disch := omega) only [z_put_same, pk_un]; exact a5
    · have hk' : k < hn (burnN h (hn h)) := hk
      have := burnN_n h (hn h)
      simp (disch := omega) only [z_put_ne]; exact a6 k hk' q hq
    · simp (disch := omega) only [z_put_ne]; exact a7 k hk
    · simp (disch := omega) only [z_put_ne]; exact a8 k hk
  · intro n i s hi ⟨r, f⟩ ih
    show ok (bf_X4_passMinute_2 N _ j _ s) _
    unfold bf_X4_passMinute_2
    have hVi := burnN_V hV i (by omega)
    have hin : i < hn (burnN h i) := by rw [burnN_n]; exact hi
    rw [r.1, burnN_n, t_le (by omega) (by omega)]
    refine ok_f (by omega) (ok_g (z_in_n (by omega) (by decide)) ?_)
    rw [nI_clamp (by omega)]
    refine ok_be (e_isBurning r hVi hin) ?_
    rw [li1, nI_add]
    by_cases hb : hc (burnN h i) i 5 = 1 ∧ 0 < hc (burnN h i) i 2
    · rw [if_pos hb]
      refine ok_f (by rw [li0, i_eq (by omega) (by omega)]; omega) (ok_g (z_in_n (by omega) (by decide)) ?_)
      refine ok_bm (e_burnMinute r hVi hj hin) (fun _ s' hs' => ih s' ⟨?_, f.tr hs'.2⟩)
      show RC s' j (burn1 (burnN h i) i)
      unfold burn1
      rw [if_pos hb]
      exact hs'.1
    · rw [if_neg hb]
      refine ok_t rfl (ih s ⟨?_, f⟩)
      show RC s j (burn1 (burnN h i) i)
      unfold burn1
      rw [if_neg hb]
      exact r
end HC
