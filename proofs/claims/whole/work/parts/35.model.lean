/-! The reference: what its methods do to the value. -/
def RMr (τ : zS) (h : hS) : Prop := (∀ i, i < hn h → ∀ k, k < 6 → τ (k + 1) i = nI (hc h i k)) ∧ (∀ k, k < 4 → τ 7 k = nI (hd h k)) ∧ ∀ k, k < 16 → τ 8 k = nI (hb h k)
def fM (τ τ' : zS) : Prop := (∀ a, 9 ≤ a → τ' a = τ a) ∧ ∀ k, (k < 9 ∨ 13 < k) → τ' 0 k = τ 0 k
theorem fM.rf {τ : zS} : fM τ τ := ⟨fun _ _ => rfl, fun _ _ => rfl⟩
theorem fM.tr {τ τ1 τ2 : zS} (h1 : fM τ τ1) (h2 : fM τ1 τ2) : fM τ τ2 := ⟨fun a h => (h2.1 a h).trans (h1.1 a h), fun k h => (h2.2 k h).trans (h1.2 k h)⟩
theorem fM.put {τ : zS} {a k : Nat} {v : Int32} (h1 : a < 9) (h0 : 0 < a) : fM τ (z_put τ a k v) := ⟨fun b hb => z_put_ne _ _ _ (by omega), fun q hq => by rw [z_put_ne _ _ _ (by omega)]⟩
theorem fM.put0 {τ : zS} {k : Nat} {v : Int32} (h1 : 9 ≤ k) (h2 : k ≤ 13) : fM τ (z_put τ 0 k v) := ⟨fun b hb => z_put_ne _ _ _ (by omega), fun q hq => by rw [z_put_same, pk_un (by omega)]⟩
section MH
variable {τ : zS} {h : hS} {N : Nat}
theorem RM.r (hR : RM τ h) : RMr τ h := hR.2.2.2.2.2
theorem RMr.put0 (hR : RMr τ h) (k : Nat) (v : Int32) : RMr (z_put τ 0 k v) h := by
  obtain ⟨a1, a2, a3⟩ := hR
  exact ⟨fun i hi q hq => by rw [z_put_ne _ _ _ (by omega)]; exact a1 i hi q hq, fun q hq => by rw [z_put_ne _ _ _ (by omega)]; exact a2 q hq, fun q hq => by rw [z_put_ne _ _ _ (by omega)]; exact a3 q hq⟩
theorem e_least {a b : Nat} (ha : a < 2 ^ 31) (hb : b < 2 ^ 31) : f_X11_least N (nI a) (nI b) τ = some (nI (min a b), τ) := by
  unfold f_X11_least
  rw [t_le hb ha]
  by_cases h : b ≤ a
  · rw [if_pos h, Nat.min_eq_right h]
  · rw [if_neg h, Nat.min_eq_left (by omega)]
theorem e_b109 {g v : Nat} (hg : g < 2 ^ 31) (hv : v < 2 ^ 31) : bf_X11_burns_109 N (nI g) (nI v) τ = some (nI (min v g), τ) := by
  unfold bf_X11_burns_109
  rw [e_least hv hg, z_b_some]
theorem a_m4 : ∀ f, f < 10 → ∀ d, d < 10 → ((2 : Int32) * ((3 : Int32) + nI d / 3) ≤ nI f ↔ 2 * (3 + d / 3) ≤ f) ∧ (2 * (3 + d / 3) > f → (2 : Int32) * ((3 : Int32) + nI d / 3) - nI f = nI (2 * (3 + d / 3) - f)) := by decide +kernel
theorem e_Mburns {k f g d : Nat} (hk : k < 6) (hf : f < 10) (hg : g < 1000) (hd : d < 10) : f_X11_burns N (nI k) (nI f) (nI g) (nI d) τ = some (nI (min (rate k f d) g), τ) := by
  have hr := rate_pos k hk f hf d hd
  unfold f_X11_burns z_n
  dsimp only
  rcases (show k = 0 ∨ k = 1 ∨ k = 2 ∨ k = 3 ∨ k = 4 ∨ k = 5 by omega) with rfl | rfl | rfl | rfl | rfl | rfl
  · rw [if_neg (by decide), if_neg (by decide), if_neg (by decide), if_neg (by decide), if_neg (by decide), a_r0 d hd, e_b109 (by omega) (by omega)]; rfl
  · rw [if_pos (by decide), a_r1 d hd, e_b109 (by omega) (by omega)]; rfl
  · rw [if_neg (by decide), if_pos (by decide), a_r2 d hd, e_b109 (by omega) (by omega)]; rfl
  · rw [if_neg (by decide), if_neg (by decide), if_pos (by decide), a_r3 f hf d hd, e_b109 (by omega) (by omega)]; rfl
  · rw [if_neg (by decide), if_neg (by decide), if_neg (by decide), if_pos (by decide)]
    obtain ⟨m1, m2⟩ := a_m4 f hf d hd
    by_cases hq : 2 * (3 + d / 3) ≤ f
    · rw [if_pos (m1.mpr hq)]
      unfold bf_X11_burns_95
      rw [li1, e_b109 (by omega) (by omega)]
      congr 3
      show min 1 g = min (max 1 (2 * (3 + d / 3) - f)) g
      omega
    · rw [if_neg (fun z => hq (m1.mp z)), m2 (by omega)]
      unfold bf_X11_burns_95
      rw [e_b109 (by omega) (by omega)]
      congr 3
      show min (2 * (3 + d / 3) - f) g = min (max 1 (2 * (3 + d / 3) - f)) g
      omega
  · rw [if_neg (by decide), if_neg (by decide), if_neg (by decide), if_neg (by decide), if_pos (by decide), a_r5 d hd, e_b109 (by omega) (by omega)]; rfl
theorem a_m5 : ∀ f, f < 10 → ∀ b, b < 16 → (nI b / (2 : Int32) ≤ nI f ↔ b / 2 ≤ f) ∧ (b / 2 > f → nI b / (2 : Int32) - nI f = nI (b / 2 - f)) := by decide +kernel
theorem a_m6 : ∀ b, b < 16 → ∀ d, d < 10 → (2 : Int32) * (nI d * nI b / 20) = nI (2 * (d * b / 20)) ∧ 2 * (d * b / 20) < 100 := by decide +kernel
theorem e_Mdrips {k f b d : Nat} (hk : k < 6) (hf : f < 10) (hb : b < 16) (hd : d < 10) : f_X11_drips N (nI k) (nI f) (nI b) (nI d) τ = some (nI (drip k f b d), τ) := by
  unfold f_X11_drips z_n
  dsimp only
  rcases (show k = 0 ∨ k = 1 ∨ k = 2 ∨ k = 3 ∨ k = 4 ∨ k = 5 by omega) with rfl | rfl | rfl | rfl | rfl | rfl
  · rw [if_neg (by decide), if_neg (by decide), if_neg (by decide), if_neg (by decide), if_neg (by decide), a_d0 b hb d hd]; rfl
  · rw [if_pos (by decide)]; rfl
  · rw [if_neg (by decide), if_pos (by decide), a_d2 b hb]; rfl
  · rw [if_neg (by decide), if_neg (by decide), if_pos (by decide)]; rfl
  · rw [if_neg (by decide), if_neg (by decide), if_neg (by decide), if_pos (by decide)]
    obtain ⟨m1, m2⟩ := a_m5 f hf b hb
    by_cases hq : b / 2 ≤ f
    · rw [if_pos (m1.mpr hq)]
      congr 2
      show nI 0 = nI (b / 2 - f)
      congr 1
      omega
    · rw [if_neg (fun z => hq (m1.mp z)), m2 (by omega)]; rfl
  · rw [if_neg (by decide), if_neg (by decide), if_neg (by decide), if_neg (by decide), if_pos (by decide)]
    obtain ⟨m1, m2⟩ := a_m6 b hb d hd
    rw [m1, e_least (by omega) (by omega), z_b_some]; rfl
theorem e_Mcounts {k c : Nat} (hk : k < 6) (hc : c < 16) : f_X11_counts N (nI k) (nI c) τ = some (nI (wrth k c), τ) := by
  unfold f_X11_counts bf_X11_counts_10 bf_X11_counts_26
  rcases (show k = 0 ∨ k = 1 ∨ k = 2 ∨ k = 3 ∨ k = 4 ∨ k = 5 by omega) with rfl | rfl | rfl | rfl | rfl | rfl
  · rw [if_neg (by decide), if_neg (by decide), if_neg (by decide), if_neg (by decide)]; rfl
  · rw [if_pos (by decide), a_w1 c hc]; rfl
  · rw [if_neg (by decide), if_neg (by decide), if_pos (by decide), a_d2 c hc]; rfl
  · rw [if_neg (by decide), if_pos (by decide), a_w1 c hc]; rfl
  · rw [if_neg (by decide), if_neg (by decide), if_neg (by decide), if_pos (by decide), a_d2 c hc]; rfl
  · rw [if_neg (by decide), if_neg (by decide), if_neg (by decide), if_neg (by decide)]; rfl
theorem e_MburnsOf (hR : RMr τ h) (hV : V0 h) {i : Nat} (hi : i < hn h) : f_X11_burnsOf N (nI i) τ = some (nI (h_b h i), τ) := by
  obtain ⟨h6, hV2, hV3, -, -⟩ := hV
  obtain ⟨c0, c1, c2, c3, c4, c5⟩ := hV2 i hi
  obtain ⟨r1, r2, r3⟩ := hR
  unfold f_X11_burnsOf
  rw [z_in_n (show i < 6 by omega) (by decide), z_g_t, z_g_t, z_g_t, z_g_t, nI_clamp (by omega : i < 2 ^ 31), r1 i hi 4 (by decide), r1 i hi 0 (by decide), r1 i hi 1 (by decide), r1 i hi 2 (by decide), z_in_n c4 (by decide), z_g_t, nI_clamp (by omega : hc h i 4 < 2 ^ 31), r2 _ c4, e_Mburns c0 c1 c2 (hV3 _ c4), z_b_some]
  rfl
theorem e_MdripsOf (hR : RMr τ h) (hV : V0 h) {i : Nat} (hi : i < hn h) : f_X11_dripsOf N (nI i) τ = some (nI (h_d h i), τ) := by
  have hb := (h_b_lt hV hi).1
  have e1 := e_MburnsOf (N := N) hR hV hi
  obtain ⟨h6, hV2, hV3, -, -⟩ := hV
  obtain ⟨c0, c1, c2, c3, c4, c5⟩ := hV2 i hi
  obtain ⟨r1, r2, r3⟩ := hR
  unfold f_X11_dripsOf
  rw [z_in_n (show i < 6 by omega) (by decide), z_g_t, z_g_t, e1, z_b_some, z_g_t, nI_clamp (by omega : i < 2 ^ 31), r1 i hi 4 (by decide), r1 i hi 0 (by decide), r1 i hi 1 (by decide), z_in_n c4 (by decide), z_g_t, nI_clamp (by omega : hc h i 4 < 2 ^ 31), r2 _ c4, e_Mdrips c0 c1 hb (hV3 _ c4), z_b_some]
  rfl
theorem e_McountsOf (hR : RMr τ h) (hV : V0 h) {i : Nat} (hi : i < hn h) : f_X11_countsOf N (nI i) τ = some (nI (h_w h i), τ) := by
  have hb := (h_b_lt hV hi).1
  have hd := h_d_le hV hi
  have e1 := e_MburnsOf (N := N) hR hV hi
  have e2 := e_MdripsOf (N := N) hR hV hi
  obtain ⟨h6, hV2, hV3, -, -⟩ := hV
  obtain ⟨c0, c1, c2, c3, c4, c5⟩ := hV2 i hi
  obtain ⟨r1, r2, r3⟩ := hR
  unfold f_X11_countsOf
  rw [z_in_n (show i < 6 by omega) (by decide), z_g_t, e1, z_b_some, e2, z_b_some, nI_clamp (by omega : i < 2 ^ 31), r1 i hi 0 (by decide), pk_sub hd, e_Mcounts c0 (by omega), z_b_some]
  rfl
theorem e_Mpays (hR : RMr τ h) (hV : V0 h) {i : Nat} (hi : i < hn h) : ok (f_X11_pays N (nI i) (nI (h_w h i)) τ) (fun _ τ' => (∀ a, a ≠ 0 → a ≠ 8 → τ' a = τ a) ∧ (∀ k, k ≠ 13 → τ' 0 k = τ 0 k) ∧ τ' 0 13 = τ 0 13 + nI (h_p h i) ∧ ∀ k, k < 16 → τ' 8 k = nI (un (hb h) (h_o h i) (hb h (h_o h i) - h_p h i) k)) := by
  have hwl := h_w_lt hV hi
  have hol := h_o_lt hV hi
  obtain ⟨h6, hV2, hV3, hV4, hV5⟩ := hV
  obtain ⟨c0, c1, c2, c3, c4, c5⟩ := hV2 i hi
  obtain ⟨r1, r2, r3⟩ := hR
  have hbb := hV4 _ hol
  unfold f_X11_pays
  rw [z_in_n (show i < 6 by omega) (by decide), z_g_t, z_g_t, nI_clamp (by omega : i < 2 ^ 31), r1 i hi 4 (by decide), r1 i hi 3 (by decide), t_eq (by omega) (by omega)]
  refine ok_if (fun he => ?_) (fun he => ?_)
  · have e0 : hb h (h_o h i) = 0 := by
      have := hV5 (hc h i 3) c3
      unfold h_o
      rw [he, show 4 * hc h i 3 + hc h i 3 = 5 * hc h i 3 by omega]
      exact this
    have p0 : h_p h i = 0 := by unfold h_p; rw [e0]; omega
    refine ok_ret ⟨fun _ _ _ => rfl, fun _ _ => rfl, by rw [p0]; exact (Int32.add_zero _).symm, fun k hk => ?_⟩
    rw [r3 k hk, p0]
    by_cases e : k = h_o h i
    · subst e; rw [un_s]; rfl
    · rw [un_n _ _ e]
  · rw [z_g_t, z_g_t]
    refine ok_n ?_
    rw [li4, pk_mul, nI_add, show 4 * hc h i 3 + hc h i 4 = h_o h i from rfl, z_in_n hol (by decide), z_g_t, nI_clamp (by omega : h_o h i < 2 ^ 31), r3 _ hol]
    refine ok_be (e_least (by omega) (by omega)) ?_
    rw [z_g_t, z_g_t, Nat.min_comm, show min (hb h (h_o h i)) (h_w h i) = h_p h i from rfl, r3 _ hol, pk_sub (by unfold h_p; omega)]
    refine ok_m (ok_m (ok_ret ⟨fun a h1 h2 => ?_, fun k hk => ?_, ?_, fun k hk => ?_⟩))
    · rw [z_put_ne _ _ _ h1, z_put_ne _ _ _ h2]
    · rw [z_put_same, pk_un hk, z_put_ne _ _ _ (by decide)]
    · rw [z_put_same, pk_us, z_put_ne _ _ _ (by decide)]
    · rw [z_put_ne _ _ _ (by decide), z_put_same]
      by_cases e : k = h_o h i
      · subst e; rw [pk_us, un_s]
      · rw [pk_un e, un_n _ _ e]; exact r3 k hk
theorem e_MgoesMinute (hN : 7 ≤ N) (hR : RM τ h) (hV : V0 h) : ok (f_X11_goesMinute N τ) (fun _ τ' => RM τ' (mint h) ∧ fM τ τ') := by
  unfold f_X11_goesMinute
  have h6 := hV.1
  refine cnt_loop (Q := fun o => ok o (fun _ τ' => RM τ' (mint h) ∧ fM τ τ')) (F := fun n v s => lf_X11_goesMinute_2 N n v s) (I := fun i s => RM s (burnN h i) ∧ fM τ s) (e := hn h) ?_ ?_ N 0 τ (Nat.zero_le _) (by omega) ⟨hR, fM.rf⟩
  · intro n s ⟨r, f⟩
    show ok (bf_X11_goesMinute_2 N _ _ s) _
    unfold bf_X11_goesMinute_2
    obtain ⟨a1, a2, a3, a4, a5, a6, a7, a8⟩ := id r
    rw [a1, burnN_n, t_le (by omega) (by omega)]
    refine ok_t (Nat.le_refl _) (ok_m (ok_ret ⟨?_, f.tr (fM.put0 (by decide) (by decide))⟩))
    rw [a2, li1, nI_add]
    have r2 := (RM.r r).put0 10 (nI (hm (burnN h (hn h)) + 1))
    refine ⟨?_, ?_, ?_, ?_, ?_, r2.1, r2.2.1, r2.2.2⟩
    · rw [z_put_same, pk_un (by decide)]; exact a1
    · rw [z_put_same, pk_us]; rfl
    · rw [z_put_same, pk_un (by decide)]; exact a3
    · rw [z_put_same, pk_un (by decide)]; exact a4
    · rw [z_put_same, pk_un (by decide)]; exact a5
  · intro n i s hi ⟨r, f⟩ ih
    show ok (bf_X11_goesMinute_2 N _ _ s) _
    unfold bf_X11_goesMinute_2
    have hVi := burnN_V hV i (by omega)
    have hin : i < hn (burnN h i) := by rw [burnN_n]; exact hi
    generalize hg : burnN h i = g at r hVi hin
    have hgn : hn g = hn h := by rw [← hg]; exact burnN_n h i
    obtain ⟨v1, v2, v3, v4, v5⟩ := id hVi
    obtain ⟨c0, c1, c2, c3, c4, c5⟩ := v2 i hin
    obtain ⟨b1, b2, b3⟩ := h_b_lt hVi hin
    obtain ⟨a1, a2, a3, a4, a5, a6, a7, a8⟩ := id r
    rw [a1, hgn, t_le (by omega) (by omega)]
    refine ok_f (by omega) ?_
    rw [z_in_n (show i < 6 by omega) (by decide), z_g_t, nI_clamp (by omega : i < 2 ^ 31), a6 i hin 5 (by decide), li0, t_eq (by omega) (by omega), li1, nI_add]
    have hskip : ¬ (hc g i 5 = 1 ∧ 0 < hc g i 2) → ok (lf_X11_goesMinute_2 N n (nI (i + 1)) s) (fun _ τ' => RM τ' (mint h) ∧ fM τ τ') := by
      intro hb
      refine ih s ⟨?_, f⟩
      show RM s (burn1 (burnN h i) i)
      rw [hg]
      unfold burn1
      rw [if_neg hb]
      exact r
    refine ok_if (fun he => hskip (by omega)) (fun he => ?_)
    rw [z_g_t, a6 i hin 2 (by decide), t_eq (by omega) (by omega)]
    refine ok_if (fun he => hskip (by omega)) (fun he2 => ?_)
    have hb : hc g i 5 = 1 ∧ 0 < hc g i 2 := by omega
    refine ok_be (e_MburnsOf (RM.r r) hVi hin) (ok_m ?_)
    rw [a3]
    have r1 := (RM.r r).put0 11 (hu g + nI (h_b g i))
    generalize hs1 : z_put s 0 11 (hu g + nI (h_b g i)) = s1 at r1
    refine ok_be (e_MdripsOf r1 hVi hin) (ok_m ?_)
    have e12 : s1 0 12 = hp g := by rw [← hs1, z_put_same, pk_un (by decide)]; exact a4
    rw [e12]
    have r2 := r1.put0 12 (hp g + nI (h_d g i))
    generalize hs2 : z_put s1 0 12 (hp g + nI (h_d g i)) = s2 at r2
    refine ok_be (e_McountsOf r2 hVi hin) ?_
    refine ok_bm (e_Mpays r2 hVi hin) (fun _ s3 hs3 => ?_)
    obtain ⟨q1, q2, q3, q4⟩ := hs3
    have e3 : s3 3 i = nI (hc g i 2) := by rw [q1 3 (by decide) (by decide)]; exact r2.1 i hin 2 (by decide)
    rw [z_g_t, z_g_t, e3, pk_sub b2]
    refine ok_m ?_
    rw [z_put_same, pk_us, z_g_t, t_eq (by omega) (by omega)]
    have f3 : fM τ s3 := by
      refine f.tr ⟨fun a ha => ?_, fun k hk => ?_⟩
      · rw [q1 a (by omega) (by omega), ← hs2, z_put_ne _ _ _ (by omega), ← hs1, z_put_ne _ _ _ (by omega)]
      · rw [q2 k (by omega), ← hs2, z_put_same, pk_un (by omega), ← hs1, z_put_same, pk_un (by omega)]
    have main : ∀ s5 : zS, (∀ a, a ≠ 3 → a ≠ 6 → s5 a = s3 a) → (∀ k, k ≠ i → s5 3 k = s3 3 k) → (∀ k, k ≠ i → s5 6 k = s3 6 k) → s5 3 i = nI (hc g i 2 - h_b g i) → s5 6 i = nI (if 0 < hc g i 2 - h_b g i then 1 else 0) → ok (lf_X11_goesMinute_2 N n (nI (i + 1)) s5) (fun _ τ' => RM τ' (mint h) ∧ fM τ τ') := by
      intro s5 p1 p2 p3 p4 p5
      refine ih s5 ⟨?_, f3.tr ⟨fun a ha => p1 a (by omega) (by omega), fun k hk => by rw [p1 0 (by decide) (by decide)]⟩⟩
      show RM s5 (burn1 (burnN h i) i)
      rw [hg]
      unfold burn1
      rw [if_pos hb]
      have z0 : s5 0 = s3 0 := p1 0 (by decide) (by decide)
      refine ⟨?_, ?_, ?_, ?_, ?_, fun k hk q hq => ?_, fun k hk => ?_, fun k hk => ?_⟩
      · rw [z0, q2 9 (by decide), ← hs2, z_put_same, pk_un (by decide), ← hs1, z_put_same, pk_un (by decide)]; exact a1
      · rw [z0, q2 10 (by decide), ← hs2, z_put_same, pk_un (by decide), ← hs1, z_put_same, pk_un (by decide)]; exact a2
      · rw [z0, q2 11 (by decide), ← hs2, z_put_same, pk_un (by decide), ← hs1, z_put_same, pk_us]; rfl
      · rw [z0, q2 12 (by decide), ← hs2, z_put_same, pk_us]; rfl
      · rw [z0, q3, ← hs2, z_put_same, pk_un (by decide), ← hs1, z_put_same, pk_un (by decide), a5]; rfl
      · have hk' : k < hn g := hk
        show _ = nI (un (hc g) i (h_c g i) k q)
        have base : s3 (q + 1) k = nI (hc g k q) := by rw [q1 (q + 1) (by omega) (by omega)]; exact r2.1 k hk' q hq
        by_cases hki : k = i
        · subst hki
          rw [un_s]
          unfold h_c
          by_cases q5 : q = 5
          · subst q5; rw [un_s]; exact p5
          · by_cases q2' : q = 2
            · subst q2'; rw [un_n _ _ (by decide), un_s]; exact p4
            · rw [un_n _ _ q5, un_n _ _ q2', p1 (q + 1) (by omega) (by omega)]; exact base
        · rw [un_n _ _ hki]
          by_cases q5 : q = 5
          · subst q5; rw [p3 k hki]; exact base
          · by_cases q2' : q = 2
            · subst q2'; rw [p2 k hki]; exact base
            · rw [p1 (q + 1) (by omega) (by omega)]; exact base
      · rw [p1 7 (by decide) (by decide), q1 7 (by decide) (by decide)]; exact r2.2.1 k hk
      · rw [p1 8 (by decide) (by decide)]; exact q4 k hk
    have e6 : s3 6 i = nI 1 := by rw [q1 6 (by decide) (by decide), r2.1 i hin 5 (by decide), hb.1]
    refine ok_if (fun hz => ?_) (fun hz => ?_)
    · rw [z_g_t]
      refine ok_m (main _ (fun a h3 h6' => ?_) (fun k hk => ?_) (fun k hk => ?_) ?_ ?_)
      · rw [z_put_ne _ _ _ h6', z_put_ne _ _ _ h3]
      · rw [z_put_ne _ _ _ (by decide), z_put_same, pk_un hk]
      · rw [z_put_same, pk_un hk, z_put_ne _ _ _ (by decide)]
      · rw [z_put_ne _ _ _ (by decide), z_put_same, pk_us]
      · rw [z_put_same, pk_us, if_neg (by omega)]
    · refine main _ (fun a h3 _ => ?_) (fun k hk => ?_) (fun k _ => ?_) ?_ ?_
      · rw [z_put_ne _ _ _ h3]
      · rw [z_put_same, pk_un hk]
      · rw [z_put_ne _ _ _ (by decide)]
      · rw [z_put_same, pk_us]
      · rw [z_put_ne _ _ _ (by decide), if_pos (by omega)]; exact e6
theorem e_MgoesMinutes (hN : 2000 ≤ N) (hR : RM τ h) (hV : V0 h) {m : Nat} (hm1 : m ≤ 1000) : ok (f_X11_goesMinutes N (nI m) τ) (fun _ τ' => RM τ' (mins h m) ∧ fM τ τ') := by
  unfold f_X11_goesMinutes
  refine cnt_loop (Q := fun o => ok o (fun _ τ' => RM τ' (mins h m) ∧ fM τ τ')) (F := fun n v s => lf_X11_goesMinutes_2 N n (nI m) v s) (I := fun i s => RM s (mins h i) ∧ fM τ s) (e := m) ?_ ?_ N 0 τ (Nat.zero_le _) (by omega) ⟨hR, fM.rf⟩
  · intro n s hs
    show ok (bf_X11_goesMinutes_2 N _ _ _ s) _
    unfold bf_X11_goesMinutes_2
    rw [t_le (by omega) (by omega)]
    exact ok_t (Nat.le_refl _) (ok_ret hs)
  · intro n i s hi ⟨r, f⟩ ih
    show ok (bf_X11_goesMinutes_2 N _ _ _ s) _
    unfold bf_X11_goesMinutes_2
    rw [t_le (by omega) (by omega)]
    refine ok_f (by omega) (ok_bm (e_MgoesMinute (by omega) r (mins_V hV i)) (fun _ s' hs' => ?_))
    rw [li1, nI_add]
    exact ih s' ⟨hs'.1, f.tr hs'.2⟩
end MH
