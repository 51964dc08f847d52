/-! The image, the counts, minutes that go by, what is behind so many. -/
section S3
variable {σ τ : zS} {N : Nat}
theorem burn1_V1 {h : hS} {i : Nat} (hV : V1 h) : V1 (burn1 h i) := by
  unfold burn1
  split
  · intro k hk
    show un (hc h) i (h_c h i) k 5 = 1 → 0 < un (hc h) i (h_c h i) k 2
    by_cases e : k = i
    · subst e
      rw [un_s]
      unfold h_c
      rw [un_s, un_n _ _ (by decide), un_s]
      split
      · intro _; assumption
      · intro h; omega
    · rw [un_n _ _ e]; exact hV k hk
  · exact hV
theorem burnN_V1 {h : hS} (hV : V1 h) (i : Nat) : V1 (burnN h i) := by
  induction i with
  | zero => exact hV
  | succ i ih => exact burn1_V1 ih
theorem mint_V1 {h : hS} (hV : V1 h) : V1 (mint h) := burnN_V1 hV _
theorem mins_V1 {h : hS} (hV : V1 h) (n : Nat) : V1 (mins h n) := by
  induction n with
  | zero => exact hV
  | succ n ih => exact mint_V1 ih
theorem burn1_m (h : hS) (i : Nat) : hm (burn1 h i) = hm h := by
  unfold burn1
  split <;> rfl
theorem burnN_m (h : hS) (i : Nat) : hm (burnN h i) = hm h := by
  induction i with
  | zero => rfl
  | succ i ih => exact (burn1_m _ _).trans ih
theorem mins_m (h : hS) (n : Nat) : hm (mins h n) = hm h + n := by
  induction n with
  | zero => rfl
  | succ n ih =>
    show hm (burnN (mins h n) _) + 1 = _
    rw [burnN_m, ih]
    omega
theorem St.ite {c : Prop} {d1 d2 : Decidable c} {a b a' b' : zA} (h1 : c → St a a') (h2 : ¬ c → St b b') : St (@ite _ c d1 a b) (@ite _ c d2 a' b') := by
  by_cases h : c
  · rw [if_pos h, if_pos h]; exact h1 h
  · rw [if_neg h, if_neg h]; exact h2 h
theorem st_image (hN : 20 ≤ N) (hI : zInv σ τ) : St (f_X10_image N σ) (f_X11_image N τ) := by
  obtain ⟨⟨h, hH⟩, hK, hL, hR, hF⟩ := id hI
  obtain ⟨hC, hM, v0, v1, v2⟩ := id hH
  have h6 := v0.1
  unfold f_X10_image f_X11_image
  have hM1 : RM (z_put τ 0 22 1) h := by
    obtain ⟨b1, b2, b3, b4, b5, b6, b7, b8⟩ := hM
    refine ⟨?_, ?_, ?_, ?_, ?_, fun i hi k hk => ?_, fun k hk => ?_, fun k hk => ?_⟩
    · rw [z_put_same, pk_un (by decide)]; exact b1
    · rw [z_put_same, pk_un (by decide)]; exact b2
    · rw [z_put_same, pk_un (by decide)]; exact b3
    · rw [z_put_same, pk_un (by decide)]; exact b4
    · rw [z_put_same, pk_un (by decide)]; exact b5
    · rw [z_put_ne _ _ _ (by omega)]; exact b6 i hi k hk
    · rw [z_put_ne _ _ _ (by omega)]; exact b7 k hk
    · rw [z_put_ne _ _ _ (by omega)]; exact b8 k hk
  refine St.of (ok_bm (e_become (j := 2) (j1 := 0) (by omega) (by decide) (by decide) (by decide) hC v0) (fun _ s hs => ok_m (ok_ret (ok_m (ok_bm (e_keep hN (w := 0) (by decide) hM1 h6) (fun _ t ht => ok_ret ?_))))))
  obtain ⟨k1, fc⟩ := hs
  obtain ⟨rk, rm, t1, t2, t3⟩ := ht
  have hC' : RC s 0 h := hC.other h6 (by decide) (by decide) (by decide) fc
  have es : ∀ a, a ≠ 37 → z_put s 37 4 1 a = s a := fun a ha => z_put_ne _ _ _ ha
  have fc' : ∀ a, 36 ≤ a → s a = σ a := fun a ha => fc a (by unfold hr; omega)
  refine ⟨?_, ⟨⟨h, hC'.frame h6 (fun a ha => es a (by unfold hr at ha; omega)), rm, v0, v1, v2⟩, Or.inr ⟨by rw [z_put_same, pk_us], by rw [t2 22 (by decide) (by decide), z_put_same, pk_us], h, k1.frame h6 (fun a ha => es a (by unfold hr at ha; omega)), rk, v0, v1, v2⟩, ?_, ?_, fun k hk => ?_⟩⟩
  · rw [es 18 (by decide), hC'.2.1]; exact rm.2.1
  · obtain ⟨m, m1, m2, m3, m4⟩ := hL
    refine ⟨m, m1, ?_, ?_, fun k hk => ?_⟩
    · rw [es 38 (by decide), fc' 38 (by decide)]; exact m2
    · rw [t2 18 (by decide) (by decide), z_put_same, pk_un (by decide)]; exact m3
    · rw [es 39 (by decide), fc' 39 (by decide), t1 10 (by decide) (by decide), z_put_ne _ _ _ (by decide)]; exact m4 k hk
  · obtain ⟨m, m1, m2, m3, m4⟩ := hR
    refine ⟨m, m1, ?_, ?_, fun k hk => ?_⟩
    · rw [z_put_same, pk_un (by decide), fc' 37 (by decide)]; exact m2
    · rw [t2 28 (by decide) (by decide), z_put_same, pk_un (by decide)]; exact m3
    · rw [es 46 (by decide), fc' 46 (by decide), t1 15 (by decide) (by decide), z_put_ne _ _ _ (by decide)]; exact m4 k hk
  · rw [es 47 (by decide), fc' 47 (by decide), t1 9 (by decide) (by decide), z_put_ne _ _ _ (by decide)]; exact hF k hk
theorem st_restore (hN : 20 ≤ N) (hI : zInv σ τ) : St (f_X10_restore N σ) (f_X11_restore N τ) := by
  obtain ⟨⟨h, hH⟩, hQ⟩ := id hI
  obtain ⟨hK, hL, hR, hF⟩ := id hQ
  unfold f_X10_restore f_X11_restore
  simp only [z_b_id]
  rcases hK with ⟨a, b⟩ | ⟨a, b, k, r1, r2, w0, w1, w2⟩
  · rw [a, b, if_pos p00, if_pos p00]; exact St_r3 hI
  · rw [a, b, if_neg n10, if_neg n10]
    refine St.of (ok_bm (e_become (j := 0) (j1 := 2) (by omega) (by decide) (by decide) (by decide) r1 w0) (fun _ s hs => ok_ret (ok_bm (e_back hN (w := 0) (by decide) r2 w0.1) (fun _ t ht => ok_ret ⟨?_, ?_⟩))))
    · rw [hs.1.2.1]; exact ht.1.2.1
    · exact ⟨⟨k, hs.1, ht.1, w0, w1, w2⟩, hQ.keep (hs.2.s (by decide)) ht.2.s⟩
theorem e_Mlit (hN : 7 ≤ N) {h : hS} (hR : RM τ h) (hV : V0 h) : lf_X11_count_102 N N 0 0 τ = some (nI (sm (fun i => hc h i 5) (hn h)), τ) := by
  have h6 := hV.1
  refine sum_loop (F := fun n a v => lf_X11_count_102 N n a v τ) (f := fun i => hc h i 5) (e := hn h) (fun n => ?_) (fun n i hi => ?_) N 0 (Nat.zero_le _) (by omega)
  · show bf_X11_count_102 N _ _ _ τ = _
    unfold bf_X11_count_102
    rw [hR.1, t_le (by omega) (by omega), if_pos (Nat.le_refl _)]
  · show bf_X11_count_102 N _ _ _ τ = _
    unfold bf_X11_count_102 z_n
    rw [hR.1, t_le (by omega) (by omega), if_neg (by omega), z_in_n (show i < 6 by omega) (by decide), z_g_t, nI_clamp (by omega), (RM.r hR).1 i hi 5 (by decide), nI_add, li1, nI_add]
    rfl
theorem st_count (hN : 17 ≤ N) (hI : zInv σ τ) (v : Int32) : St (f_X10_count N v σ) (f_X11_count N v τ) := by
  obtain ⟨⟨h, hH⟩, hK, ⟨l, l1, l2, l3, l4⟩, ⟨w, w1, w2, w3, w4⟩, hF⟩ := id hI
  obtain ⟨hC, hM, v0, v1, v2⟩ := id hH
  unfold f_X10_count f_X11_count f_X11_isIn bf_X10_count_22
  simp only [z_b_id, e_allGrains (N := N) (by omega) hC v0, e_allDebts hN hC, e_litCandles (N := N) (by omega) hC v0, e_Mgrains (N := N) (by omega) hM v0, e_Mdebts hN hM, e_Mlit (N := N) (by omega) hM v0, hC.1, hC.2.1, hC.2.2.1, hC.2.2.2.1, hC.2.2.2.2.1, hM.1, hM.2.1, hM.2.2.1, hM.2.2.2.1, hM.2.2.2.2.1, l2, l3, w2, w3]
  have small : St (if v = 0 then some (nI (hn h), σ) else if v = 1 then some (nI (hm h), σ) else if v = 2 then some (nI (sm (fun i => hc h i 2) (hn h)), σ) else if v = 3 then some (nI (sm (hb h) 16), σ) else if v = 4 then some (nI (sm (fun i => hc h i 5) (hn h)), σ) else if v = 5 then some (hu h, σ) else if v = 6 then some (hp h, σ) else if v = 7 then some (hq h, σ) else if v = 8 then some (nI l, σ) else if v = 9 then some (nI w, σ) else some (-9, σ)) (if v = 0 then some (nI (hn h), τ) else if v = 1 then some (nI (hm h), τ) else if v = 2 then some (nI (sm (fun i => hc h i 2) (hn h)), τ) else if v = 3 then some (nI (sm (hb h) 16), τ) else if v = 4 then some (nI (sm (fun i => hc h i 5) (hn h)), τ) else if v = 5 then some (hu h, τ) else if v = 6 then some (hp h, τ) else if v = 7 then some (hq h, τ) else if v = 8 then some (nI l, τ) else if v = 9 then some (nI w, τ) else some (-9, τ)) := by
    repeat refine St.ite (fun _ => St.ret hI) (fun _ => ?_)
    exact St.ret hI
  by_cases h1 : v < 11
  · rw [if_pos h1, if_pos h1, z_b_some, if_pos p00]; (simp only [e_Mgrains (N := N) (by omega) hM v0, e_Mdebts hN hM, e_Mlit (N := N) (by omega) hM v0, hM.1, hM.2.1, hM.2.2.1, hM.2.2.2.1, hM.2.2.2.2.1, l3, w3]; exact small)
  · rw [if_neg h1, if_neg h1]
    by_cases h2 : (16 : Int32) < v
    · rw [if_pos h2, if_pos h2, z_b_some, if_pos p00]; (simp only [e_Mgrains (N := N) (by omega) hM v0, e_Mdebts hN hM, e_Mlit (N := N) (by omega) hM v0, hM.1, hM.2.1, hM.2.2.1, hM.2.2.2.1, hM.2.2.2.2.1, l3, w3]; exact small)
    · rw [if_neg h2, if_neg h2, z_b_some, if_neg n10]
      have h11 : nI 11 ≤ v := Int32.not_lt.mp h1
      have h16 : v ≤ nI 16 := Int32.not_lt.mp h2
      have hnn : ¬ v < 0 := fun q => Int32.not_lt.mpr h11 (Int32.lt_of_lt_of_le q (nI_pos' (by decide)))
      obtain ⟨a, ha, rfl⟩ := nI_of hnn
      have a11 := (nI_leI (by decide) ha).mp h11
      have a16 := (nI_leI ha (by decide)).mp h16
      rw [show (10 : Int32) = nI 10 from rfl, pk_sub (by omega), z_in_n (show a - 10 < 7 by omega) (by decide), z_g_t, z_g_t, nI_clamp (by omega), hF _ (by omega)]
      exact St.ret hI
theorem e_go {h : hS} (hN : 2000 ≤ N) (hC : RC σ 0 h) (hV : V0 h) {m : Nat} (hm1 : m ≤ 1000) (b : Int32) : ok (lf_X10_go_43 N N (nI m) b 0 σ) (fun r σ' => RC σ' 0 (mins h m) ∧ fC 0 σ σ' ∧ r = hu (mins h m) - b) := by
  refine cnt_loop (Q := fun o => ok o (fun r σ' => RC σ' 0 (mins h m) ∧ fC 0 σ σ' ∧ r = hu (mins h m) - b)) (F := fun n v s => lf_X10_go_43 N n (nI m) b v s) (I := fun i s => RC s 0 (mins h i) ∧ fC 0 σ s) (e := m) ?_ ?_ N 0 σ (Nat.zero_le _) (by omega) ⟨hC, fC.rf⟩
  · intro n s ⟨r, f⟩
    show ok (bf_X10_go_43 N _ _ _ _ s) _
    unfold bf_X10_go_43
    rw [t_le (by omega) (by omega)]
    exact ok_t (Nat.le_refl _) (ok_ret ⟨r, f, by rw [r.2.2.1]⟩)
  · intro n i s hi ⟨r, f⟩ ih
    show ok (bf_X10_go_43 N _ _ _ _ s) _
    unfold bf_X10_go_43
    rw [t_le (by omega) (by omega)]
    refine ok_f (by omega) (ok_bm (e_passMinute (by omega) r (mins_V hV i) (by decide)) (fun _ s' hs' => ?_))
    rw [li1, nI_add]
    exact ih s' ⟨hs'.1, f.tr hs'.2⟩
theorem st_go (hN : 2000 ≤ N) (hI : zInv σ τ) (v : Int32) : St (f_X10_go N v σ) (f_X11_go N v τ) := by
  obtain ⟨⟨h, hH⟩, hQ⟩ := id hI
  obtain ⟨hC, hM, v0, v1, v2⟩ := id hH
  unfold f_X10_go f_X11_go bf_X11_go_27
  simp only [z_b_id]
  have ehi : (if ((9999 : Int32) - σ (18 + 0) 5) < 99 then ((9999 : Int32) - σ (18 + 0) 5) else 99) = nI (min 99 (9999 - hm h)) := by
    rw [hC.2.1, show (9999 : Int32) = nI 9999 from rfl, pk_sub v2, show (99 : Int32) = nI 99 from rfl, i_min (by omega) (by omega)]
  rw [ehi]
  rcases ou_cases v 1 99 (lo := 1) (hi := 99) rfl rfl (by decide) (by decide) with ⟨c, c1, c99, rfl, e⟩ | ⟨hneg, e⟩ | ⟨hpos, hgt, e⟩
  · rw [(e N σ τ).2, z_b_some, if_pos p00, hM.2.1, nI_add, show (9999 : Int32) = nI 9999 from rfl, t_le (by omega) (by omega)]
    unfold f_X10_outside
    rw [if_pos (show (1 : Int32) ≤ nI c from nI_le (a := 1) c1 (by omega)), t_le (by omega) (by omega)]
    by_cases hle : hm h + c ≤ 9999
    · rw [if_pos (by omega), if_pos hle, z_b_some, if_pos p00, if_pos p00]
      refine St.of (ok_n (ok_mono (e_go hN hC v0 (by omega) _) (fun r s hs => ok_n (ok_bm (e_MgoesMinutes hN hM v0 (by omega)) (fun _ t ht => ok_ret ?_)))))
      obtain ⟨s1, s2, rfl⟩ := hs
      refine ⟨by rw [ht.1.2.2.1, hM.2.2.1, hC.2.2.1], zInv.mk ⟨s1, ht.1, mins_V v0 _, mins_V1 v1 _, by rw [mins_m]; exact hle⟩ (hQ.keep (s2.s (by decide)) ht.2.s)⟩
    · rw [if_neg (by omega), if_neg hle, z_b_some, if_neg n60, if_neg n60]; exact St_r6 hI
  · rw [(e N σ τ).2, z_b_some, if_neg n40, if_neg n40]
    unfold f_X10_outside
    rw [if_neg hneg, z_b_some, if_neg n40]; exact St_r4 hI
  · rw [(e N σ τ).2, z_b_some, if_neg n60, if_neg n60]
    unfold f_X10_outside
    have hq : ¬ v ≤ nI (min 99 (9999 - hm h)) := fun q => by
      have h2 : nI (min 99 (9999 - hm h)) ≤ nI 99 := nI_le (by omega) (by decide)
      exact Int32.not_le.mpr hgt (Int32.le_trans q h2)
    rw [if_pos hpos, if_neg hq, z_b_some, if_neg n60]; exact St_r6 hI
theorem sm_le1 {f : Nat → Nat} {n : Nat} (h : sm f n = 0) : ∀ i, i < n → f i = 0 := by
  induction n with
  | zero => intro i hi; omega
  | succ n ih =>
    have h' : sm f n + f n = 0 := h
    intro i hi
    by_cases e : i = n
    · subst e; omega
    · exact ih (by omega) i (by omega)
theorem burn1_off {h : hS} {i : Nat} (hl : hc h i 5 = 0) : burn1 h i = h := by
  unfold burn1
  rw [if_neg (by omega)]
theorem burnN_off {h : hS} : ∀ i, (∀ k, k < i → hc h k 5 = 0) → burnN h i = h := by
  intro i
  induction i with
  | zero => intro _; rfl
  | succ i ih =>
    intro hl
    show burn1 (burnN h i) i = h
    rw [ih (fun k hk => hl k (by omega))]
    exact burn1_off (hl i (by omega))
/-- without a lit candle only the minute goes on -/
def sameH (g h : hS) : Prop := hn g = hn h ∧ hc g = hc h ∧ hd g = hd h ∧ hb g = hb h
theorem mins_off {h : hS} (hl : ∀ k, k < hn h → hc h k 5 = 0) : ∀ n, sameH (mins h n) h := by
  intro n
  induction n with
  | zero => exact ⟨rfl, rfl, rfl, rfl⟩
  | succ n ih =>
    obtain ⟨e1, e2, e3, e4⟩ := ih
    have hb : burnN (mins h n) (hn (mins h n)) = mins h n := burnN_off _ (fun k hk => by rw [e2]; exact hl k (by rw [← e1]; exact hk))
    show sameH (tick (burnN (mins h n) (hn (mins h n)))) h
    rw [hb]
    exact ⟨e1, e2, e3, e4⟩
theorem mins_add (h : hS) (a : Nat) : ∀ b, mins h (a + b) = mins (mins h a) b := by
  intro b
  induction b with
  | zero => rfl
  | succ b ih =>
    show mint (mins h (a + b)) = mint (mins (mins h a) b)
    rw [ih]
theorem e_think {h : hS} (hN : 2000 ≤ N) (hC : RC σ 0 h) (hV : V0 h) {m : Nat} (hm1 : m ≤ 1000) : ok (f_X10_thinkAhead N (nI m) σ) (fun _ σ' => (∃ g, RC σ' 1 g ∧ sameH g (mins h m)) ∧ fC 1 σ σ') := by
  unfold f_X10_thinkAhead
  refine ok_bm (e_become (j := 1) (j1 := 0) (by omega) (by decide) (by decide) (by decide) hC hV) (fun _ s0 hs0 => ?_)
  refine cnt_loop (Q := fun o => ok o (fun _ σ' => (∃ g, RC σ' 1 g ∧ sameH g (mins h m)) ∧ fC 1 σ σ')) (F := fun n v s => lf_X10_thinkAhead_13 N n (nI m) v s) (I := fun i s => RC s 1 (mins h i) ∧ fC 1 σ s) (e := m) ?_ ?_ N 0 s0 (Nat.zero_le _) (by omega) hs0
  · intro n s ⟨r, f⟩
    show ok (bf_X10_thinkAhead_13 N _ _ _ s) _
    unfold bf_X10_thinkAhead_13
    rw [t_le (by omega) (by omega)]
    exact ok_t (Nat.le_refl _) (ok_ret ⟨⟨_, r, rfl, rfl, rfl, rfl⟩, f⟩)
  · intro n i s hi ⟨r, f⟩ ih
    show ok (bf_X10_thinkAhead_13 N _ _ _ s) _
    unfold bf_X10_thinkAhead_13
    have hVi := mins_V hV i
    have h6 := hVi.1
    rw [t_le (by omega) (by omega), e_litCandles (by omega) r hVi, z_b_some]
    refine ok_f (by omega) ?_
    have hsb : sm (fun k => hc (mins h i) k 5) (hn (mins h i)) ≤ 6 := by
      have : ∀ q, q ≤ hn (mins h i) → sm (fun k => hc (mins h i) k 5) q ≤ q := by
        intro q
        induction q with
        | zero => intro _; exact Nat.le_refl _
        | succ q ihq =>
          intro hq
          have := ihq (by omega)
          have := (hVi.2.1 q (by omega)).2.2.2.2.2
          show sm _ q + hc (mins h i) q 5 ≤ q + 1
          omega
      have := this _ (Nat.le_refl _)
      omega
    rw [li0, t_le (by omega) (by omega)]
    refine ok_if (fun hz => ?_) (fun hz => ?_)
    · refine ok_ret ⟨⟨_, r, ?_⟩, f⟩
      have hoff := mins_off (h := mins h i) (sm_le1 (by omega)) (m - i)
      rw [← mins_add, show i + (m - i) = m by omega] at hoff
      exact ⟨hoff.1.symm, hoff.2.1.symm, hoff.2.2.1.symm, hoff.2.2.2.symm⟩
    · refine ok_bm (e_passMinute (by omega) r hVi (by decide)) (fun _ s' hs' => ?_)
      rw [li1, nI_add]
      exact ih s' ⟨hs'.1, f.tr hs'.2⟩
theorem st_behind (hN : 2000 ≤ N) (hI : zInv σ τ) (v w : Int32) : St (f_X10_behind N v w σ) (f_X11_behind N v w τ) := by
  obtain ⟨⟨h, hH⟩, hQ⟩ := id hI
  obtain ⟨hC, hM, v0, v1, v2⟩ := id hH
  have h6 := v0.1
  unfold f_X10_behind f_X11_behind bf_X11_behind_20
  simp only [z_b_id]
  rcases v_cases v (n := hn h) (by omega) with hv | ⟨i, hi, rfl⟩
  · rw [ca_no hC hv, cm_no hM hv, z_b_some, z_b_some, if_pos p00, if_pos p00, if_neg n1_0]
    exact St_r1 hI
  · rw [ca_yes hC h6 hi, cm_yes hM h6 hi, z_b_some, z_b_some, if_neg n10, if_neg n10]
    rcases ou_cases w 0 300 (lo := 0) (hi := 300) rfl rfl (by decide) (by decide) with ⟨c, -, hc9, rfl, e⟩ | ⟨-, e⟩ | ⟨-, -, e⟩
    · rw [(e N σ τ).1, (e N σ τ).2, z_b_some, z_b_some, if_pos p00, if_pos p00, z_in_n (show i < 6 by omega) (by decide)]
      simp only [z_g_t]
      rw [nI_clamp (by omega)]
      refine St.of (ok_bm (e_think hN hC v0 (by omega)) (fun _ s hs => ok_ret ?_))
      refine ok_bm (e_keep (w := 1) (by omega) (by decide) hM h6) (fun _ t ht => ?_)
      obtain ⟨t1, t2, t3⟩ := ht
      refine ok_bm (e_MgoesMinutes hN t2 v0 (by omega)) (fun _ u hu => ok_n ?_)
      have rk : RK 1 u h := by
        obtain ⟨r1, r2, r3, r4, r5, r6, r7, r8⟩ := t1
        have e14 : u 14 = t 14 := hu.2.1 14 (by decide)
        unfold RK
        rw [e14]
        exact ⟨r1, r2, r3, r4, r5, r6, r7, r8⟩
      refine ok_bm (e_back (w := 1) (by omega) (by decide) rk h6) (fun _ x hx => ok_ret ?_)
      obtain ⟨⟨g, g1, g2⟩, fc⟩ := hs
      have hgi : i < hn g := by rw [g2.1, mins_n]; exact hi
      refine ⟨?_, zInv.mk ⟨hC.other h6 (by decide) (by decide) (by decide) fc, hx.1, v0, v1, v2⟩ (hQ.keep (fc.s (by decide)) ((t3.s.tr hu.2.s).tr hx.2.s))⟩
      rw [rc_c g1 hgi (by decide : 2 < 6), (RM.r hu.1).1 i (by rw [mins_n]; exact hi) 2 (by decide), g2.2.1]
    · rw [(e N σ τ).1, (e N σ τ).2, z_b_some, z_b_some, if_neg n40, if_neg n40]; exact St_r4 hI
    · rw [(e N σ τ).1, (e N σ τ).2, z_b_some, z_b_some, if_neg n60, if_neg n60]; exact St_r6 hI
theorem RK.rows {u t : zS} {w : Nat} {h : hS} (hR : RK w t h) (e : u 14 = t 14) : RK w u h := by
  unfold RK at *
  rw [e]
  exact hR
theorem st_owes (hN : 2000 ≤ N) (hI : zInv σ τ) (v w x : Int32) : St (f_X10_owes N v w x σ) (f_X11_owes N v w x τ) := by
  obtain ⟨⟨h, hH⟩, hQ⟩ := id hI
  obtain ⟨hC, hM, v0, v1, v2⟩ := id hH
  have h6 := v0.1
  unfold f_X10_owes f_X11_owes bf_X11_owes_20
  simp only [z_b_id]
  rcases tw_cases v w with ⟨a, b, ha, hb4, hab, rfl, rfl⟩ | hno
  · rw [tw_yes ha hb4 hab, tm_yes ha hb4 hab, z_b_some, z_b_some, if_neg n10, if_neg n10]
    rcases ou_cases x 0 300 (lo := 0) (hi := 300) rfl rfl (by decide) (by decide) with ⟨c, -, hc9, rfl, e⟩ | ⟨-, e⟩ | ⟨-, -, e⟩
    · rw [(e N σ τ).1, (e N σ τ).2, z_b_some, z_b_some, if_pos p00, if_pos p00]
      simp only [e_pair, z_b_some, m_pair, z_in_n (show 4 * a + b < 16 by omega) (by decide), z_g_t]
      rw [nI_clamp (by omega)]
      refine St.of (ok_bm (e_think hN hC v0 (by omega)) (fun _ s hs => ok_ret ?_))
      refine ok_bm (e_keep (w := 1) (by omega) (by decide) hM h6) (fun _ t ht => ?_)
      obtain ⟨t1, t2, t3⟩ := ht
      refine ok_bm (e_MgoesMinutes hN t2 v0 (by omega)) (fun _ u hu => ok_n ?_)
      refine ok_bm (e_back (w := 1) (by omega) (by decide) (t1.rows (hu.2.1 14 (by decide))) h6) (fun _ x hx => ok_ret ?_)
      obtain ⟨⟨g, g1, g2⟩, fc⟩ := hs
      refine ⟨?_, zInv.mk ⟨hC.other h6 (by decide) (by decide) (by decide) fc, hx.1, v0, v1, v2⟩ (hQ.keep (fc.s (by decide)) ((t3.s.tr hu.2.s).tr hx.2.s))⟩
      rw [rc_b g1 (by omega), (RM.r hu.1).2.2 _ (by omega), g2.2.2.2]
    · rw [(e N σ τ).1, (e N σ τ).2, z_b_some, z_b_some, if_neg n40, if_neg n40]; exact St_r4 hI
    · rw [(e N σ τ).1, (e N σ τ).2, z_b_some, z_b_some, if_neg n60, if_neg n60]; exact St_r6 hI
  · rw [(hno N σ τ).1, (hno N σ τ).2, z_b_some, z_b_some, if_pos p00, if_pos p00, if_neg n1_0]; exact St_r1 hI
end S3
