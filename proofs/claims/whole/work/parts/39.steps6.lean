/-! The candle to pour, the seeds. -/
section S6
variable {σ τ : zS} {N : Nat}
def wth (k f d b : Nat) : Nat := wrth k (b - drip k f b d)
theorem wth_le (k f d : Nat) {b : Nat} (hb : b < 16) : wth k f d b < 32 := by
  have := wrth_le k (b - drip k f b d)
  unfold wth; omega
theorem wth_0 (k f d : Nat) : wth k f d 0 = 0 := by
  have := wrth_le k (0 - drip k f 0 d)
  unfold wth; omega
theorem e_countsAll {k f d : Nat} (hk : k < 6) (hf : f < 10) (hd : d < 10) {m : Nat} (hm : m ≤ rate k f d) : ∀ q n acc, q * rate k f d + m < 1000 → q + 2 ≤ n → lf_X11_countsAll_6 N n (nI k) (nI f) (nI d) (nI (q * rate k f d + m)) (nI acc) τ = some (nI (acc + q * wth k f d (rate k f d) + wth k f d m), τ) := by
  have hr := rate_pos k hk f hf d hd
  intro q
  induction q with
  | zero =>
    intro n acc h1 h2
    obtain ⟨n, rfl⟩ : ∃ x, n = x + 2 := ⟨n - 2, by omega⟩
    rw [Nat.zero_mul, Nat.zero_mul, Nat.zero_add, Nat.add_zero]
    show bf_X11_countsAll_6 N _ _ _ _ _ _ τ = _
    unfold bf_X11_countsAll_6 z_n
    rw [li0, t_le (by omega) (by omega)]
    by_cases e : m = 0
    · subst e; rw [if_pos (Nat.le_refl _), wth_0]; rfl
    · rw [if_neg (by omega), e_Mburns hk hf (by omega) hd, z_b_some, show min (rate k f d) m = m by omega, e_Mdrips hk hf (by omega) hd, z_b_some, pk_sub (drip_le k hk f hf m (by omega) d hd), e_Mcounts hk (by omega), z_b_some, pk_sub (Nat.le_refl _), nI_add]
      show bf_X11_countsAll_6 N _ _ _ _ _ _ τ = _
      unfold bf_X11_countsAll_6
      rw [li0, t_le (by omega) (by omega), if_pos (by omega)]
      rfl
  | succ q ih =>
    intro n acc h1 h2
    obtain ⟨n, rfl⟩ : ∃ x, n = x + 1 := ⟨n - 1, by omega⟩
    have h3 : (q + 1) * rate k f d = q * rate k f d + rate k f d := Nat.succ_mul _ _
    show bf_X11_countsAll_6 N _ _ _ _ _ _ τ = _
    unfold bf_X11_countsAll_6 z_n
    rw [li0, t_le (by omega) (by omega), if_neg (by omega), e_Mburns hk hf (by omega) hd, z_b_some, show min (rate k f d) ((q + 1) * rate k f d + m) = rate k f d by omega, e_Mdrips hk hf (by omega) hd, z_b_some, pk_sub (drip_le k hk f hf _ (by omega) d hd), e_Mcounts hk (by omega), z_b_some, pk_sub (by omega), nI_add, show (q + 1) * rate k f d + m - rate k f d = q * rate k f d + m by omega]
    have := ih n (acc + wth k f d (rate k f d)) (by omega) (by omega)
    rw [show acc + wth k f d (rate k f d) + q * wth k f d (rate k f d) + wth k f d m = acc + (q + 1) * wth k f d (rate k f d) + wth k f d m by rw [Nat.succ_mul]; omega] at this
    exact this
theorem pour_key {h : hS} (hN : 2000 ≤ N) (hM : RM τ h) (hV : V0 h) {k f b ow : Nat} (hk : k < 6) (hf : f < 10) (hb : b < 4) (how : ow < 1000) : ∀ n q m, q * rate k f (hd h b) + m ≤ 999 → m < rate k f (hd h b) → 1000 - (q * rate k f (hd h b) + m) < n → ∃ r : Int32, lf_X10_leastGrains_17 N n k (nI f) (nI (hd h b)) (nI ow) (nI (rate k f (hd h b))) (nI (q * wth k f (hd h b) (rate k f (hd h b)))) (nI m) (nI (q * rate k f (hd h b) + m + 1)) σ = some (r, σ) ∧ lf_X11_pour_75 N n (nI k) (nI f) (nI b) (nI ow) (nI (q * rate k f (hd h b) + m + 1)) τ = some (r, τ) := by
  have hdd := hV.2.2.1 b hb
  have hr := rate_pos k hk f hf _ hdd
  have hwr := wth_le k f (hd h b) (b := rate k f (hd h b)) (by omega)
  intro n
  induction n with
  | zero => intro q m _ _ h; omega
  | succ n ih =>
    intro q m h1 h2 h3
    show ∃ r : Int32, bf_X10_leastGrains_17 N _ _ _ _ _ _ _ _ _ σ = _ ∧ bf_X11_pour_75 N _ _ _ _ _ _ τ = _
    unfold bf_X10_leastGrains_17 bf_X11_pour_75 z_n
    have hqq : q ≤ q * rate k f (hd h b) := Nat.le_mul_of_pos_right _ hr.1
    have hqw : q * wth k f (hd h b) (rate k f (hd h b)) ≤ 999 * 32 := Nat.mul_le_mul (by omega) (by omega)
    rw [show (999 : Int32) = nI 999 from rfl, t_lt (by omega) (by omega), t_lt (by omega) (by omega)]
    by_cases e : 999 < q * rate k f (hd h b) + m + 1
    · rw [if_pos e, if_pos e]; exact ⟨_, rfl, rfl⟩
    · have hwm := wth_le k f (hd h b) (b := m + 1) (by omega)
      have e1 := e_countsAll (N := N) (τ := τ) hk hf hdd (m := m + 1) (by omega) q N 0 (by omega) (by omega)
      rw [Nat.zero_add] at e1
      rw [if_neg e, if_neg e, z_in_n hb (by decide), z_g_t, nI_clamp (by omega), (RM.r hM).2.1 b hb]
      unfold f_X11_countsAll
      rw [show q * rate k f (hd h b) + m + 1 = q * rate k f (hd h b) + (m + 1) from rfl, show lf_X11_countsAll_6 N N (nI k) (nI f) (nI (hd h b)) (nI (q * rate k f (hd h b) + (m + 1))) 0 τ = _ from e1, z_b_some, li1, nI_add, e_worth N hk hf (by omega) hdd, z_b_some, show wrth k (m + 1 - drip k f (m + 1) (hd h b)) = wth k f (hd h b) (m + 1) from rfl]
      dsimp only
      rw [nI_add (q * wth k f (hd h b) (rate k f (hd h b))), t_lt (by omega) (by omega), t_lt (by omega) (by omega)]
      by_cases e2 : q * wth k f (hd h b) (rate k f (hd h b)) + wth k f (hd h b) (m + 1) < ow
      · rw [if_pos e2, if_pos e2, t_eq (by omega) (by omega), nI_add]
        by_cases e3 : m + 1 = rate k f (hd h b)
        · rw [if_pos e3]
          have := ih (q + 1) 0 (by rw [Nat.succ_mul]; omega) (by omega) (by rw [Nat.succ_mul]; omega)
          rw [Nat.succ_mul, Nat.succ_mul, Nat.add_zero] at this
          rw [e3]
          exact this
        · rw [if_neg e3]
          exact ih q (m + 1) (by omega) (by omega) (by omega)
      · rw [if_neg e2, if_neg e2]; exact ⟨_, rfl, rfl⟩
theorem n20 : ¬ (-2 : Int32) = 0 := by decide
theorem st_pour (hN : 2000 ≤ N) (hI : zInv σ τ) (v w x y : Int32) : St (f_X10_pour N v w x y σ) (f_X11_pour N v w x y τ) := by
  obtain ⟨⟨h, hH⟩, hQ⟩ := id hI
  obtain ⟨hC, hM, v0, v1, v2⟩ := id hH
  unfold f_X10_pour f_X11_pour bf_X11_pour_21 bf_X11_pour_40 f_X10_isKind f_X11_isIn
  simp only [z_b_id]
  rcases v_cases v (n := 6) (by decide) with hv | ⟨k, hk, rfl⟩
  · by_cases hv0 : v < 0
    · rw [if_pos hv0, if_pos hv0, z_b_some, z_b_some, if_pos p00, if_pos p00, if_neg n20, if_neg n20]
      exact St_r2 hI
    · have h6 := hv.resolve_left hv0
      have h5 : (5 : Int32) < v := Int32.lt_of_lt_of_le (show (5 : Int32) < nI 6 by decide) h6
      rw [if_neg hv0, if_neg hv0, if_pos (show (6 : Int32) ≤ v from h6), if_pos h5, z_b_some, z_b_some, if_pos p00, if_pos p00, if_neg n20, if_neg n20]
      exact St_r2 hI
  · rw [if_neg (nI_pos (show k < 2 ^ 31 by omega)), if_neg (nI_pos (show k < 2 ^ 31 by omega)), if_neg (show ¬ (6 : Int32) ≤ nI k from nI_ge (b := 6) hk (by decide)), if_neg (show ¬ (5 : Int32) < nI k from nI_nlt (a := 5) (by omega) (by decide)), z_b_some, z_b_some, if_neg n10, if_neg n10]
    rcases ou_cases w 0 9 (lo := 0) (hi := 9) rfl rfl (by decide) (by decide) with ⟨f, -, hf, rfl, e⟩ | ⟨-, e⟩ | ⟨-, -, e⟩
    · rw [(e N σ τ).1, (e N σ τ).2, z_b_some, z_b_some, if_pos p00, if_pos p00]
      rcases tw_cases x y with ⟨a, b, ha, hb4, hab, rfl, rfl⟩ | hno
      · rw [tw_yes ha hb4 hab, tm_yes ha hb4 hab, z_b_some, z_b_some, if_neg n10, if_neg n10, if_pos p00]
        simp only [e_pair, z_b_some, m_pair, z_in_n (show 4 * a + b < 16 by omega) (by decide), z_g_t]
        have hbb := v0.2.2.2.1 (4 * a + b) (by omega)
        have hdd := v0.2.2.1 b hb4
        have hr := rate_pos k hk f (by omega) _ hdd
        unfold z_n
        rw [nI_clamp (show 4 * a + b < 2 ^ 31 by omega), rc_b hC (by omega), (RM.r hM).2.2 _ (by omega)]
        dsimp only
        by_cases e0 : hb h (4 * a + b) = 0
        · rw [e0, if_pos (show nI 0 = (0 : Int32) from rfl), if_pos (show nI 0 = (0 : Int32) from rfl)]; exact St.ret hI
        · have hne : ¬ nI (hb h (4 * a + b)) = (0 : Int32) := fun z => e0 ((nI_eq (b := 0) (by omega) (by omega)).mp z)
          rw [if_neg hne, if_neg hne, z_in_n hk (by decide), z_in_n hb4 (by decide), z_g_t, z_g_t, nI_clamp (by omega), nI_clamp (by omega), rc_d hC hb4]
          unfold f_X10_leastGrains
          rw [e_rate N hk (by omega) hdd, z_b_some]
          obtain ⟨r, e1, e2⟩ := pour_key (σ := σ) hN hM v0 hk (by omega : f < 10) hb4 hbb N 0 0 (by omega) (by omega) (by omega)
          rw [Nat.zero_mul, Nat.zero_mul] at e1
          rw [Nat.zero_mul] at e2
          exact ⟨r, σ, τ, e1, e2, hI⟩
      · rw [(hno N σ τ).1, (hno N σ τ).2, z_b_some, z_b_some, if_pos p00, if_pos p00, if_neg n1_0]; exact St_r1 hI
    · rw [(e N σ τ).1, (e N σ τ).2, z_b_some, z_b_some, if_neg n40, if_neg n40, if_neg n40]; exact St_r4 hI
    · rw [(e N σ τ).1, (e N σ τ).2, z_b_some, z_b_some, if_neg n60, if_neg n60, if_neg n60]; exact St_r6 hI
-- the seeds
theorem RC_setc {h : hS} {j : Nat} (hC : RC σ j h) (hj : j < 3) (h6 : hn h ≤ 6) {i k v : Nat} (hi : i < hn h) : RC (z_put σ (6 * j + i) k (nI v)) j (setc h i k v) := by
  obtain ⟨a1, a2, a3, a4, a5, a6, a7, a8⟩ := hC
  refine ⟨?_, ?_, ?_, ?_, ?_, fun q hq k' hk' => ?_, fun q hq => ?_, fun q hq => ?_⟩
  · rw [z_put_ne _ _ _ (by omega)]; exact a1
  · rw [z_put_ne _ _ _ (by omega)]; exact a2
  · rw [z_put_ne _ _ _ (by omega)]; exact a3
  · rw [z_put_ne _ _ _ (by omega)]; exact a4
  · rw [z_put_ne _ _ _ (by omega)]; exact a5
  · show _ = nI (un (hc h) i (un (hc h i) k v) q k')
    have hq' : q < hn h := hq
    by_cases e : q = i
    · subst e
      rw [un_s, z_put_same]
      by_cases e2 : k' = k
      · subst e2; rw [un_s, pk_us]
      · rw [un_n _ _ e2, pk_un e2]; exact a6 q hq' k' hk'
    · rw [un_n _ _ e, z_put_ne _ _ _ (by omega)]; exact a6 q hq' k' hk'
  · rw [z_put_ne _ _ _ (by omega)]; exact a7 q hq
  · rw [z_put_ne _ _ _ (by omega)]; exact a8 q hq
theorem RM_setc {h : hS} (hM : RM τ h) {i k v : Nat} (hi : i < hn h) (hk : k < 6) : RM (z_put τ (k + 1) i (nI v)) (setc h i k v) := by
  obtain ⟨a1, a2, a3, a4, a5, a6, a7, a8⟩ := hM
  refine ⟨?_, ?_, ?_, ?_, ?_, fun q hq k' hk' => ?_, fun q hq => ?_, fun q hq => ?_⟩
  · rw [z_put_ne _ _ _ (by omega)]; exact a1
  · rw [z_put_ne _ _ _ (by omega)]; exact a2
  · rw [z_put_ne _ _ _ (by omega)]; exact a3
  · rw [z_put_ne _ _ _ (by omega)]; exact a4
  · rw [z_put_ne _ _ _ (by omega)]; exact a5
  · show _ = nI (un (hc h) i (un (hc h i) k v) q k')
    have hq' : q < hn h := hq
    by_cases e : k' = k
    · subst e
      rw [z_put_same]
      by_cases e2 : q = i
      · subst e2; rw [un_s, un_s, pk_us]
      · rw [un_n _ _ e2, pk_un e2]; exact a6 q hq' k' hk'
    · rw [z_put_ne _ _ _ (by omega)]
      by_cases e2 : q = i
      · subst e2; rw [un_s, un_n _ _ e]; exact a6 q hq' k' hk'
      · rw [un_n _ _ e2]; exact a6 q hq' k' hk'
  · rw [z_put_ne _ _ _ (by omega)]; exact a7 q hq
  · rw [z_put_ne _ _ _ (by omega)]; exact a8 q hq
def flp (h : hS) (i : Nat) : hS := setc h i 5 (1 - hc h i 5)
theorem flp_V {h : hS} (hV : V0 h) {i : Nat} (hi : i < hn h) : V0 (flp h i) := by
  obtain ⟨v1, v2, v3, v4, v5⟩ := hV
  refine ⟨v1, fun q hq => ?_, v3, v4, v5⟩
  have hq' : q < hn h := hq
  show CV (un (hc h) i (un (hc h i) 5 (1 - hc h i 5)) q)
  by_cases e : q = i
  · subst e
    obtain ⟨c0, c1, c2, c3, c4, c5⟩ := v2 q hq'
    rw [un_s]
    exact ⟨by rw [un_n _ _ (by decide)]; exact c0, by rw [un_n _ _ (by decide)]; exact c1, by rw [un_n _ _ (by decide)]; exact c2, by rw [un_n _ _ (by decide)]; exact c3, by rw [un_n _ _ (by decide)]; exact c4, by rw [un_s]; omega⟩
  · rw [un_n _ _ e]; exact v2 q hq'
def sdz (z : Int32) : Nat → Int32
  | 0 => z
  | k + 1 => sdz z k * (1103515245 : Int32) + (12345 : Int32)
def sdi (z : Int32) (n : Nat) : Nat := z.toBitVec.toNat % 2 ^ 31 / 65536 % n
theorem sd_ix (z : Int32) {n : Nat} (h0 : 0 < n) (h6 : n ≤ 6) : ((z &&& (2147483647 : Int32)) / (65536 : Int32)) - ((z &&& (2147483647 : Int32)) / (65536 : Int32)) / nI n * nI n = nI (sdi z n) := by
  have h1 := Nat.mod_lt z.toBitVec.toNat (show 2 ^ 31 > 0 by decide)
  rw [pk_and z 31 (by decide), show (65536 : Int32) = nI 65536 from rfl, pk_div h1 (by decide) (by decide), pk_rem (by omega) h0 (by omega)]
  rfl
theorem sdi_lt (z : Int32) {n : Nat} (h0 : 0 < n) : sdi z n < n := Nat.mod_lt _ h0
def sdh (h : hS) (z : Int32) : Nat → hS
  | 0 => h
  | k + 1 => mint (flp (sdh h z k) (sdi (sdz z (k + 1)) (hn h)))
theorem sdh_n (h : hS) (z : Int32) : ∀ k, hn (sdh h z k) = hn h := by
  intro k
  induction k with
  | zero => rfl
  | succ k ih => exact (mint_n _).trans ih
theorem sdh_V {h : hS} (hV : V0 h) (z : Int32) (h0 : 0 < hn h) : ∀ k, V0 (sdh h z k) := by
  intro k
  induction k with
  | zero => exact hV
  | succ k ih => exact mint_V (flp_V ih (by rw [sdh_n]; exact sdi_lt _ h0))
theorem n30 : ¬ (-3 : Int32) = 0 := by decide
theorem st_seeds (hN : 2000 ≤ N) (hI : zInv σ τ) (v z : Int32) : St (f_X10_seeds N v z σ) (f_X11_seeds N v z τ) := by
  obtain ⟨⟨h, hH⟩, hQ⟩ := id hI
  obtain ⟨hC, hM, v0, v1, v2⟩ := id hH
  have h6 := v0.1
  unfold f_X10_seeds f_X11_seeds bf_X11_seeds_22
  simp only [z_b_id]
  rcases ou_cases v 1 60 (lo := 1) (hi := 60) rfl rfl (by decide) (by decide) with ⟨c, c1, c60, rfl, e⟩ | ⟨-, e⟩ | ⟨-, -, e⟩
  · rw [(e N σ τ).1, (e N σ τ).2, z_b_some, z_b_some, if_pos p00, if_pos p00, hC.1, hM.1]
    by_cases e0 : hn h = 0
    · rw [e0, if_pos (show nI 0 = (0 : Int32) from rfl), if_pos (show nI 0 = (0 : Int32) from rfl), if_neg n30]; exact St_r3 hI
    · have hne : ¬ nI (hn h) = (0 : Int32) := fun z => e0 ((nI_eq (b := 0) (by omega) (by omega)).mp z)
      have hnz : z_nz (nI (hn h)) = true := decide_eq_true hne
      have hp0 : 0 < hn h := by omega
      rw [if_neg hne, if_neg hne, if_pos p00]
      have L1 : ok (z_b (f_X4_become N 1 0 σ) (fun _ t => lf_X10_seeds_52 N N (nI c) z 0 t)) (fun q s => q = nI (sm (fun i => hc (sdh h z c) i 2) (hn (sdh h z c))) ∧ fC 1 σ s) := by
        refine ok_bm (e_become (j := 1) (j1 := 0) (by omega) (by decide) (by decide) (by decide) hC v0) (fun _ s0 hs0 => ?_)
        refine loop_i (W := fun n i s => ok (lf_X10_seeds_52 N n (nI c) (sdz z i) (nI i) s) (fun q s => q = nI (sm (fun i => hc (sdh h z c) i 2) (hn (sdh h z c))) ∧ fC 1 σ s)) (I := fun i s => RC s 1 (sdh h z i) ∧ fC 1 σ s) c ?_ ?_ N 0 s0 (Nat.zero_le _) (by omega) ⟨hs0.1, hs0.2⟩
        · intro n s ⟨p1, p2⟩
          show ok (bf_X10_seeds_52 N _ _ _ _ s) _
          unfold bf_X10_seeds_52
          rw [t_le (by omega) (by omega), z_b_id, e_allGrains (by omega) p1 (sdh_V v0 z hp0 c)]
          exact ok_t (Nat.le_refl _) (ok_ret ⟨rfl, p2⟩)
        · intro n i s hi ⟨p1, p2⟩ ih
          show ok (bf_X10_seeds_52 N _ _ _ _ s) _
          unfold bf_X10_seeds_52
          have hVi := sdh_V v0 z hp0 i
          have hix := sdi_lt (sdz z (i + 1)) hp0
          have es : s (18 + 0) 4 = nI (hn h) := by rw [p2 (18 + 0) (by unfold hr; omega)]; exact hC.1
          rw [t_le (by omega) (by omega), es]
          refine ok_f (by omega) (ok_n (ok_g hnz ?_))
          rw [show sdz z i * (1103515245 : Int32) + (12345 : Int32) = sdz z (i + 1) from rfl, sd_ix _ hp0 h6]
          refine ok_g (z_in_n (show _ < 6 by omega) (by decide)) ?_
          rw [nI_clamp (by omega)]
          have hin : sdi (sdz z (i + 1)) (hn h) < hn (sdh h z i) := by rw [sdh_n]; exact hix
          have fin : ∀ q : Nat, q = 1 - hc (sdh h z i) (sdi (sdz z (i + 1)) (hn h)) 5 → q < 2 → ok (bf_X10_seeds_110 N (lf_X10_seeds_52 N n) (nI c) (sdz z (i + 1)) (nI i) (6 * 1 + sdi (sdz z (i + 1)) (hn h)) (nI q) s) (fun q s => q = nI (sm (fun i => hc (sdh h z c) i 2) (hn (sdh h z c))) ∧ fC 1 σ s) := by
            intro q hq hq2
            unfold bf_X10_seeds_110
            refine ok_g (z_bo_n2 hq2) (ok_m ?_)
            have r1 : RC (z_put s (6 * 1 + sdi (sdz z (i + 1)) (hn h)) 5 (nI q)) 1 (flp (sdh h z i) (sdi (sdz z (i + 1)) (hn h))) := by
              unfold flp; rw [← hq]
              exact RC_setc p1 (by decide) hVi.1 hin
            refine ok_bm (e_passMinute (by omega) r1 (flp_V hVi hin) (by decide)) (fun _ s' hs' => ?_)
            rw [li1, nI_add]
            exact ih s' ⟨hs'.1, (p2.tr (fC.put (by unfold hr; omega))).tr hs'.2⟩
          obtain ⟨c0, c1, c2, c3, c4, c5⟩ := hVi.2.1 _ hin
          rw [rc_c p1 hin (by decide : 5 < 6)]
          rcases (show hc (sdh h z i) (sdi (sdz z (i + 1)) (hn h)) 5 = 0 ∨ hc (sdh h z i) (sdi (sdz z (i + 1)) (hn h)) 5 = 1 by omega) with e5 | e5
          · rw [e5, if_pos (show nI 0 = (0 : Int32) from rfl)]; exact fin 1 (by rw [e5]) (by decide)
          · rw [e5, if_neg (show ¬ nI 1 = (0 : Int32) by decide)]; exact fin 0 (by rw [e5]) (by decide)
      have L2 : ok (z_b (f_X11_passesAll N 1 1 τ) (fun _ t => lf_X11_seeds_44 N N (nI c) z 0 t)) (fun q t => q = nI (sm (fun i => hc (sdh h z c) i 2) (hn (sdh h z c))) ∧ RM t h ∧ sM τ t) := by
        refine ok_bm (e_keep (w := 1) (by omega) (by decide) hM h6) (fun _ t0 ht0 => ?_)
        obtain ⟨k1, k2, k3⟩ := ht0
        refine loop_i (W := fun n i s => ok (lf_X11_seeds_44 N n (nI c) (sdz z i) (nI i) s) (fun q t => q = nI (sm (fun i => hc (sdh h z c) i 2) (hn (sdh h z c))) ∧ RM t h ∧ sM τ t)) (I := fun i s => RM s (sdh h z i) ∧ fM t0 s) c ?_ ?_ N 0 t0 (Nat.zero_le _) (by omega) ⟨k2, fM.rf⟩
        · intro n s ⟨p1, p2⟩
          show ok (bf_X11_seeds_44 N _ _ _ _ s) _
          unfold bf_X11_seeds_44
          rw [t_le (by omega) (by omega), e_Mgrains (by omega) p1 (sdh_V v0 z hp0 c), z_b_some]
          refine ok_t (Nat.le_refl _) (ok_bm (e_back (w := 1) (by omega) (by decide) (k1.rows (p2.1 14 (by decide))) h6) (fun _ x hx => ok_ret ⟨rfl, hx.1, (k3.s.tr p2.s).tr hx.2.s⟩))
        · intro n i s hi ⟨p1, p2⟩ ih
          show ok (bf_X11_seeds_44 N _ _ _ _ s) _
          unfold bf_X11_seeds_44
          have hVi := sdh_V v0 z hp0 i
          have hix := sdi_lt (sdz z (i + 1)) hp0
          have hin : sdi (sdz z (i + 1)) (hn h) < hn (sdh h z i) := by rw [sdh_n]; exact hix
          obtain ⟨c0, c1, c2, c3, c4, c5⟩ := hVi.2.1 _ hin
          rw [t_le (by omega) (by omega), p1.1, sdh_n]
          refine ok_f (by omega) (ok_n (ok_g hnz (ok_n ?_)))
          rw [show sdz z i * (1103515245 : Int32) + (12345 : Int32) = sdz z (i + 1) from rfl, sd_ix _ hp0 h6]
          refine ok_g (z_in_n (show _ < 6 by omega) (by decide)) (ok_g (z_in_n (show _ < 6 by omega) (by decide)) (ok_m ?_))
          rw [nI_clamp (by omega), (RM.r p1).1 _ hin 5 (by decide), li1, pk_sub (by omega)]
          refine ok_bm (e_MgoesMinute (by omega) (RM_setc (k := 5) p1 hin (by decide)) (flp_V hVi hin)) (fun _ s' hs' => ?_)
          rw [nI_add]
          exact ih s' ⟨hs'.1, (p2.tr (fM.put (by decide) (by decide))).tr hs'.2⟩
      refine St.of2 L1 L2 (fun q s q' t h1 h2 => ⟨h2.1.trans h1.1.symm, zInv.mk ⟨hC.other h6 (by decide) (by decide) (by decide) h1.2, h2.2.1, v0, v1, v2⟩ (hQ.keep (h1.2.s (by decide)) h2.2.2)⟩)
  · rw [(e N σ τ).1, (e N σ τ).2, z_b_some, z_b_some, if_neg n40, if_neg n40, if_neg n40]; exact St_r4 hI
  · rw [(e N σ τ).1, (e N σ τ).2, z_b_some, z_b_some, if_neg n60, if_neg n60, if_neg n60]; exact St_r6 hI
end S6
