/-! One candle's numbers, what one is owed, how long a room is bright, when a candle ends, when all is clear. -/
section S4
variable {σ τ : zS} {N : Nat}
theorem e_dripsOf {j : Nat} {h : hS} (hR : RC σ j h) (hV : V0 h) {i : Nat} (hi : i < hn h) : f_X4_dripsOf N j (6 * j + i) σ = some (nI (h_d h i), σ) := by
  have hb := (h_b_lt hV hi).1
  have e1 := e_burnsOf (N := N) hR hV hi
  obtain ⟨-, hV2, hV3, -, -⟩ := hV
  obtain ⟨c0, c1, c2, c3, c4, c5⟩ := hV2 i hi
  unfold f_X4_dripsOf
  rw [e1, z_b_some, rc_c hR hi (by decide : 0 < 6), rc_c hR hi (by decide : 1 < 6), rc_c hR hi (by decide : 4 < 6), z_in_n c0 (by decide), z_g_t, z_in_n c4 (by decide), z_g_t, nI_clamp (by omega), nI_clamp (by omega), rc_d hR c4, e_drips N c0 c1 hb (hV3 _ c4), z_b_some]
  rfl
theorem e_worthOf {j : Nat} {h : hS} (hR : RC σ j h) (hV : V0 h) {i : Nat} (hi : i < hn h) : f_X4_worthOf N j (6 * j + i) σ = some (nI (h_w h i), σ) := by
  have hb := (h_b_lt hV hi).1
  have e1 := e_burnsOf (N := N) hR hV hi
  obtain ⟨-, hV2, hV3, -, -⟩ := hV
  obtain ⟨c0, c1, c2, c3, c4, c5⟩ := hV2 i hi
  unfold f_X4_worthOf
  rw [e1, z_b_some, rc_c hR hi (by decide : 0 < 6), rc_c hR hi (by decide : 1 < 6), rc_c hR hi (by decide : 4 < 6), z_in_n c0 (by decide), z_g_t, z_in_n c4 (by decide), z_g_t, nI_clamp (by omega), nI_clamp (by omega), rc_d hR c4, e_worth N c0 c1 hb (hV3 _ c4), z_b_some]
  rfl
theorem st_candle (hI : zInv σ τ) (v w : Int32) : St (f_X10_candle N v w σ) (f_X11_candle N v w τ) := by
  obtain ⟨⟨h, hH⟩, hQ⟩ := id hI
  obtain ⟨hC, hM, v0, v1, v2⟩ := id hH
  have h6 := v0.1
  unfold f_X10_candle f_X11_candle
  simp only [z_b_id]
  rcases v_cases v (n := hn h) (by omega) with hv | ⟨i, hi, rfl⟩
  · rw [ca_no hC hv, cm_no hM hv, z_b_some, z_b_some, if_pos p00, if_pos p00]
    exact St_r1 hI
  · obtain ⟨c0, c1, c2, c3, c4, c5⟩ := v0.2.1 i hi
    rw [ca_yes hC h6 hi, cm_yes hM h6 hi, z_b_some, z_b_some, if_neg n10, if_neg n10, z_in_n (show i < 6 by omega) (by decide)]
    simp only [z_g_t]
    rw [nI_clamp (by omega), rc_c hC hi (by decide : 0 < 6), rc_c hC hi (by decide : 1 < 6), rc_c hC hi (by decide : 2 < 6), rc_c hC hi (by decide : 3 < 6), rc_c hC hi (by decide : 4 < 6), rc_c hC hi (by decide : 5 < 6), e_burnsOf hC v0 hi, e_dripsOf hC v0 hi, e_worthOf hC v0 hi, e_MburnsOf (RM.r hM) v0 hi, e_MdripsOf (RM.r hM) v0 hi, e_McountsOf (RM.r hM) v0 hi, (RM.r hM).1 i hi 0 (by decide), (RM.r hM).1 i hi 1 (by decide), (RM.r hM).1 i hi 2 (by decide), (RM.r hM).1 i hi 3 (by decide), (RM.r hM).1 i hi 4 (by decide), (RM.r hM).1 i hi 5 (by decide)]
    refine St.ite (fun _ => St.ret hI) (fun _ => St.ite (fun _ => St.ret hI) (fun _ => St.ite (fun _ => St.ret hI) (fun _ => St.ite (fun _ => St.ret hI) (fun _ => St.ite (fun _ => St.ret hI) (fun _ => St.ite (fun _ => ?_) (fun _ => St.ite (fun _ => St.ret hI) (fun _ => St.ite (fun _ => St.ret hI) (fun _ => St.ite (fun _ => St.ret hI) (fun _ => St_r2 hI)))))))))
    rcases (show hc h i 5 = 0 ∨ hc h i 5 = 1 by omega) with e | e
    · rw [e, if_pos (show nI 0 = (0 : Int32) from rfl)]; exact St.ret hI
    · rw [e, if_neg (show ¬ nI 1 = (0 : Int32) by decide)]; exact St.ret hI
theorem sub4 (A B a b : Int32) : A - B + (a - b) = A + a - (B + b) := by grind
theorem st_owed (hN : 7 ≤ N) (hI : zInv σ τ) (v : Int32) : St (f_X10_owed N v σ) (f_X11_owed N v τ) := by
  obtain ⟨⟨h, hH⟩, hQ⟩ := id hI
  obtain ⟨hC, hM, v0, v1, v2⟩ := id hH
  unfold f_X10_owed f_X11_owed
  rcases v_cases v (n := 4) (by decide) with hv | ⟨a, ha, rfl⟩
  · rw [pe_no hv, pm_no hv, z_b_some, z_b_some, if_pos p00, if_pos p00, e_refuse (q := 1) (by decide) (by decide) (by decide), e_lower (q := 1) (by decide) (by decide), z_b_some, z_b_some]
    exact St.ret (ref_inv hI 1)
  · rw [pe_yes ha, pm_yes ha, z_b_some, z_b_some, if_neg n10, if_neg n10, e_owedTo (by omega) hC ha, z_b_some, e_owedBy (by omega) hC ha, z_b_some]
    have key : ∀ n i, i ≤ 4 → 4 - i < n → lf_X11_owed_17 N n (nI a) (nI (sm (fun p => hb h (4 * p + a)) i) - nI (sm (fun p => hb h (4 * a + p)) i)) (nI i) τ = some (nI (sm (fun p => hb h (4 * p + a)) 4) - nI (sm (fun p => hb h (4 * a + p)) 4), τ) := by
      intro n
      induction n with
      | zero => intro i _ h; omega
      | succ n ih =>
        intro i hi hn
        show bf_X11_owed_17 N _ _ _ _ τ = _
        unfold bf_X11_owed_17 z_n
        rw [li4, t_le (by omega) (by omega)]
        by_cases e : i = 4
        · subst e; rw [if_pos (Nat.le_refl _)]
        · rw [if_neg (by omega), pk_mul, nI_add, pk_mul, nI_add, z_in_n (show 4 * i + a < 16 by omega) (by decide), z_g_t, z_in_n (show 4 * a + i < 16 by omega) (by decide), z_g_t, nI_clamp (by omega), nI_clamp (by omega), (RM.r hM).2.2 _ (by omega), (RM.r hM).2.2 _ (by omega), sub4, nI_add, nI_add, li1, nI_add]
          exact ih (i + 1) (by omega) (by omega)
    have k0 := key N 0 (by decide) (by omega)
    rw [show nI (sm (fun p => hb h (4 * p + a)) 0) - nI (sm (fun p => hb h (4 * a + p)) 0) = (0 : Int32) from (by decide : (nI 0 - nI 0 : Int32) = 0)] at k0
    rw [show lf_X11_owed_17 N N (nI a) 0 0 τ = _ from k0]
    exact St.ret hI
-- brightness only goes
theorem bit_burn1 {h : hS} {r i k : Nat} (hb : bit (burn1 h i) r k = true) : bit h r k = true := by
  unfold burn1 at hb
  split at hb
  · rename_i hl
    unfold bit at hb ⊢
    have hb := of_decide_eq_true hb
    refine decide_eq_true ?_
    have e1 : hc (burn0 h i) = un (hc h) i (h_c h i) := rfl
    rw [e1] at hb
    by_cases e : k = i
    · subst e
      rw [un_s] at hb
      unfold h_c at hb
      rw [un_n _ _ (by decide), un_n _ _ (by decide)] at hb
      exact ⟨hb.1, hl.1, hl.2⟩
    · rw [un_n _ _ e] at hb; exact hb
  · exact hb
theorem brt_burn1 {h : hS} {r i : Nat} : ∀ n, brt (burn1 h i) r n = true → brt h r n = true := by
  intro n
  induction n with
  | zero => intro h; exact h
  | succ n ih =>
    intro hb
    have hb : (brt (burn1 h i) r n || bit (burn1 h i) r n) = true := hb
    show (brt h r n || bit h r n) = true
    rw [Bool.or_eq_true] at hb ⊢
    rcases hb with q | q
    · exact Or.inl (ih q)
    · exact Or.inr (bit_burn1 q)
theorem brt_burnN {h : hS} {r n : Nat} : ∀ i, brt (burnN h i) r n = true → brt h r n = true := by
  intro i
  induction i with
  | zero => intro h; exact h
  | succ i ih => intro hb; exact ih (brt_burn1 n hb)
theorem brt_tick (h : hS) (r : Nat) : ∀ n, brt (tick h) r n = brt h r n := by
  intro n
  induction n with
  | zero => rfl
  | succ n ih =>
    show (brt (tick h) r n || bit (tick h) r n) = (brt h r n || bit h r n)
    rw [ih]; rfl
theorem brn_mint {h : hS} {r : Nat} (hb : brn (mint h) r = true) : brn h r = true := by
  unfold brn at *
  rw [mint_n] at hb
  unfold mint at hb
  rw [brt_tick] at hb
  exact brt_burnN _ hb
theorem brn_mins {h : hS} {r a b : Nat} (hab : a ≤ b) (hb : brn (mins h b) r = true) : brn (mins h a) r = true := by
  induction b with
  | zero => rw [show a = 0 by omega]; exact hb
  | succ b ih =>
    by_cases e : a = b + 1
    · subst e; exact hb
    · exact ih (by omega) (brn_mint hb)
def rdn (h : hS) (r : Nat) : Nat → Nat := sm (fun k => bN (brn (mins h k) r))
theorem rdn_all {h : hS} {r m : Nat} (hb : ∀ k, k < m → brn (mins h k) r = true) : rdn h r m = m := by
  induction m with
  | zero => rfl
  | succ m ih =>
    show rdn h r m + bN (brn (mins h m) r) = m + 1
    rw [ih (fun k hk => hb k (by omega)), hb m (by omega)]; rfl
theorem rdn_dark {h : hS} {r m n : Nat} (hmn : m ≤ n) (hd : brn (mins h m) r = false) : rdn h r n = rdn h r m := by
  induction n with
  | zero => rw [show m = 0 by omega]
  | succ n ih =>
    by_cases e : m = n + 1
    · subst e; rfl
    · show rdn h r n + bN (brn (mins h n) r) = _
      have hf : brn (mins h n) r = false := by
        cases hq : brn (mins h n) r with
        | false => rfl
        | true => rw [brn_mins (a := m) (by omega) hq] at hd; exact absurd hd (by decide)
      rw [ih (by omega), hf]; rfl
theorem st_reads (hN : 2000 ≤ N) (hI : zInv σ τ) (v w : Int32) : St (f_X10_reads N v w σ) (f_X11_reads N v w τ) := by
  obtain ⟨⟨h, hH⟩, hQ⟩ := id hI
  obtain ⟨hC, hM, v0, v1, v2⟩ := id hH
  have h6 := v0.1
  unfold f_X10_reads f_X11_reads bf_X11_reads_19
  simp only [z_b_id]
  rcases v_cases v (n := 4) (by decide) with hv | ⟨r, hr4, rfl⟩
  · rw [pe_no hv, pm_no hv, z_b_some, z_b_some, if_pos p00, if_pos p00, if_neg n1_0]
    exact St_r1 hI
  · rw [pe_yes hr4, pm_yes hr4, z_b_some, z_b_some, if_neg n10, if_neg n10]
    rcases ou_cases w 0 300 (lo := 0) (hi := 300) rfl rfl (by decide) (by decide) with ⟨c, -, hc9, rfl, e⟩ | ⟨-, e⟩ | ⟨-, -, e⟩
    · rw [(e N σ τ).1, (e N σ τ).2, z_b_some, z_b_some, if_pos p00, if_pos p00]
      have L1 : ok (z_b (f_X4_become N 1 0 σ) (fun _ t => lf_X10_reads_46 N N (nI r) (nI c) 0 t)) (fun q s => q = nI (rdn h r c) ∧ fC 1 σ s) := by
        refine ok_bm (e_become (j := 1) (j1 := 0) (by omega) (by decide) (by decide) (by decide) hC v0) (fun _ s0 hs0 => ?_)
        refine cnt_loop (Q := fun o => ok o (fun q s => q = nI (rdn h r c) ∧ fC 1 σ s)) (F := fun n v s => lf_X10_reads_46 N n (nI r) (nI c) v s) (I := fun i s => RC s 1 (mins h i) ∧ fC 1 σ s ∧ ∀ k, k < i → brn (mins h k) r = true) (e := c) ?_ ?_ N 0 s0 (Nat.zero_le _) (by omega) ⟨hs0.1, hs0.2, fun k hk => by omega⟩
        · intro n s ⟨p1, p2, p3⟩
          show ok (bf_X10_reads_46 N _ _ _ _ s) _
          unfold bf_X10_reads_46
          rw [t_le (by omega) (by omega)]
          exact ok_t (Nat.le_refl _) (ok_ret ⟨by rw [rdn_all p3], p2⟩)
        · intro n i s hi ⟨p1, p2, p3⟩ ih
          show ok (bf_X10_reads_46 N _ _ _ _ s) _
          unfold bf_X10_reads_46
          rw [t_le (by omega) (by omega), e_isBright (by omega) p1 (mins_V v0 i) hr4, z_b_some]
          refine ok_f (by omega) ?_
          cases hb : brn (mins h i) r with
          | false =>
            refine ok_t rfl (ok_ret ⟨?_, p2⟩)
            rw [rdn_dark (m := i) (by omega) hb, rdn_all p3]
          | true =>
            refine ok_f (by decide) (ok_bm (e_passMinute (by omega) p1 (mins_V v0 i) (by decide)) (fun _ s' hs' => ?_))
            rw [li1, nI_add]
            refine ih s' ⟨hs'.1, p2.tr hs'.2, fun k hk => ?_⟩
            by_cases e : k = i
            · subst e; exact hb
            · exact p3 k (by omega)
      have L2 : ok (z_b (f_X11_passesAll N 1 1 τ) (fun _ t => lf_X11_reads_42 N N (nI r) (nI c) 0 0 t)) (fun q t => q = nI (rdn h r c) ∧ RM t h ∧ sM τ t) := by
        refine ok_bm (e_keep (w := 1) (by omega) (by decide) hM h6) (fun _ t0 ht0 => ?_)
        obtain ⟨k1, k2, k3⟩ := ht0
        refine loop_i (W := fun n i s => ok (lf_X11_reads_42 N n (nI r) (nI c) (nI (rdn h r i)) (nI i) s) (fun q t => q = nI (rdn h r c) ∧ RM t h ∧ sM τ t)) (I := fun i s => RM s (mins h i) ∧ fM t0 s) c ?_ ?_ N 0 t0 (Nat.zero_le _) (by omega) ⟨k2, fM.rf⟩
        · intro n s ⟨p1, p2⟩
          show ok (bf_X11_reads_42 N _ _ _ _ _ s) _
          unfold bf_X11_reads_42
          rw [t_le (by omega) (by omega)]
          refine ok_t (Nat.le_refl _) (ok_bm (e_back (w := 1) (by omega) (by decide) (k1.rows (p2.1 14 (by decide))) h6) (fun _ x hx => ok_ret ⟨rfl, hx.1, (k3.s.tr p2.s).tr hx.2.s⟩))
        · intro n i s hi ⟨p1, p2⟩ ih
          show ok (bf_X11_reads_42 N _ _ _ _ _ s) _
          unfold bf_X11_reads_42 bf_X11_reads_63
          rw [t_le (by omega) (by omega), e_MisBright (by omega) p1 (mins_V v0 i) hr4, z_b_some]
          refine ok_f (by omega) ?_
          have go : ∀ q : Nat, q = bN (brn (mins h i) r) → ok (z_n (nI (rdn h r i) + nI q) (fun z => z_b (f_X11_goesMinute N s) (fun _ t => lf_X11_reads_42 N n (nI r) (nI c) z (nI i + 1) t))) (fun q t => q = nI (rdn h r c) ∧ RM t h ∧ sM τ t) := by
            intro q hq
            refine ok_n (ok_bm (e_MgoesMinute (by omega) p1 (mins_V v0 i)) (fun _ s' hs' => ?_))
            rw [nI_add, li1, nI_add, hq]
            exact ih s' ⟨hs'.1, p2.tr hs'.2⟩
          cases hb : brn (mins h i) r with
          | false => exact ok_t rfl (go 0 (by rw [hb]; rfl))
          | true => exact ok_f (by decide) (go 1 (by rw [hb]; rfl))
      refine St.of2 L1 L2 (fun q s q' t h1 h2 => ⟨h2.1.trans h1.1.symm, zInv.mk ⟨hC.other h6 (by decide) (by decide) (by decide) h1.2, h2.2.1, v0, v1, v2⟩ (hQ.keep (h1.2.s (by decide)) h2.2.2)⟩)
    · rw [(e N σ τ).1, (e N σ τ).2, z_b_some, z_b_some, if_neg n40, if_neg n40]; exact St_r4 hI
    · rw [(e N σ τ).1, (e N σ τ).2, z_b_some, z_b_some, if_neg n60, if_neg n60]; exact St_r6 hI
/-- the first of 0 .. 999 with P, or -9 -/
def FA (P : Nat → Prop) (r : Int32) : Prop := (∃ m, m ≤ 999 ∧ r = nI m ∧ P m ∧ ∀ k, k < m → ¬ P k) ∨ (r = -9 ∧ ∀ k, k ≤ 999 → ¬ P k)
theorem FA_u {P : Nat → Prop} {r q : Int32} (h1 : FA P r) (h2 : FA P q) : q = r := by
  rcases h1 with ⟨m, a1, a2, a3, a4⟩ | ⟨a1, a2⟩ <;> rcases h2 with ⟨m', b1, b2, b3, b4⟩ | ⟨b1, b2⟩
  · have : m = m' := by
      rcases Nat.lt_trichotomy m m' with h | h | h
      · exact absurd a3 (b4 m h)
      · exact h
      · exact absurd b3 (a4 m' h)
    rw [a2, b2, this]
  · exact absurd a3 (b2 m a1)
  · exact absurd b3 (a2 m' b1)
  · rw [a1, b1]
/-- as cnt_loop, with the fuel that is left -/
theorem cnt_loopf {Q : zA → Prop} {F : Nat → Int32 → zS → zA} {I : Nat → zS → Prop} {e : Nat} (hend : ∀ n σ, I e σ → Q (F (n + 1) (nI e) σ)) (hstep : ∀ n i σ, i < e → 0 < n → I i σ → (∀ σ', I (i + 1) σ' → Q (F n (nI (i + 1)) σ')) → Q (F (n + 1) (nI i) σ)) : ∀ n i σ, i ≤ e → e - i < n → I i σ → Q (F n (nI i) σ) := by
  intro n
  induction n with
  | zero => intro i σ _ h; omega
  | succ n ih =>
    intro i σ hi hn hI
    by_cases h : i = e
    · subst h; exact hend n σ hI
    · exact hstep n i σ (by omega) (by omega) hI (fun σ' h' => ih (i + 1) σ' (by omega) (by omega) h')
theorem burn1_keep {h : hS} {i k : Nat} (hk : hc h k 5 = 0) : hc (burn1 h i) k = hc h k := by
  unfold burn1
  split
  · rename_i hl
    show un (hc h) i (h_c h i) k = hc h k
    rw [un_n _ _ (fun e => by subst e; omega)]
  · rfl
theorem burnN_keep {h : hS} {k : Nat} (hk : hc h k 5 = 0) : ∀ i, hc (burnN h i) k = hc h k := by
  intro i
  induction i with
  | zero => rfl
  | succ i ih =>
    show hc (burn1 (burnN h i) i) k = _
    rw [burn1_keep (by rw [ih]; exact hk), ih]
theorem mins_keep {h : hS} {k : Nat} (hk : hc h k 5 = 0) : ∀ n, hc (mins h n) k = hc h k := by
  intro n
  induction n with
  | zero => rfl
  | succ n ih =>
    show hc (burnN (mins h n) _) k = _
    rw [burnN_keep (by rw [ih]; exact hk), ih]
theorem st_ends (hN : 2000 ≤ N) (hI : zInv σ τ) (v : Int32) : St (f_X10_ends N v σ) (f_X11_ends N v τ) := by
  obtain ⟨⟨h, hH⟩, hQ⟩ := id hI
  obtain ⟨hC, hM, v0, v1, v2⟩ := id hH
  have h6 := v0.1
  unfold f_X10_ends f_X11_ends
  simp only [z_b_id]
  rcases v_cases v (n := hn h) (by omega) with hv | ⟨i, hi, rfl⟩
  · rw [ca_no hC hv, cm_no hM hv, z_b_some, z_b_some, if_pos p00, if_pos p00]
    exact St_r1 hI
  · rw [ca_yes hC h6 hi, cm_yes hM h6 hi, z_b_some, z_b_some, if_neg n10, if_neg n10, z_in_n (show i < 6 by omega) (by decide)]
    simp only [z_g_t]
    rw [nI_clamp (by omega)]
    have hin : ∀ k, i < hn (mins h k) := fun k => by rw [mins_n]; exact hi
    have L1 : ok (z_b (f_X4_become N 1 0 σ) (fun _ t => lf_X10_ends_37 N N (6 * 1 + i) 0 t)) (fun q s => FA (fun k => hc (mins h k) i 2 = 0) q ∧ fC 1 σ s) := by
      refine ok_bm (e_become (j := 1) (j1 := 0) (by omega) (by decide) (by decide) (by decide) hC v0) (fun _ s0 hs0 => ?_)
      refine cnt_loop (Q := fun o => ok o (fun q s => FA (fun k => hc (mins h k) i 2 = 0) q ∧ fC 1 σ s)) (F := fun n v s => lf_X10_ends_37 N n (6 * 1 + i) v s) (I := fun m s => RC s 1 (mins h m) ∧ fC 1 σ s ∧ ∀ k, k < m → ¬ hc (mins h k) i 2 = 0) (e := 1000) ?_ ?_ N 0 s0 (Nat.zero_le _) (by omega) ⟨hs0.1, hs0.2, fun k hk => by omega⟩
      · intro n s ⟨p1, p2, p3⟩
        show ok (bf_X10_ends_37 N _ _ _ s) _
        unfold bf_X10_ends_37
        rw [show (999 : Int32) = nI 999 from rfl, t_lt (by omega) (by omega)]
        exact ok_t (by decide) (ok_ret ⟨Or.inr ⟨rfl, fun k hk => p3 k (by omega)⟩, p2⟩)
      · intro n m s hm ⟨p1, p2, p3⟩ ih
        obtain ⟨c0, c1, c2, c3, c4, c5⟩ := (mins_V v0 m).2.1 i (hin m)
        show ok (bf_X10_ends_37 N _ _ _ s) _
        unfold bf_X10_ends_37
        rw [show (999 : Int32) = nI 999 from rfl, t_lt (by omega) (by omega), rc_c p1 (hin m) (by decide : 2 < 6), rc_c p1 (hin m) (by decide : 5 < 6), li0, t_eq (by omega) (by omega), t_eq (by omega) (by omega)]
        refine ok_f (by omega) (ok_if (fun hz => ok_ret ⟨Or.inl ⟨m, by omega, rfl, hz, p3⟩, p2⟩) (fun hz => ok_if (fun hl => ok_ret ⟨Or.inr ⟨rfl, fun k hk => ?_⟩, p2⟩) (fun hl => ?_)))
        · by_cases e : k < m
          · exact p3 k e
          · have := mins_keep (h := mins h m) hl (k - m)
            rw [← mins_add, show m + (k - m) = k by omega] at this
            show ¬ hc (mins h k) i 2 = 0
            rw [this]; exact hz
        · refine ok_bm (e_passMinute (by omega) p1 (mins_V v0 m) (by decide)) (fun _ s' hs' => ?_)
          rw [li1, nI_add]
          refine ih s' ⟨hs'.1, p2.tr hs'.2, fun k hk => ?_⟩
          by_cases e : k = m
          · subst e; exact hz
          · exact p3 k (by omega)
    have L2 : ok (z_b (f_X11_passesAll N 1 1 τ) (fun _ t => lf_X11_ends_25 N N (nI i) (-9) 0 t)) (fun q t => FA (fun k => hc (mins h k) i 2 = 0) q ∧ RM t h ∧ sM τ t) := by
      refine ok_bm (e_keep (w := 1) (by omega) (by decide) hM h6) (fun _ t0 ht0 => ?_)
      obtain ⟨k1, k2, k3⟩ := ht0
      have fin : ∀ (s : zS) (q : Int32), fM t0 s → FA (fun k => hc (mins h k) i 2 = 0) q → ok (bf_X11_ends_57 N q s) (fun q t => FA (fun k => hc (mins h k) i 2 = 0) q ∧ RM t h ∧ sM τ t) := by
        intro s q f hq
        unfold bf_X11_ends_57
        exact ok_bm (e_back (w := 1) (by omega) (by decide) (k1.rows (f.1 14 (by decide))) h6) (fun _ x hx => ok_ret ⟨hq, hx.1, (k3.s.tr f.s).tr hx.2.s⟩)
      refine cnt_loopf (Q := fun o => ok o (fun q t => FA (fun k => hc (mins h k) i 2 = 0) q ∧ RM t h ∧ sM τ t)) (F := fun n v s => lf_X11_ends_25 N n (nI i) (-9) v s) (I := fun m s => RM s (mins h m) ∧ fM t0 s ∧ ∀ k, k < m → ¬ hc (mins h k) i 2 = 0) (e := 1000) ?_ ?_ N 0 t0 (Nat.zero_le _) (by omega) ⟨k2, fM.rf, fun k hk => by omega⟩
      · intro n s ⟨p1, p2, p3⟩
        show ok (bf_X11_ends_25 N _ _ _ _ s) _
        unfold bf_X11_ends_25
        rw [show (999 : Int32) = nI 999 from rfl, t_lt (by omega) (by omega)]
        exact ok_t (by decide) (fin s _ p2 (Or.inr ⟨rfl, fun k hk => p3 k (by omega)⟩))
      · intro n m s hm hn0 ⟨p1, p2, p3⟩ ih
        obtain ⟨c0, c1, c2, c3, c4, c5⟩ := (mins_V v0 m).2.1 i (hin m)
        show ok (bf_X11_ends_25 N _ _ _ _ s) _
        unfold bf_X11_ends_25 bf_X11_ends_47
        rw [z_in_n (show i < 6 by omega) (by decide), z_g_t, nI_clamp (by omega), (RM.r p1).1 i (hin m) 2 (by decide)]
        refine ok_f (show ¬ (999 : Int32) < nI m from nI_nlt (a := 999) (by omega) (by decide)) (ok_f (by decide) ?_)
        refine ok_if (fun hz => ?_) (fun hz => ?_)
        · have hz : hc (mins h m) i 2 = 0 := (nI_eq (b := 0) (by omega) (by decide)).mp hz
          refine ok_bm (e_MgoesMinute (by omega) p1 (mins_V v0 m)) (fun _ s' hs' => ?_)
          obtain ⟨n', rfl⟩ : ∃ n', n = n' + 1 := ⟨n - 1, by omega⟩
          show ok (bf_X11_ends_25 N _ _ _ _ s') _
          unfold bf_X11_ends_25
          have hf := fin s' (nI m) (p2.tr hs'.2) (Or.inl ⟨m, by omega, rfl, hz, p3⟩)
          exact ok_if (fun _ => hf) (fun _ => ok_t (show (0 : Int32) ≤ nI m from nI_pos' (by omega)) hf)
        · refine ok_bm (e_MgoesMinute (by omega) p1 (mins_V v0 m)) (fun _ s' hs' => ?_)
          rw [li1, nI_add]
          refine ih s' ⟨hs'.1, p2.tr hs'.2, fun k hk => ?_⟩
          by_cases e : k = m
          · subst e; intro q; exact hz (by rw [q]; rfl)
          · exact p3 k (by omega)
    exact St.of2 L1 L2 (fun q s q' t h1 h2 => ⟨FA_u h1.1 h2.1, zInv.mk ⟨hC.other h6 (by decide) (by decide) (by decide) h1.2, h2.2.1, v0, v1, v2⟩ (hQ.keep (h1.2.s (by decide)) h2.2.2)⟩)
theorem sm_lt {f : Nat → Nat} {n m : Nat} (h : ∀ k, k < n → f k < m) : sm f n ≤ n * m := by
  induction n with
  | zero => exact Nat.zero_le _
  | succ n ih =>
    have h1 := ih (fun k hk => h k (by omega))
    have h2 := h n (by omega)
    show sm f n + f n ≤ (n + 1) * m
    rw [Nat.succ_mul]
    omega
theorem st_clearBy (hN : 2000 ≤ N) (hI : zInv σ τ) : St (f_X10_clearBy N σ) (f_X11_clearBy N τ) := by
  obtain ⟨⟨h, hH⟩, hQ⟩ := id hI
  obtain ⟨hC, hM, v0, v1, v2⟩ := id hH
  have h6 := v0.1
  unfold f_X10_clearBy f_X11_clearBy
  have hdb : ∀ k, sm (hb (mins h k)) 16 ≤ 16000 := fun k => sm_lt (m := 1000) (mins_V v0 k).2.2.2.1
  have hlt : ∀ k, sm (fun i => hc (mins h k) i 5) (hn (mins h k)) ≤ 12 := fun k => by
    have h1 := sm_lt (f := fun i => hc (mins h k) i 5) (n := hn (mins h k)) (m := 2) (fun i hi => ((mins_V v0 k).2.1 i hi).2.2.2.2.2)
    have := (mins_V v0 k).1
    omega
  have L1 : ok (z_b (f_X4_become N 1 0 σ) (fun _ t => lf_X10_clearBy_13 N N 0 t)) (fun q s => FA (fun k => sm (hb (mins h k)) 16 = 0) q ∧ fC 1 σ s) := by
    refine ok_bm (e_become (j := 1) (j1 := 0) (by omega) (by decide) (by decide) (by decide) hC v0) (fun _ s0 hs0 => ?_)
    refine cnt_loop (Q := fun o => ok o (fun q s => FA (fun k => sm (hb (mins h k)) 16 = 0) q ∧ fC 1 σ s)) (F := fun n v s => lf_X10_clearBy_13 N n v s) (I := fun m s => RC s 1 (mins h m) ∧ fC 1 σ s ∧ ∀ k, k < m → ¬ sm (hb (mins h k)) 16 = 0) (e := 1000) ?_ ?_ N 0 s0 (Nat.zero_le _) (by omega) ⟨hs0.1, hs0.2, fun k hk => by omega⟩
    · intro n s ⟨p1, p2, p3⟩
      show ok (bf_X10_clearBy_13 N _ _ s) _
      unfold bf_X10_clearBy_13
      rw [show (999 : Int32) = nI 999 from rfl, t_lt (by omega) (by omega)]
      exact ok_t (by decide) (ok_ret ⟨Or.inr ⟨rfl, fun k hk => p3 k (by omega)⟩, p2⟩)
    · intro n m s hm ⟨p1, p2, p3⟩ ih
      have hd1 := hdb m
      have hl1 := hlt m
      show ok (bf_X10_clearBy_13 N _ _ s) _
      unfold bf_X10_clearBy_13
      rw [show (999 : Int32) = nI 999 from rfl, t_lt (by omega) (by omega), e_allDebts (by omega) p1, z_b_some, e_litCandles (by omega) p1 (mins_V v0 m), z_b_some, li0, t_eq (by omega) (by omega), t_eq (by omega) (by omega)]
      refine ok_f (by omega) (ok_if (fun hz => ok_ret ⟨Or.inl ⟨m, by omega, rfl, hz, p3⟩, p2⟩) (fun hz => ok_if (fun hl => ok_ret ⟨Or.inr ⟨rfl, fun k hk => ?_⟩, p2⟩) (fun hl => ?_)))
      · by_cases e : k < m
        · exact p3 k e
        · have := mins_off (h := mins h m) (sm_le1 hl) (k - m)
          rw [← mins_add, show m + (k - m) = k by omega] at this
          show ¬ sm (hb (mins h k)) 16 = 0
          rw [this.2.2.2]; exact hz
      · refine ok_bm (e_passMinute (by omega) p1 (mins_V v0 m) (by decide)) (fun _ s' hs' => ?_)
        rw [li1, nI_add]
        refine ih s' ⟨hs'.1, p2.tr hs'.2, fun k hk => ?_⟩
        by_cases e : k = m
        · subst e; exact hz
        · exact p3 k (by omega)
  have L2 : ok (z_b (f_X11_passesAll N 1 1 τ) (fun _ t => lf_X11_clearBy_11 N N (-9) 0 t)) (fun q t => FA (fun k => sm (hb (mins h k)) 16 = 0) q ∧ RM t h ∧ sM τ t) := by
    refine ok_bm (e_keep (w := 1) (by omega) (by decide) hM h6) (fun _ t0 ht0 => ?_)
    obtain ⟨k1, k2, k3⟩ := ht0
    have fin : ∀ (s : zS) (q : Int32), fM t0 s → FA (fun k => sm (hb (mins h k)) 16 = 0) q → ok (bf_X11_clearBy_41 N q s) (fun q t => FA (fun k => sm (hb (mins h k)) 16 = 0) q ∧ RM t h ∧ sM τ t) := by
      intro s q f hq
      unfold bf_X11_clearBy_41
      exact ok_bm (e_back (w := 1) (by omega) (by decide) (k1.rows (f.1 14 (by decide))) h6) (fun _ x hx => ok_ret ⟨hq, hx.1, (k3.s.tr f.s).tr hx.2.s⟩)
    refine cnt_loopf (Q := fun o => ok o (fun q t => FA (fun k => sm (hb (mins h k)) 16 = 0) q ∧ RM t h ∧ sM τ t)) (F := fun n v s => lf_X11_clearBy_11 N n (-9) v s) (I := fun m s => RM s (mins h m) ∧ fM t0 s ∧ ∀ k, k < m → ¬ sm (hb (mins h k)) 16 = 0) (e := 1000) ?_ ?_ N 0 t0 (Nat.zero_le _) (by omega) ⟨k2, fM.rf, fun k hk => by omega⟩
    · intro n s ⟨p1, p2, p3⟩
      show ok (bf_X11_clearBy_11 N _ _ _ s) _
      unfold bf_X11_clearBy_11
      rw [show (999 : Int32) = nI 999 from rfl, t_lt (by omega) (by omega)]
      exact ok_t (by decide) (fin s _ p2 (Or.inr ⟨rfl, fun k hk => p3 k (by omega)⟩))
    · intro n m s hm hn0 ⟨p1, p2, p3⟩ ih
      have hd1 := hdb m
      show ok (bf_X11_clearBy_11 N _ _ _ s) _
      unfold bf_X11_clearBy_11 bf_X11_clearBy_31
      rw [e_Mdebts (by omega) p1, z_b_some]
      refine ok_f (show ¬ (999 : Int32) < nI m from nI_nlt (a := 999) (by omega) (by decide)) (ok_f (by decide) ?_)
      refine ok_if (fun hz => ?_) (fun hz => ?_)
      · have hz : sm (hb (mins h m)) 16 = 0 := (nI_eq (b := 0) (by omega) (by decide)).mp hz
        refine ok_bm (e_MgoesMinute (by omega) p1 (mins_V v0 m)) (fun _ s' hs' => ?_)
        obtain ⟨n', rfl⟩ : ∃ n', n = n' + 1 := ⟨n - 1, by omega⟩
        show ok (bf_X11_clearBy_11 N _ _ _ s') _
        unfold bf_X11_clearBy_11
        have hf := fin s' (nI m) (p2.tr hs'.2) (Or.inl ⟨m, by omega, rfl, hz, p3⟩)
        exact ok_if (fun _ => hf) (fun _ => ok_t (show (0 : Int32) ≤ nI m from nI_pos' (by omega)) hf)
      · refine ok_bm (e_MgoesMinute (by omega) p1 (mins_V v0 m)) (fun _ s' hs' => ?_)
        rw [li1, nI_add]
        refine ih s' ⟨hs'.1, p2.tr hs'.2, fun k hk => ?_⟩
        by_cases e : k = m
        · subst e; intro q; exact hz (by rw [q]; rfl)
        · exact p3 k (by omega)
  exact St.of2 L1 L2 (fun q s q' t h1 h2 => ⟨FA_u h1.1 h2.1, zInv.mk ⟨hC.other h6 (by decide) (by decide) (by decide) h1.2, h2.2.1, v0, v1, v2⟩ (hQ.keep (h1.2.s (by decide)) h2.2.2)⟩)
end S4
