/-! Sums, bright rooms, a house that becomes another. -/
def sm (f : Nat → Nat) : Nat → Nat
  | 0 => 0
  | n + 1 => sm f n + f n
theorem sum_loop {F : Nat → Int32 → Int32 → zA} {f : Nat → Nat} {e : Nat} {R : zA} (hend : ∀ n, F (n + 1) (nI (sm f e)) (nI e) = R) (hstep : ∀ n i, i < e → F (n + 1) (nI (sm f i)) (nI i) = F n (nI (sm f (i + 1))) (nI (i + 1))) : ∀ n i, i ≤ e → e - i < n → F n (nI (sm f i)) (nI i) = R := by
  intro n
  induction n with
  | zero => intro i _ h; omega
  | succ n ih =>
    intro i hi hn
    by_cases h : i = e
    · subst h; exact hend n
    · rw [hstep n i (by omega)]; exact ih (i + 1) (by omega) (by omega)
def bit (h : hS) (r i : Nat) : Bool := decide (hc h i 4 = r ∧ hc h i 5 = 1 ∧ 0 < hc h i 2)
def brt (h : hS) (r : Nat) : Nat → Bool
  | 0 => false
  | i + 1 => brt h r i || bit h r i
abbrev brn (h : hS) (r : Nat) : Bool := brt h r (hn h)
def bN (b : Bool) : Nat := if b = true then 1 else 0
theorem brt_mono {h : hS} {r i j : Nat} (hij : i ≤ j) (hb : brt h r i = true) : brt h r j = true := by
  induction j with
  | zero => rw [show i = 0 by omega] at hb; exact hb
  | succ j ih =>
    by_cases e : i = j + 1
    · subst e; exact hb
    · show (brt h r j || bit h r j) = true
      rw [ih (by omega)]; rfl
section SC
variable {σ : zS} {j : Nat} {h : hS} {N : Nat}
theorem e_allGrains (hN : 7 ≤ N) (hR : RC σ j h) (hV : V0 h) : f_X4_allGrains N j σ = some (nI (sm (fun i => hc h i 2) (hn h)), σ) := by
  have h6 := hV.1
  unfold f_X4_allGrains
  refine sum_loop (F := fun n a v => lf_X4_allGrains_4 N n j a v σ) (f := fun i => hc h i 2) (e := hn h) (fun n => ?_) (fun n i hi => ?_) N 0 (Nat.zero_le _) (by omega)
  · show bf_X4_allGrains_4 N _ j _ _ σ = _
    unfold bf_X4_allGrains_4
    rw [hR.1, t_le (by omega) (by omega), if_pos (Nat.le_refl _)]
  · show bf_X4_allGrains_4 N _ j _ _ σ = _
    unfold bf_X4_allGrains_4 z_n
    rw [hR.1, t_le (by omega) (by omega), if_neg (by omega), z_in_n (show i < 6 by omega) (by decide), z_g_t, nI_clamp (by omega), rc_c hR hi (by decide), nI_add, li1, nI_add]
    rfl
theorem e_allDebts (hN : 17 ≤ N) (hR : RC σ j h) : f_X4_allDebts N j σ = some (nI (sm (hb h) 16), σ) := by
  unfold f_X4_allDebts
  refine sum_loop (F := fun n a v => lf_X4_allDebts_4 N n j a v σ) (f := hb h) (e := 16) (fun n => ?_) (fun n i hi => ?_) N 0 (Nat.zero_le _) (by omega)
  · show bf_X4_allDebts_4 N _ j _ _ σ = _
    unfold bf_X4_allDebts_4
    rw [li16, t_le (by omega) (by omega), if_pos (Nat.le_refl _)]
  · show bf_X4_allDebts_4 N _ j _ _ σ = _
    unfold bf_X4_allDebts_4 z_n
    rw [li16, t_le (by omega) (by omega), if_neg (by omega), z_in_n hi (by decide), z_g_t, nI_clamp (by omega), rc_b hR hi, nI_add, li1, nI_add]
    rfl
theorem e_litCandles (hN : 7 ≤ N) (hR : RC σ j h) (hV : V0 h) : f_X4_litCandles N j σ = some (nI (sm (fun i => hc h i 5) (hn h)), σ) := by
  obtain ⟨h6, hV2, -⟩ := hV
  unfold f_X4_litCandles
  refine sum_loop (F := fun n a v => lf_X4_litCandles_4 N n j a v σ) (f := fun i => hc h i 5) (e := hn h) (fun n => ?_) (fun n i hi => ?_) N 0 (Nat.zero_le _) (by omega)
  · show bf_X4_litCandles_4 N _ j _ _ σ = _
    unfold bf_X4_litCandles_4
    rw [hR.1, t_le (by omega) (by omega), if_pos (Nat.le_refl _)]
  · obtain ⟨c0, c1, c2, c3, c4, c5⟩ := hV2 i hi
    show bf_X4_litCandles_4 N _ j _ _ σ = _
    unfold bf_X4_litCandles_4 z_n
    rw [hR.1, t_le (by omega) (by omega), if_neg (by omega), z_in_n (show i < 6 by omega) (by decide), z_g_t, nI_clamp (by omega), rc_c hR hi (by decide), li0, li1, t_eq (by omega) (by omega), nI_add, nI_add, nI_add]
    by_cases h5 : hc h i 5 = 0
    · rw [if_pos h5]
      show lf_X4_litCandles_4 N n j (nI (sm _ i + 0)) _ σ = lf_X4_litCandles_4 N n j (nI (sm _ i + hc h i 5)) _ σ
      rw [h5]
    · rw [if_neg h5]
      show lf_X4_litCandles_4 N n j (nI (sm _ i + 1)) _ σ = lf_X4_litCandles_4 N n j (nI (sm _ i + hc h i 5)) _ σ
      rw [show hc h i 5 = 1 by omega]
theorem e_owedTo (hN : 5 ≤ N) (hR : RC σ j h) {a : Nat} (ha : a < 4) : f_X4_owedTo N j (nI a) σ = some (nI (sm (fun p => hb h (4 * p + a)) 4), σ) := by
  unfold f_X4_owedTo
  refine sum_loop (F := fun n x v => lf_X4_owedTo_4 N n j (nI a) x v σ) (f := fun p => hb h (4 * p + a)) (e := 4) (fun n => ?_) (fun n i hi => ?_) N 0 (Nat.zero_le _) (by omega)
  · show bf_X4_owedTo_4 N _ j _ _ _ σ = _
    unfold bf_X4_owedTo_4
    rw [li4, t_le (by omega) (by omega), if_pos (Nat.le_refl _)]
  · show bf_X4_owedTo_4 N _ j _ _ _ σ = _
    unfold bf_X4_owedTo_4 z_n f_X10_pair
    rw [li4, t_le (by omega) (by omega), if_neg (by omega), pk_mul, nI_add, z_b_some, z_in_n (show i * 4 + a < 16 by omega) (by decide), z_g_t, nI_clamp (by omega), rc_b hR (by omega), nI_add, li1, nI_add, Nat.mul_comm]
    rfl
theorem e_owedBy (hN : 5 ≤ N) (hR : RC σ j h) {a : Nat} (ha : a < 4) : f_X4_owedBy N j (nI a) σ = some (nI (sm (fun p => hb h (4 * a + p)) 4), σ) := by
  unfold f_X4_owedBy
  refine sum_loop (F := fun n x v => lf_X4_owedBy_4 N n j (nI a) x v σ) (f := fun p => hb h (4 * a + p)) (e := 4) (fun n => ?_) (fun n i hi => ?_) N 0 (Nat.zero_le _) (by omega)
  · show bf_X4_owedBy_4 N _ j _ _ _ σ = _
    unfold bf_X4_owedBy_4
    rw [li4, t_le (by omega) (by omega), if_pos (Nat.le_refl _)]
  · show bf_X4_owedBy_4 N _ j _ _ _ σ = _
    unfold bf_X4_owedBy_4 z_n f_X10_pair
    rw [li4, t_le (by omega) (by omega), if_neg (by omega), pk_mul, nI_add, z_b_some, z_in_n (show a * 4 + i < 16 by omega) (by decide), z_g_t, nI_clamp (by omega), rc_b hR (by omega), nI_add, li1, nI_add, Nat.mul_comm]
    rfl
theorem e_isBright (hN : 7 ≤ N) (hR : RC σ j h) (hV : V0 h) {r : Nat} (hr : r < 4) : f_X4_isBright N j (nI r) σ = some (nI (bN (brn h r)), σ) := by
  have h6 := hV.1
  have hV2 := hV.2.1
  unfold f_X4_isBright
  have key : ∀ n i, i ≤ hn h → hn h - i < n → brt h r i = false → lf_X4_isBright_2 N n j (nI r) (nI i) σ = some (nI (bN (brn h r)), σ) := by
    intro n
    induction n with
    | zero => intro i _ h; omega
    | succ n ih =>
      intro i hi hn' hf
      show bf_X4_isBright_2 N _ j _ _ σ = _
      unfold bf_X4_isBright_2
      rw [hR.1, t_le (by omega) (by omega)]
      by_cases e : i = hn h
      · rw [if_pos (by omega)]
        subst e
        unfold brn
        rw [hf]; rfl
      · have hi' : i < hn h := by omega
        obtain ⟨c0, c1, c2, c3, c4, c5⟩ := hV2 i hi'
        rw [if_neg (by omega), z_in_n (show i < 6 by omega) (by decide), z_g_t, z_g_t, nI_clamp (by omega), rc_c hR hi' (by decide : 4 < 6), t_eq (by omega) (by omega), e_isBurning hR hV hi', z_b_some, li1, nI_add]
        have nx : bit h r i = false → lf_X4_isBright_2 N n j (nI r) (nI (i + 1)) σ = some (nI (bN (brn h r)), σ) := fun hb => ih (i + 1) (by omega) (by omega) (by show (brt h r i || bit h r i) = false; rw [hf, hb]; rfl)
        by_cases e4 : hc h i 4 = r
        · rw [if_pos e4]
          by_cases eb : hc h i 5 = 1 ∧ 0 < hc h i 2
          · rw [if_pos eb, li0, t_eq (by decide) (by decide), if_neg (by decide)]
            have : brn h r = true := brt_mono (i := i + 1) (by omega) (by show (brt h r i || bit h r i) = true; rw [show bit h r i = true by unfold bit; exact decide_eq_true ⟨e4, eb.1, eb.2⟩]; simp)
            rw [this]; rfl
          · rw [if_neg eb, li0, t_eq (by decide) (by decide), if_pos rfl]
            exact nx (by unfold bit; exact decide_eq_false (fun q => eb ⟨q.2.1, q.2.2⟩))
        · rw [if_neg e4]
          exact nx (by unfold bit; exact decide_eq_false (fun q => e4 q.1))
  exact key N 0 (Nat.zero_le _) (by omega) rfl
theorem e_candBecome (hR : RC σ j h) (hV : V0 h) {i c0 : Nat} (hi : i < hn h) (hne : c0 ≠ 6 * j + i) : ok (f_X1_become N c0 (6 * j + i) σ) (fun _ σ' => (∀ a, a ≠ c0 → σ' a = σ a) ∧ ∀ k, k < 6 → σ' c0 k = nI (hc h i k)) := by
  obtain ⟨h6, hV2, -⟩ := hV
  obtain ⟨q0, q1, q2, q3, q4, q5⟩ := hV2 i hi
  unfold f_X1_become
  have hx : ∀ s : zS, s (6 * j + i) = σ (6 * j + i) → ∀ k v, z_put s c0 k v (6 * j + i) = σ (6 * j + i) := fun s hs k v => by rw [z_put_ne _ _ _ (Ne.symm hne)]; exact hs
  refine ok_m (ok_m (ok_m (ok_m (ok_m ?_))))
  simp (disch := exact Ne.symm hne) only [z_put_ne]
  rw [rc_c hR hi (by decide : 0 < 6), rc_c hR hi (by decide : 1 < 6), rc_c hR hi (by decide : 2 < 6), rc_c hR hi (by decide : 3 < 6), rc_c hR hi (by decide : 4 < 6), rc_c hR hi (by decide : 5 < 6)]
  refine ok_g (z_bo_n2 q5) (ok_m (ok_ret ⟨fun a ha => ?_, fun k hk => ?_⟩))
  · simp (disch := exact ha) only [z_put_ne]
  · simp only [z_put_same]
    rcases (show k = 0 ∨ k = 1 ∨ k = 2 ∨ k = 3 ∨ k = 4 ∨ k = 5 by omega) with rfl | rfl | rfl | rfl | rfl | rfl <;> simp (disch := decide) only [pk_un, pk_us]
theorem e_become (hN : 7 ≤ N) {j1 : Nat} (hj : j < 3) (hj1 : j1 < 3) (hne : j ≠ j1) (hR : RC σ j1 h) (hV : V0 h) : ok (f_X4_become N j j1 σ) (fun _ σ' => RC σ' j h ∧ fC j σ σ') := by
  have h6 := hV.1
  unfold f_X4_become
  refine ok_m ?_
  rw [hR.1]
  have r0 : RC (z_put σ (18 + j) 4 (nI (hn h))) j1 h := hR.other h6 hj1 hj (Ne.symm hne) (fC.put (by unfold hr; omega))
  refine cnt_loop (Q := fun o => ok o (fun _ σ' => RC σ' j h ∧ fC j σ σ')) (F := fun n v s => lf_X4_become_10 N n j j1 v s) (I := fun i s => RC s j1 h ∧ fC j σ s ∧ s (18 + j) 4 = nI (hn h) ∧ ∀ k, k < i → ∀ q, q < 6 → s (6 * j + k) q = nI (hc h k q)) (e := hn h) ?_ ?_ N 0 _ (Nat.zero_le _) (by omega) ⟨r0, fC.put (by unfold hr; omega), by rw [z_put_same, pk_us], fun k hk => by omega⟩
  · intro n s ⟨p1, p2, p3, p4⟩
    show ok (bf_X4_become_10 N _ j j1 _ s) _
    unfold bf_X4_become_10
    rw [p3, t_le (by omega) (by omega)]
    refine ok_t (Nat.le_refl _) (ok_m (ok_m (ok_m (ok_m (ok_m (ok_m (ok_ret ⟨?_, ?_⟩)))))))
    · obtain ⟨a1, a2, a3, a4, a5, a6, a7, a8⟩ := p1
      refine ⟨?_, ?_, ?_, ?_, ?_, fun k hk q hq => ?_, fun k hk => ?_, fun k hk => ?_⟩
      · simp (disch := omega) only [z_put_same, z_put_ne, z_row_ne, pk_un]; exact p3
      · simp (disch := omega) only [z_put_same, z_put_ne, z_row_ne, pk_un, pk_us]; exact a2
      · simp (disch := omega) only [z_put_same, z_put_ne, z_row_ne, pk_un, pk_us]; exact a3
      · simp (disch := omega) only [z_put_same, z_put_ne, z_row_ne, pk_un, pk_us]; exact a4
      · simp (disch := omega) only [z_put_same, z_put_ne, z_row_ne, pk_un, pk_us]; exact a5
      · simp (disch := omega) only [z_put_ne, z_row_ne]; exact p4 k hk q hq
      · simp (disch := omega) only [z_put_ne, z_row_ne, z_row_same]
        rw [pk_cpy_in (by show 0 ≤ k; omega) (by show k < 0 + 4; omega)]
        show s (24 + j1) (0 + (k - 0)) = _
        rw [show 0 + (k - 0) = k by omega]; exact a7 k hk
      · simp (disch := omega) only [z_put_ne, z_row_ne, z_row_same]
        rw [pk_cpy_in (by show 0 ≤ k; omega) (by show k < 0 + 16; omega)]
        show s (27 + j1) (0 + (k - 0)) = _
        rw [show 0 + (k - 0) = k by omega]; exact a8 k hk
    · exact p2.tr ((((((fC.row (by unfold hr; omega)).tr (fC.row (by unfold hr; omega))).tr (fC.put (by unfold hr; omega))).tr (fC.put (by unfold hr; omega))).tr (fC.put (by unfold hr; omega))).tr (fC.put (by unfold hr; omega)))
  · intro n i s hi ⟨p1, p2, p3, p4⟩ ih
    show ok (bf_X4_become_10 N _ j j1 _ s) _
    unfold bf_X4_become_10
    rw [p3, t_le (by omega) (by omega)]
    refine ok_f (by omega) ?_
    rw [z_in_n (show i < 6 by omega) (by decide), z_g_t, z_g_t, nI_clamp (by omega)]
    refine ok_bm (e_candBecome p1 hV hi (by omega)) (fun _ s' hs' => ?_)
    obtain ⟨q1, q2⟩ := hs'
    have ff : fC j s s' := fun a ha => q1 a (fun e => ha (by unfold hr; omega))
    rw [li1, nI_add]
    refine ih s' ⟨p1.other h6 hj1 hj (Ne.symm hne) ff, p2.tr ff, by rw [q1 _ (by omega)]; exact p3, fun k hk q hq => ?_⟩
    by_cases e : k = i
    · subst e; exact q2 q hq
    · rw [q1 _ (by omega)]; exact p4 k (by omega) q hq
end SC
section SMm
variable {τ : zS} {h : hS} {N : Nat}
theorem e_Mgrains (hN : 7 ≤ N) (hR : RM τ h) (hV : V0 h) : f_X11_grainsOfAll N τ = some (nI (sm (fun i => hc h i 2) (hn h)), τ) := by
  have h6 := hV.1
  unfold f_X11_grainsOfAll
  refine sum_loop (F := fun n a v => lf_X11_grainsOfAll_4 N n a v τ) (f := fun i => hc h i 2) (e := hn h) (fun n => ?_) (fun n i hi => ?_) N 0 (Nat.zero_le _) (by omega)
  · show bf_X11_grainsOfAll_4 N _ _ _ τ = _
    unfold bf_X11_grainsOfAll_4
    rw [hR.1, t_le (by omega) (by omega), if_pos (Nat.le_refl _)]
  · show bf_X11_grainsOfAll_4 N _ _ _ τ = _
    unfold bf_X11_grainsOfAll_4 z_n
    rw [hR.1, t_le (by omega) (by omega), if_neg (by omega), z_in_n (show i < 6 by omega) (by decide), z_g_t, nI_clamp (by omega), (RM.r hR).1 i hi 2 (by decide), nI_add, li1, nI_add]
    rfl
theorem e_Mdebts (hN : 17 ≤ N) (hR : RM τ h) : f_X11_debts N τ = some (nI (sm (hb h) 16), τ) := by
  unfold f_X11_debts
  refine sum_loop (F := fun n a v => lf_X11_debts_4 N n a v τ) (f := hb h) (e := 16) (fun n => ?_) (fun n i hi => ?_) N 0 (Nat.zero_le _) (by omega)
  · show bf_X11_debts_4 N _ _ _ τ = _
    unfold bf_X11_debts_4
    rw [li16, t_le (by omega) (by omega), if_pos (Nat.le_refl _)]
  · show bf_X11_debts_4 N _ _ _ τ = _
    unfold bf_X11_debts_4 z_n
    rw [li16, t_le (by omega) (by omega), if_neg (by omega), z_in_n hi (by decide), z_g_t, nI_clamp (by omega), (RM.r hR).2.2 i hi, nI_add, li1, nI_add]
    rfl
theorem e_MisBright (hN : 7 ≤ N) (hR : RM τ h) (hV : V0 h) {r : Nat} (hr : r < 4) : f_X11_isBright N (nI r) τ = some (nI (bN (brn h r)), τ) := by
  have h6 := hV.1
  have hV2 := hV.2.1
  unfold f_X11_isBright
  have key : ∀ n i, i ≤ hn h → hn h - i < n → lf_X11_isBright_4 N n (nI r) (nI (bN (brt h r i))) (nI i) τ = some (nI (bN (brn h r)), τ) := by
    intro n
    induction n with
    | zero => intro i _ h; omega
    | succ n ih =>
      intro i hi hn'
      show bf_X11_isBright_4 N _ _ _ _ τ = _
      unfold bf_X11_isBright_4 bf_X11_isBright_45
      rw [hR.1, t_le (by omega) (by omega)]
      have bb : ∀ b : Bool, z_bo (nI (bN b)) = true := fun b => by cases b <;> decide
      by_cases e : i = hn h
      · rw [if_pos (by omega), bb, z_g_t]
        subst e; rfl
      · have hi' : i < hn h := by omega
        obtain ⟨c0, c1, c2, c3, c4, c5⟩ := hV2 i hi'
        rw [if_neg (by omega), z_in_n (show i < 6 by omega) (by decide), z_g_t, z_g_t, z_g_t, nI_clamp (by omega), (RM.r hR).1 i hi' 4 (by decide), (RM.r hR).1 i hi' 5 (by decide), (RM.r hR).1 i hi' 2 (by decide), li0, li1, t_eq (by omega : hc h i 4 < 2 ^ 31) (by omega), t_eq (by omega : hc h i 5 < 2 ^ 31) (by omega), t_le (by omega : hc h i 2 < 2 ^ 31) (by omega), nI_add]
        have nx := ih (i + 1) (by omega) (by omega)
        cases hbv : brt h r i with
        | true =>
          rw [if_neg (by decide)]
          rw [show brt h r (i + 1) = true by show (brt h r i || bit h r i) = true; rw [hbv]; rfl] at nx
          exact nx
        | false =>
          rw [if_pos (by decide)]
          have e1 : brt h r (i + 1) = bit h r i := by show (brt h r i || bit h r i) = _; rw [hbv]; rfl
          rw [e1] at nx
          by_cases e4 : hc h i 4 = r
          · rw [if_pos e4]
            by_cases e5 : hc h i 5 = 1
            · rw [if_pos e5]
              by_cases e2 : hc h i 2 ≤ 0
              · rw [if_pos e2]
                rw [show bit h r i = false by unfold bit; exact decide_eq_false (fun q => by omega)] at nx
                exact nx
              · rw [if_neg e2]
                rw [show bit h r i = true by unfold bit; exact decide_eq_true ⟨e4, e5, by omega⟩] at nx
                exact nx
            · rw [if_neg e5]
              rw [show bit h r i = false by unfold bit; exact decide_eq_false (fun q => e5 q.2.1)] at nx
              exact nx
          · rw [if_neg e4]
            rw [show bit h r i = false by unfold bit; exact decide_eq_false (fun q => e4 q.1)] at nx
            exact nx
  exact key N 0 (Nat.zero_le _) (by omega)
end SMm
