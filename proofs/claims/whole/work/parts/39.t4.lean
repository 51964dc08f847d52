/-! The night: one statement comes, both sides. -/
section T4
variable {σ τ : zS} {N : Nat} {l : Nat → Nat} {n : Nat}
theorem ki_yes {a : Nat} (ha : a < 6) : f_X10_isKind N (nI a) σ = some (1, σ) := by
  unfold f_X10_isKind
  rw [if_neg (nI_pos (by omega)), li6, t_le (by omega) (by omega), if_neg (by omega)]
theorem ki_no {a : Nat} (ha : 6 ≤ a) (h2 : a < 2 ^ 31) : f_X10_isKind N (nI a) σ = some (0, σ) := by
  unfold f_X10_isKind
  rw [if_neg (nI_pos (by omega)), li6, t_le (by omega) (by omega), if_pos ha]
theorem pe_no' {a : Nat} (ha : ¬ a < 4) (h2 : a < 2 ^ 31) : f_X10_isPerson N (nI a) σ = some (0, σ) := pe_no (Or.inr ((nI_leI (by omega) h2).mpr (by omega)))
theorem pm_no' {a : Nat} (ha : ¬ a < 4) (h2 : a < 2 ^ 31) : f_X11_isOne N (nI a) τ = some (0, τ) := pm_no (Or.inr ((nI_leI (by omega) h2).mpr (by omega)))
theorem tw_c (a b : Nat) (ha : a < 2 ^ 31) (hb : b < 2 ^ 31) : (a < 4 ∧ b < 4 ∧ a ≠ b) ∨ (¬ (a < 4 ∧ b < 4 ∧ a ≠ b) ∧ ∀ (N : Nat) (σ τ : zS), f_X10_areTwo N (nI a) (nI b) σ = some (0, σ) ∧ f_X11_areTwo N (nI a) (nI b) τ = some (0, τ)) := by
  rcases tw_cases (nI a) (nI b) with ⟨a', b', h1, h2, h3, e1, e2⟩ | h
  · have e1 := (nI_eq ha (by omega)).mp e1
    have e2 := (nI_eq hb (by omega)).mp e2
    left; omega
  · by_cases c : a < 4 ∧ b < 4 ∧ a ≠ b
    · left; exact c
    · right; exact ⟨c, h⟩
theorem RC_addc {g : hS} (hC : RC σ 1 g) (h6 : hn g < 6) (a b v w : Nat) (s : zS) (hs : s = z_put (z_put (z_put (z_put (z_put (z_put (z_put σ (6 * 1 + hn g) 0 (nI a)) (6 * 1 + hn g) 1 (nI b)) (6 * 1 + hn g) 2 (nI v)) (6 * 1 + hn g) 3 (nI w)) (6 * 1 + hn g) 4 (nI w)) (6 * 1 + hn g) 5 0) (18 + 1) 4 (nI (hn g + 1))) : RC s 1 (addc g a b v w) ∧ fC 1 σ s := by
  obtain ⟨a1, a2, a3, a4, a5, a6, a7, a8⟩ := hC
  subst hs
  constructor
  · refine ⟨?_, ?_, ?_, ?_, ?_, fun i hi k hk => ?_, fun q hq => ?_, fun q hq => ?_⟩
    · rw [z_put_same, pk_us]; rfl
    · simp (disch := omega) only [z_put_same, z_put_ne, pk_un]; exact a2
    · simp (disch := omega) only [z_put_same, z_put_ne, pk_un]; exact a3
    · simp (disch := omega) only [z_put_same, z_put_ne, pk_un]; exact a4
    · simp (disch := omega) only [z_put_same, z_put_ne, pk_un]; exact a5
    · have hi' : i < hn g + 1 := hi
      show _ = nI (un (hc g) (hn g) (cnd a b v w) i k)
      by_cases e : i = hn g
      · rw [e, un_s]
        rcases (show k = 0 ∨ k = 1 ∨ k = 2 ∨ k = 3 ∨ k = 4 ∨ k = 5 by omega) with rfl | rfl | rfl | rfl | rfl | rfl
        all_goals (simp (disch := omega) only [z_put_same, z_put_ne, pk_un, pk_us]; rfl)
      · rw [un_n _ _ e]
        have hne : 6 * 1 + i ≠ 6 * 1 + hn g := by omega
        simp (disch := omega) only [z_put_ne]
        exact a6 i (by omega) k hk
    · simp (disch := omega) only [z_put_ne]; exact a7 q hq
    · simp (disch := omega) only [z_put_ne]; exact a8 q hq
  · exact ((((((fC.put (by unfold hr; omega)).tr (fC.put (by unfold hr; omega))).tr (fC.put (by unfold hr; omega))).tr (fC.put (by unfold hr; omega))).tr (fC.put (by unfold hr; omega))).tr (fC.put (by unfold hr; omega))).tr (fC.put (by unfold hr; omega))
theorem RM_addc {g : hS} (hM : RM τ g) (h6 : hn g < 6) (a b v w : Nat) (s : zS) (hs : s = z_put (z_put (z_put (z_put (z_put (z_put (z_put τ 1 (hn g) (nI a)) 2 (hn g) (nI b)) 4 (hn g) (nI w)) 5 (hn g) (nI w)) 3 (hn g) (nI v)) 6 (hn g) 0) 0 9 (nI (hn g + 1))) : RM s (addc g a b v w) ∧ fM τ s := by
  obtain ⟨a1, a2, a3, a4, a5, a6, a7, a8⟩ := hM
  subst hs
  constructor
  · refine ⟨?_, ?_, ?_, ?_, ?_, fun i hi k hk => ?_, fun q hq => ?_, fun q hq => ?_⟩
    · rw [z_put_same, pk_us]; rfl
    · simp (disch := omega) only [z_put_same, z_put_ne, pk_un]; exact a2
    · simp (disch := omega) only [z_put_same, z_put_ne, pk_un]; exact a3
    · simp (disch := omega) only [z_put_same, z_put_ne, pk_un]; exact a4
    · simp (disch := omega) only [z_put_same, z_put_ne, pk_un]; exact a5
    · have hi' : i < hn g + 1 := hi
      show _ = nI (un (hc g) (hn g) (cnd a b v w) i k)
      by_cases e : i = hn g
      · rw [e, un_s]
        rcases (show k = 0 ∨ k = 1 ∨ k = 2 ∨ k = 3 ∨ k = 4 ∨ k = 5 by omega) with rfl | rfl | rfl | rfl | rfl | rfl
        all_goals (simp (disch := omega) only [z_put_same, z_put_ne, pk_un, pk_us]; rfl)
      · rw [un_n _ _ e]
        have old := a6 i (by omega) k hk
        rcases (show k = 0 ∨ k = 1 ∨ k = 2 ∨ k = 3 ∨ k = 4 ∨ k = 5 by omega) with rfl | rfl | rfl | rfl | rfl | rfl
        all_goals (simp (disch := omega) only [z_put_same, z_put_ne, pk_un, pk_us]; exact old)
    · simp (disch := omega) only [z_put_ne]; exact a7 q hq
    · simp (disch := omega) only [z_put_ne]; exact a8 q hq
  · exact ((((((fM.put (by decide) (by decide)).tr (fM.put (by decide) (by decide))).tr (fM.put (by decide) (by decide))).tr (fM.put (by decide) (by decide))).tr (fM.put (by decide) (by decide))).tr (fM.put (by decide) (by decide))).tr (fM.put0 (by decide) (by decide))
theorem RC_setb {g : hS} {j : Nat} (hC : RC σ j g) (hj : j < 3) (h6 : hn g ≤ 6) {a v : Nat} : RC (z_put σ (27 + j) a (nI v)) j (setb g a v) := by
  obtain ⟨a1, a2, a3, a4, a5, a6, a7, a8⟩ := hC
  refine ⟨?_, ?_, ?_, ?_, ?_, fun i hi k hk => ?_, fun q hq => ?_, fun q hq => ?_⟩
  · rw [z_put_ne _ _ _ (by omega)]; exact a1
  · rw [z_put_ne _ _ _ (by omega)]; exact a2
  · rw [z_put_ne _ _ _ (by omega)]; exact a3
  · rw [z_put_ne _ _ _ (by omega)]; exact a4
  · rw [z_put_ne _ _ _ (by omega)]; exact a5
  · have hi' : i < hn g := hi
    rw [z_put_ne _ _ _ (by omega)]; exact a6 i hi k hk
  · rw [z_put_ne _ _ _ (by omega)]; exact a7 q hq
  · show _ = nI (un (hb g) a v q)
    rw [z_put_same]
    by_cases e : q = a
    · subst e; rw [un_s, pk_us]
    · rw [un_n _ _ e, pk_un e]; exact a8 q hq
theorem RC_setd {g : hS} {j : Nat} (hC : RC σ j g) (hj : j < 3) (h6 : hn g ≤ 6) {a v : Nat} : RC (z_put σ (24 + j) a (nI v)) j (setd g a v) := by
  obtain ⟨a1, a2, a3, a4, a5, a6, a7, a8⟩ := hC
  refine ⟨?_, ?_, ?_, ?_, ?_, fun i hi k hk => ?_, fun q hq => ?_, fun q hq => ?_⟩
  · rw [z_put_ne _ _ _ (by omega)]; exact a1
  · rw [z_put_ne _ _ _ (by omega)]; exact a2
  · rw [z_put_ne _ _ _ (by omega)]; exact a3
  · rw [z_put_ne _ _ _ (by omega)]; exact a4
  · rw [z_put_ne _ _ _ (by omega)]; exact a5
  · have hi' : i < hn g := hi
    rw [z_put_ne _ _ _ (by omega)]; exact a6 i hi k hk
  · show _ = nI (un (hd g) a v q)
    rw [z_put_same]
    by_cases e : q = a
    · subst e; rw [un_s, pk_us]
    · rw [un_n _ _ e, pk_un e]; exact a7 q hq
  · rw [z_put_ne _ _ _ (by omega)]; exact a8 q hq
theorem RM_setb {g : hS} (hM : RM τ g) {a v : Nat} : RM (z_put τ 8 a (nI v)) (setb g a v) := by
  obtain ⟨a1, a2, a3, a4, a5, a6, a7, a8⟩ := hM
  refine ⟨?_, ?_, ?_, ?_, ?_, fun i hi k hk => ?_, fun q hq => ?_, fun q hq => ?_⟩
  · rw [z_put_ne _ _ _ (by omega)]; exact a1
  · rw [z_put_ne _ _ _ (by omega)]; exact a2
  · rw [z_put_ne _ _ _ (by omega)]; exact a3
  · rw [z_put_ne _ _ _ (by omega)]; exact a4
  · rw [z_put_ne _ _ _ (by omega)]; exact a5
  · rw [z_put_ne _ _ _ (by omega)]; exact a6 i hi k hk
  · rw [z_put_ne _ _ _ (by omega)]; exact a7 q hq
  · show _ = nI (un (hb g) a v q)
    rw [z_put_same]
    by_cases e : q = a
    · subst e; rw [un_s, pk_us]
    · rw [un_n _ _ e, pk_un e]; exact a8 q hq
theorem RM_setd {g : hS} (hM : RM τ g) {a v : Nat} : RM (z_put τ 7 a (nI v)) (setd g a v) := by
  obtain ⟨a1, a2, a3, a4, a5, a6, a7, a8⟩ := hM
  refine ⟨?_, ?_, ?_, ?_, ?_, fun i hi k hk => ?_, fun q hq => ?_, fun q hq => ?_⟩
  · rw [z_put_ne _ _ _ (by omega)]; exact a1
  · rw [z_put_ne _ _ _ (by omega)]; exact a2
  · rw [z_put_ne _ _ _ (by omega)]; exact a3
  · rw [z_put_ne _ _ _ (by omega)]; exact a4
  · rw [z_put_ne _ _ _ (by omega)]; exact a5
  · rw [z_put_ne _ _ _ (by omega)]; exact a6 i hi k hk
  · show _ = nI (un (hd g) a v q)
    rw [z_put_same]
    by_cases e : q = a
    · subst e; rw [un_s, pk_us]
    · rw [un_n _ _ e, pk_un e]; exact a7 q hq
  · rw [z_put_ne _ _ _ (by omega)]; exact a8 q hq
def RA (o : Option hS) (R : hS → Prop) (r : Int32) : Prop := (r = 0 ∧ o = none) ∨ ∃ g', o = some g' ∧ r = 1 ∧ R g'
theorem ok_bo {o : zA} {P : Int32 → zS → Prop} (h : ok o (fun r s => (r = 0 ∨ r = 1) ∧ P r s)) : ok (z_b o (fun r t => z_g (z_bo r) (some (r, t)))) P := by
  refine ok_bm h (fun r s hs => ?_)
  rcases hs with ⟨rfl | rfl, hP⟩
  · exact ok_g (by decide) (ok_ret hP)
  · exact ok_g (by decide) (ok_ret hP)
theorem RA_01 {o : Option hS} {R : hS → Prop} {r : Int32} (h : RA o R r) : r = 0 ∨ r = 1 := by
  rcases h with ⟨h, -⟩ | ⟨_, -, h, -⟩
  · exact Or.inl h
  · exact Or.inr h
theorem e_tell (hN : 10 ≤ N) (hL : LC l n σ) {g : hS} (hC : RC σ 1 g) (hV : V0 g) {p : Nat} (hok : okS l n p = true) : ok (f_X10_tellMind N (nI p) σ) (fun r s => fC 1 σ s ∧ RA (ap l n g p) (RC s 1) r) := by
  obtain ⟨hc4, hd, hp⟩ := okS_d hok
  have h80 := hL.1
  have h6 := hV.1
  have hl2 : 2 ≤ ldg (l p) := by rcases hc4 with e | e | e | e <;> rw [e] <;> decide
  have d1 := hd 0 (by omega)
  have d2 := hd 1 (by omega)
  have b1 := dgt_t d1
  have b2 := dgt_t d2
  have b1' : l (p + 1) ≤ 57 := b1.2.2
  have b2' : l (p + 2) ≤ 57 := b2.2.2
  have hlp := (hL.2.2 p hp).1
  unfold f_X10_tellMind
  rw [show nI p + (1 : Int32) = nI (p + 1) by rw [li1, nI_add], show nI p + (2 : Int32) = nI (p + 2) by rw [li2, nI_add], show nI p + (3 : Int32) = nI (p + 3) by rw [li3, nI_add], show nI p + (4 : Int32) = nI (p + 4) by rw [li4, nI_add]]
  rw [e_digit (p := p + 1) hL d1, z_b_some, e_digit (p := p + 2) hL d2, z_b_some, e_sign hL (by omega), z_b_some, show SG l n p = nI (l p) from if_pos hp, e_number hN hL (by omega), z_b_some]
  show ok _ (fun r s => fC 1 σ s ∧ RA (ap l n g p) (RC s 1) r)
  generalize ha : l (p + 1) - 48 = a at *
  generalize hb' : l (p + 2) - 48 = b at *
  have a10 : a < 10 := by omega
  have b10 : b < 10 := by omega
  unfold ap
  rw [ha, hb']
  by_cases e1 : l p = 99
  · have d3 := hd 2 (by rw [e1]; decide)
    have b3 := dgt_t d3
    have b3' : l (p + 3) ≤ 57 := b3.2.2
    rw [e1, if_pos rfl, e_digit (p := p + 3) hL d3, z_b_some, e_number hN hL (by omega), z_b_some]
    generalize hw : l (p + 3) - 48 = w
    have w10 : w < 10 := by omega
    refine ok_t rfl (ok_bo ?_)
    have mn : ok (f_X4_takeCandle N 1 (nI a) (nI b) (nI w) (nI (nmb l n 3 (p + 4) 0)) σ) (fun r s => fC 1 σ s ∧ RA (if a < 6 ∧ w < 4 ∧ hn g < 6 then some (addc g a b (nmb l n 3 (p + 4) 0) w) else none) (RC s 1) r) := by
      unfold f_X4_takeCandle
      by_cases c1 : a < 6
      · rw [ki_yes c1, z_b_some]
        refine ok_f (by decide) ?_
        by_cases c2 : w < 4
        · rw [pe_yes c2, z_b_some, hC.1, li6, t_lt (by omega) (by omega)]
          refine ok_f (by decide) ?_
          by_cases c3 : hn g < 6
          · refine ok_t c3 (ok_g (z_in_n c3 (by decide)) (ok_m (ok_m (ok_m (ok_m (ok_m (ok_m (ok_m (ok_ret ?_)))))))))
            rw [nI_clamp (by omega)]
            have := RC_addc hC c3 a b (nmb l n 3 (p + 4) 0) w _ rfl
            refine ⟨?_, Or.inr ⟨_, if_pos ⟨c1, c2, c3⟩, rfl, ?_⟩⟩
            · simp (disch := omega) only [z_put_ne]
              rw [hC.1, li1, nI_add]
              exact this.2
            · simp (disch := omega) only [z_put_ne]
              rw [hC.1, li1, nI_add]
              exact this.1
          · exact ok_f c3 (ok_ret ⟨fC.rf, Or.inl ⟨rfl, if_neg (fun z => c3 z.2.2)⟩⟩)
        · rw [pe_no' c2 (by omega), z_b_some]
          exact ok_t rfl (ok_ret ⟨fC.rf, Or.inl ⟨rfl, if_neg (fun z => c2 z.2.1)⟩⟩)
      · rw [ki_no (by omega) (by omega), z_b_some]
        exact ok_t rfl (ok_ret ⟨fC.rf, Or.inl ⟨rfl, if_neg (fun z => c1 z.1)⟩⟩)
    exact ok_mono mn (fun r s hs => ⟨RA_01 hs.2, hs⟩)
  · rw [if_neg e1]
    refine ok_f (by rw [show (99 : Int32) = nI 99 from rfl, i_eq (by omega) (by omega)]; exact e1) ?_
    by_cases e2 : l p = 100
    · rw [e2, if_pos rfl]
      refine ok_t rfl (ok_bo ?_)
      have mn : ok (f_X4_takeDebt N 1 (nI a) (nI b) (nI (nmb l n 3 (p + 3) 0)) σ) (fun r s => fC 1 σ s ∧ RA (if a < 4 ∧ b < 4 ∧ a ≠ b then some (setb g (4 * a + b) (nmb l n 3 (p + 3) 0)) else none) (RC s 1) r) := by
        unfold f_X4_takeDebt
        rcases tw_c a b (by omega) (by omega) with c | ⟨c, hno⟩
        · rw [tw_yes c.1 c.2.1 c.2.2, z_b_some, e_pair, z_b_some]
          refine ok_f (by decide) (ok_g (z_in_n (show 4 * a + b < 16 by omega) (by decide)) (ok_m (ok_ret ?_)))
          rw [nI_clamp (by omega)]
          exact ⟨fC.put (by unfold hr; omega), Or.inr ⟨_, if_pos c, rfl, RC_setb hC (by decide) h6⟩⟩
        · rw [(hno N σ σ).1, z_b_some]
          exact ok_t rfl (ok_ret ⟨fC.rf, Or.inl ⟨rfl, if_neg c⟩⟩)
      exact ok_mono mn (fun r s hs => ⟨RA_01 hs.2, hs⟩)
    · rw [if_neg e2]
      refine ok_f (by rw [show (100 : Int32) = nI 100 from rfl, i_eq (by omega) (by omega)]; exact e2) ?_
      by_cases e3 : l p = 114
      · rw [e3, if_pos rfl]
        refine ok_t rfl (ok_bo ?_)
        have mn : ok (f_X4_takeDraught N 1 (nI a) (nI b) σ) (fun r s => fC 1 σ s ∧ RA (if a < 4 then some (setd g a b) else none) (RC s 1) r) := by
          unfold f_X4_takeDraught
          by_cases c : a < 4
          · rw [pe_yes c, z_b_some]
            refine ok_f (by decide) (ok_g (z_in_n c (by decide)) (ok_m (ok_ret ?_)))
            rw [nI_clamp (by omega)]
            exact ⟨fC.put (by unfold hr; omega), Or.inr ⟨_, if_pos c, rfl, RC_setd hC (by decide) h6⟩⟩
          · rw [pe_no' c (by omega), z_b_some]
            exact ok_t rfl (ok_ret ⟨fC.rf, Or.inl ⟨rfl, if_neg c⟩⟩)
        exact ok_mono mn (fun r s hs => ⟨RA_01 hs.2, hs⟩)
      · rw [if_neg e3]
        refine ok_f (by rw [show (114 : Int32) = nI 114 from rfl, i_eq (by omega) (by omega)]; exact e3) (ok_bo ?_)
        have mn : ok (f_X4_takePlace N 1 (nI a) (nI b) σ) (fun r s => fC 1 σ s ∧ RA (if a < hn g ∧ b < 4 then some (plcd g a b) else none) (RC s 1) r) := by
          unfold f_X4_takePlace
          refine ok_f (nI_pos (by omega)) ?_
          rw [hC.1, t_le (by omega) (by omega)]
          by_cases c1 : a < hn g
          · refine ok_f (by omega) ?_
            by_cases c2 : b < 4
            · rw [pe_yes c2, z_b_some]
              obtain ⟨k0, k1, k2, k3, k4, k5⟩ := hV.2.1 a c1
              refine ok_f (by decide) (ok_g (z_in_n (show a < 6 by omega) (by decide)) (ok_m (ok_g (z_in_n (show a < 6 by omega) (by decide)) (ok_g (z_in_n (show a < 6 by omega) (by decide)) ?_))))
              rw [nI_clamp (by omega), z_put_same, pk_un (by decide), rc_c hC c1 (by decide : 2 < 6), li0, t_le (by omega) (by omega)]
              have r1 : RC (z_put σ (6 * 1 + a) 4 (nI b)) 1 (setc g a 4 b) := RC_setc hC (by decide) h6 c1
              have fin : ∀ q : Nat, q = bN (decide (0 < hc g a 2)) → RC (z_put (z_put σ (6 * 1 + a) 4 (nI b)) (6 * 1 + a) 5 (nI q)) 1 (plcd g a b) := by
                intro q hq
                rw [hq]
                exact RC_setc r1 (by decide) h6 c1
              refine ok_if (fun hz => ok_m (ok_ret ⟨?_, Or.inr ⟨_, if_pos ⟨c1, c2⟩, rfl, fin 0 (by rw [decide_eq_false (by omega)]; rfl)⟩⟩)) (fun hz => ok_m (ok_ret ⟨?_, Or.inr ⟨_, if_pos ⟨c1, c2⟩, rfl, fin 1 (by rw [decide_eq_true (by omega)]; rfl)⟩⟩))
              · exact (fC.put (by unfold hr; omega)).tr (fC.put (by unfold hr; omega))
              · exact (fC.put (by unfold hr; omega)).tr (fC.put (by unfold hr; omega))
            · rw [pe_no' c2 (by omega), z_b_some]
              exact ok_t rfl (ok_ret ⟨fC.rf, Or.inl ⟨rfl, if_neg (fun z => c2 z.2)⟩⟩)
          · exact ok_t (by omega) (ok_ret ⟨fC.rf, Or.inl ⟨rfl, if_neg (fun z => c1 z.1)⟩⟩)
        exact ok_mono mn (fun r s hs => ⟨RA_01 hs.2, hs⟩)
end T4
