/-! Who sits in the dark and is owed. -/
section S7
variable {σ τ : zS} {N : Nat}
def Mf (f : Nat → Bool) : Int32 := nI (bN (f 0) + 2 * bN (f 1) + 4 * bN (f 2) + 8 * bN (f 3))
theorem Mf_or0 : ∀ a b c d : Bool, ∀ p, p < 4 → nI (bN a + 2 * bN b + 4 * bN c + 8 * bN d) ||| ((1 : Int32) <<< (nI p &&& 31)) = nI (bN (a || decide (0 = p)) + 2 * bN (b || decide (1 = p)) + 4 * bN (c || decide (2 = p)) + 8 * bN (d || decide (3 = p))) := by decide +kernel
theorem Mf_or (f : Nat → Bool) {p : Nat} (hp : p < 4) : Mf f ||| ((1 : Int32) <<< (nI p &&& 31)) = Mf (fun q => f q || decide (q = p)) := Mf_or0 _ _ _ _ p hp
theorem Mf_an0 : ∀ a b c d a' b' c' d' : Bool, nI (bN a + 2 * bN b + 4 * bN c + 8 * bN d) &&& (nI (bN a' + 2 * bN b' + 4 * bN c' + 8 * bN d') ^^^ (-1 : Int32)) = nI (bN (a && !a') + 2 * bN (b && !b') + 4 * bN (c && !c') + 8 * bN (d && !d')) := by decide +kernel
theorem Mf_an (f g : Nat → Bool) : Mf f &&& (Mf g ^^^ (-1 : Int32)) = Mf (fun q => f q && !g q) := Mf_an0 _ _ _ _ _ _ _ _
theorem Mf_c {f g : Nat → Bool} (h : ∀ q, q < 4 → f q = g q) : Mf f = Mf g := by
  unfold Mf
  rw [h 0 (by decide), h 1 (by decide), h 2 (by decide), h 3 (by decide)]
theorem dk_bright {g : hS} (hN : 7 ≤ N) (hM : RM τ g) (hV : V0 g) (acc : Nat → Bool) (n i : Int32) (rec30 : Int32 → Int32 → Int32 → zS → zA) : ∀ m p, p ≤ 4 → 4 - p < m → lf_X11_dark_39 N rec30 m n (Mf (fun q => acc q || (decide (q < p) && brn g q))) i (nI p) τ = z_b (f_X11_goesMinute N τ) (fun _ t => rec30 n (Mf (fun q => acc q || brn g q)) (i + 1) t) := by
  intro m
  induction m with
  | zero => intro p _ h; omega
  | succ m ih =>
    intro p hp hm
    show bf_X11_dark_39 N _ _ _ _ _ _ τ = _
    unfold bf_X11_dark_39 z_n
    rw [li4, t_le (by omega) (by omega)]
    by_cases e : p = 4
    · subst e
      rw [if_pos (Nat.le_refl _), Mf_c (f := fun q => acc q || (decide (q < 4) && brn g q)) (g := fun q => acc q || brn g q) (fun q hq => by rw [decide_eq_true hq, Bool.true_and])]
    · have hp4 : p < 4 := by omega
      have nx : ∀ x, x = Mf (fun q => acc q || (decide (q < p + 1) && brn g q)) → lf_X11_dark_39 N rec30 m n x i (nI (p + 1)) τ = z_b (f_X11_goesMinute N τ) (fun _ t => rec30 n (Mf (fun q => acc q || brn g q)) (i + 1) t) := by
        intro x hx
        rw [hx]
        exact ih (p + 1) (by omega) (by omega)
      rw [if_neg (by omega), e_MisBright hN hM hV hp4, z_b_some, or0]
      rw [show nI p + (1 : Int32) = nI (p + 1) by rw [li1, nI_add]]
      cases hb : brn g p with
      | false =>
        rw [if_pos (show nI (bN false) = (0 : Int32) from rfl)]
        refine nx _ (Mf_c (fun q hq => ?_))
        by_cases e2 : q = p
        · subst e2; rw [hb, Bool.and_false, Bool.and_false]
        · rw [show decide (q < p + 1) = decide (q < p) from decide_eq_decide.mpr (by omega)]
      | true =>
        rw [if_neg (show ¬ nI (bN true) = (0 : Int32) by decide), Mf_or _ hp4]
        refine nx _ (Mf_c (fun q hq => ?_))
        by_cases e2 : q = p
        · subst e2; rw [hb, decide_eq_true (rfl : q = q), decide_eq_true (show q < q + 1 by omega)]; simp
        · rw [show decide (q < p + 1) = decide (q < p) from decide_eq_decide.mpr (by omega), decide_eq_false e2, Bool.or_false]
def dko (b : Nat → Nat) : Nat → Nat → Bool
  | 0, _ => false
  | k + 1, q => dko b k q || (decide (q = k % 4) && decide (0 < b k))
theorem dko_sm (b : Nat → Nat) {q : Nat} (hq : q < 4) : dko b 16 q = decide (0 < sm (fun p => b (4 * p + q)) 4) := by
  rw [Bool.eq_iff_iff]
  rcases (show q = 0 ∨ q = 1 ∨ q = 2 ∨ q = 3 by omega) with rfl | rfl | rfl | rfl <;> simp [dko, sm] <;> omega
theorem dk_set {g : hS} (hM : RM τ g) (hV : V0 g) (br : Int32) : ∀ m k, k ≤ 16 → 16 - k < m → lf_X11_dark_87 N m br (Mf (dko (hb g) k)) (nI k) τ = z_b (f_X11_passesAll N 1 0 τ) (fun _ t => some (Mf (dko (hb g) 16) &&& (br ^^^ (-1 : Int32)), t)) := by
  intro m
  induction m with
  | zero => intro k _ h; omega
  | succ m ih =>
    intro k hk hm
    show bf_X11_dark_87 N _ _ _ _ τ = _
    unfold bf_X11_dark_87 z_n
    rw [li16, t_le (by omega) (by omega)]
    by_cases e : k = 16
    · subst e
      rw [if_pos (Nat.le_refl _)]
    · have hk16 : k < 16 := by omega
      have hbk := hV.2.2.2.1 k hk16
      have nx : ∀ x, x = Mf (dko (hb g) (k + 1)) → lf_X11_dark_87 N m br x (nI (k + 1)) τ = z_b (f_X11_passesAll N 1 0 τ) (fun _ t => some (Mf (dko (hb g) 16) &&& (br ^^^ (-1 : Int32)), t)) := by
        intro x hx
        rw [hx]
        exact ih (k + 1) (by omega) (by omega)
      rw [if_neg (by omega), z_in_n hk16 (by decide), z_g_t, nI_clamp (by omega), (RM.r hM).2.2 k hk16, or0]
      rw [show nI k + (1 : Int32) = nI (k + 1) by rw [li1, nI_add], li0, t_le (by omega) (by omega), li4, pk_rem (by omega) (by decide) (by decide), Mf_or _ (show k % 4 < 4 by omega)]
      by_cases e2 : hb g k ≤ 0
      · rw [if_pos e2]
        refine nx _ (Mf_c (fun q hq => ?_))
        show _ = (dko (hb g) k q || (decide (q = k % 4) && decide (0 < hb g k)))
        rw [decide_eq_false (show ¬ 0 < hb g k by omega), Bool.and_false, Bool.or_false]
      · rw [if_neg e2]
        refine nx _ (Mf_c (fun q hq => ?_))
        show _ = (dko (hb g) k q || (decide (q = k % 4) && decide (0 < hb g k)))
        rw [decide_eq_true (show 0 < hb g k by omega), Bool.and_true]
def dkb (h : hS) (n p : Nat) : Bool := decide (0 < sm (fun q => hb (mins h n) (4 * q + p)) 4) && !(decide (0 < n) && brn h p)
theorem sm4_lt {f : Nat → Nat} (h : ∀ i, i < 4 → f i < 1000) : sm f 4 < 4000 := by
  have h0 := h 0 (by decide)
  have h1 := h 1 (by decide)
  have h2 := h 2 (by decide)
  have h3 := h 3 (by decide)
  show 0 + f 0 + f 1 + f 2 + f 3 < 4000
  omega
theorem dk_c {h g : hS} (hN : 7 ≤ N) (hC : RC σ 0 h) (hV : V0 h) {n : Nat} (hn3 : n ≤ 300) (hG : RC σ 1 g) (hs : sameH g (mins h n)) : ∀ m p, p ≤ 4 → 4 - p < m → lf_X10_dark_29 N m (nI n) (Mf (fun q => decide (q < p) && dkb h n q)) (nI p) σ = some (Mf (dkb h n), σ) := by
  intro m
  induction m with
  | zero => intro p _ h; omega
  | succ m ih =>
    intro p hp hm
    show bf_X10_dark_29 N _ _ _ _ σ = _
    unfold bf_X10_dark_29 bf_X10_dark_55 bf_X10_dark_56 z_n
    rw [li4, t_le (by omega) (by omega)]
    by_cases e : p = 4
    · subst e
      rw [if_pos (Nat.le_refl _), Mf_c (f := fun q => decide (q < 4) && dkb h n q) (g := dkb h n) (fun q hq => by rw [decide_eq_true hq, Bool.true_and])]
    · have hp4 : p < 4 := by omega
      have hVm := mins_V hV n
      have hsl : sm (fun q => hb (mins h n) (4 * q + p)) 4 < 4000 := sm4_lt (fun i hi => hVm.2.2.2.1 _ (by omega))
      have nx : ∀ x, x = Mf (fun q => decide (q < p + 1) && dkb h n q) → lf_X10_dark_29 N m (nI n) x (nI (p + 1)) σ = some (Mf (dkb h n), σ) := by
        intro x hx
        rw [hx]
        exact ih (p + 1) (by omega) (by omega)
      have off : dkb h n p = false → Mf (fun q => decide (q < p) && dkb h n q) = Mf (fun q => decide (q < p + 1) && dkb h n q) := by
        intro hd
        refine Mf_c (fun q hq => ?_)
        by_cases e2 : q = p
        · subst e2; rw [hd, Bool.and_false, Bool.and_false]
        · rw [show decide (q < p + 1) = decide (q < p) from decide_eq_decide.mpr (by omega)]
      have ow : dkb h n p = true → (Mf (fun q => decide (q < p) && dkb h n q) ||| ((1 : Int32) <<< (nI p &&& 31))) = Mf (fun q => decide (q < p + 1) && dkb h n q) := by
        intro hd
        rw [Mf_or _ hp4]
        refine Mf_c (fun q hq => ?_)
        by_cases e2 : q = p
        · subst e2; rw [hd, decide_eq_true (rfl : q = q), decide_eq_true (show q < q + 1 by omega)]; simp
        · rw [show decide (q < p + 1) = decide (q < p) from decide_eq_decide.mpr (by omega), decide_eq_false e2, Bool.or_false]
      rw [if_neg (by omega), show nI p + (1 : Int32) = nI (p + 1) by rw [li1, nI_add], e_owedTo (by omega) hG hp4, z_b_some, e_isBright hN hC hV hp4, z_b_some, if_pos p00, if_neg n10, hs.2.2.2]
      have mid : (decide (0 < n) && brn h p) = false → (if nI (sm (fun q => hb (mins h n) (4 * q + p)) 4) ≤ (0 : Int32) then lf_X10_dark_29 N m (nI n) (Mf (fun q => decide (q < p) && dkb h n q)) (nI (p + 1)) σ else lf_X10_dark_29 N m (nI n) (Mf (fun q => decide (q < p) && dkb h n q) ||| ((1 : Int32) <<< (nI p &&& 31))) (nI (p + 1)) σ) = some (Mf (dkb h n), σ) := by
        intro hl
        have hd : dkb h n p = decide (0 < sm (fun q => hb (mins h n) (4 * q + p)) 4) := by unfold dkb; rw [hl, Bool.not_false, Bool.and_true]
        rw [li0, t_le (by omega) (by omega)]
        by_cases e2 : sm (fun q => hb (mins h n) (4 * q + p)) 4 ≤ 0
        · rw [if_pos e2]
          exact nx _ (off (by rw [hd]; exact decide_eq_false (by omega)))
        · rw [if_neg e2]
          exact nx _ (ow (by rw [hd]; exact decide_eq_true (by omega)))
      by_cases hn0 : n = 0
      · rw [if_pos (show nI n ≤ (0 : Int32) by rw [hn0]; decide)]
        exact mid (by rw [decide_eq_false (by omega), Bool.false_and])
      · rw [if_neg (nI_nle (show 0 < n by omega) (by omega))]
        cases hb : brn h p with
        | false =>
          rw [if_pos (show nI (bN false) = (0 : Int32) from rfl), if_pos p00, e_owedTo (by omega) hG hp4, z_b_some, hs.2.2.2]
          exact mid (by rw [hb, Bool.and_false])
        | true =>
          rw [if_neg (show ¬ nI (bN true) = (0 : Int32) by decide)]
          exact nx _ (off (by unfold dkb; rw [hb, decide_eq_true (show 0 < n by omega)]; simp))
theorem st_dark (hN : 2000 ≤ N) (hI : zInv σ τ) (v : Int32) : St (f_X10_dark N v σ) (f_X11_dark N v τ) := by
  obtain ⟨⟨h, hH⟩, hQ⟩ := id hI
  obtain ⟨hC, hM, v0, v1, v2⟩ := id hH
  have h6 := v0.1
  unfold f_X10_dark f_X11_dark
  simp only [z_b_id]
  rcases ou_cases v 0 300 (lo := 0) (hi := 300) rfl rfl (by decide) (by decide) with ⟨n, -, n3, rfl, e⟩ | ⟨-, e⟩ | ⟨-, -, e⟩
  · rw [(e N σ τ).1, (e N σ τ).2, z_b_some, z_b_some, if_pos p00, if_pos p00]
    have L1 : ok (z_b (f_X10_thinkAhead N (nI n) σ) (fun _ t => lf_X10_dark_29 N N (nI n) 0 0 t)) (fun q s => q = Mf (dkb h n) ∧ fC 1 σ s) := by
      refine ok_bm (e_think hN hC v0 (by omega)) (fun _ s hs => ?_)
      obtain ⟨⟨g, g1, g2⟩, fc⟩ := hs
      have hk := dk_c (N := N) (by omega) (hC.other h6 (by decide) (by decide) (by decide) fc) v0 n3 g1 g2 N 0 (by omega) (by omega)
      rw [show Mf (fun q => decide (q < 0) && dkb h n q) = (0 : Int32) from (Mf_c (g := fun _ => false) (fun q hq => by rw [decide_eq_false (by omega), Bool.false_and])).trans (by decide)] at hk
      exact ⟨_, s, hk, rfl, fc⟩
    have L2 : ok (z_b (f_X11_passesAll N 1 1 τ) (fun _ t => lf_X11_dark_30 N N (nI n) 0 0 t)) (fun q t => q = Mf (dkb h n) ∧ RM t h ∧ sM τ t) := by
      refine ok_bm (e_keep (w := 1) (by omega) (by decide) hM h6) (fun _ t0 ht0 => ?_)
      obtain ⟨k1, k2, k3⟩ := ht0
      have hz : ∀ f : Nat → Bool, (∀ q, q < 4 → f q = false) → Mf f = 0 := fun f hf => (Mf_c (g := fun _ => false) hf).trans (by decide)
      have main : ok (lf_X11_dark_30 N N (nI n) (Mf (fun q => decide (0 < 0) && brn h q)) (nI 0) t0) (fun q t => q = Mf (dkb h n) ∧ RM t h ∧ sM τ t) := by
        refine loop_i (W := fun m i s => ok (lf_X11_dark_30 N m (nI n) (Mf (fun q => decide (0 < i) && brn h q)) (nI i) s) (fun q t => q = Mf (dkb h n) ∧ RM t h ∧ sM τ t)) (I := fun i s => RM s (mins h i) ∧ fM t0 s) n ?_ ?_ N 0 t0 (Nat.zero_le _) (by omega) ⟨k2, fM.rf⟩
        · intro m s ⟨p1, p2⟩
          show ok (bf_X11_dark_30 N _ _ _ _ s) _
          unfold bf_X11_dark_30
          rw [t_le (by omega) (by omega)]
          refine ok_t (Nat.le_refl _) ?_
          have es := dk_set (N := N) p1 (mins_V v0 n) (Mf (fun q => decide (0 < n) && brn h q)) N 0 (by omega) (by omega)
          rw [hz (dko (hb (mins h n)) 0) (fun _ _ => rfl)] at es
          refine ok_e es (ok_bm (e_back (w := 1) (by omega) (by decide) (k1.rows (p2.1 14 (by decide))) h6) (fun _ x hx => ok_ret ⟨?_, hx.1, (k3.s.tr p2.s).tr hx.2.s⟩))
          rw [Mf_an]
          refine Mf_c (fun q hq => ?_)
          rw [dko_sm _ hq]
          rfl
        · intro m i s hi ⟨p1, p2⟩ ih
          show ok (bf_X11_dark_30 N _ _ _ _ s) _
          unfold bf_X11_dark_30
          rw [t_le (by omega) (by omega)]
          refine ok_f (by omega) ?_
          have eb := dk_bright (N := N) (by omega) p1 (mins_V v0 i) (fun q => decide (0 < i) && brn h q) (nI n) (nI i) (lf_X11_dark_30 N m) N 0 (by omega) (by omega)
          rw [Mf_c (f := fun q => (decide (0 < i) && brn h q) || (decide (q < 0) && brn (mins h i) q)) (g := fun q => decide (0 < i) && brn h q) (fun q hq => by rw [decide_eq_false (Nat.not_lt_zero q), Bool.false_and, Bool.or_false])] at eb
          refine ok_e eb (ok_bm (e_MgoesMinute (by omega) p1 (mins_V v0 i)) (fun _ s' hs' => ?_))
          rw [li1, nI_add]
          have em : Mf (fun q => (decide (0 < i) && brn h q) || brn (mins h i) q) = Mf (fun q => decide (0 < i + 1) && brn h q) := by
            refine Mf_c (fun q hq => ?_)
            rw [decide_eq_true (show 0 < i + 1 by omega), Bool.true_and]
            by_cases e0 : i = 0
            · subst e0
              rw [decide_eq_false (Nat.lt_irrefl 0), Bool.false_and, Bool.false_or]
              rfl
            · rw [decide_eq_true (show 0 < i by omega), Bool.true_and]
              cases hb : brn (mins h i) q with
              | false => rw [Bool.or_false]
              | true =>
                have := brn_mins (h := h) (r := q) (a := 0) (Nat.zero_le i) hb
                rw [show brn h q = true from this]; rfl
          rw [em]
          exact ih s' ⟨hs'.1, p2.tr hs'.2⟩
      rw [hz (fun q => decide (0 < 0) && brn h q) (fun q _ => by rw [decide_eq_false (Nat.lt_irrefl 0), Bool.false_and])] at main
      exact main
    refine St.of2 L1 L2 (fun q s q' t h1 h2 => ⟨h2.1.trans h1.1.symm, zInv.mk ⟨hC.other h6 (by decide) (by decide) (by decide) h1.2, h2.2.1, v0, v1, v2⟩ (hQ.keep (h1.2.s (by decide)) h2.2.2)⟩)
  · rw [(e N σ τ).1, (e N σ τ).2, z_b_some, z_b_some, if_neg n40, if_neg n40]; exact St_r4 hI
  · rw [(e N σ τ).1, (e N σ τ).2, z_b_some, z_b_some, if_neg n60, if_neg n60]; exact St_r6 hI
end S7
