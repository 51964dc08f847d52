/-! The night: what is told comes. -/
section T3
variable {σ τ : zS} {N : Nat} {l : Nat → Nat} {n : Nat}
def PF (τ t : zS) : Prop := (∀ a, a ≠ 0 → a ≠ 11 → a ≠ 12 → a ≠ 13 → t a = τ a) ∧ ∀ k, k ≠ 18 → k ≠ 19 → k ≠ 20 → t 0 k = τ 0 k
def PI (l : Nat → Nat) (n : Nat) (τ : zS) (q : Nat) (t : zS) : Prop := t 0 19 = nI (plc l n q) ∧ t 0 20 = nI q ∧ t 0 18 = nI n ∧ (∀ j, j < q → RS l n t j (plc l n j)) ∧ PF τ t
theorem RS_keep {t t' : zS} {j q p : Nat} (hj : j < q) (h : RS l n t j p) (hF : FS q t t') : RS l n t' j p := by
  obtain ⟨h1, h2, h3, h4⟩ := h
  have hc3 : cnt (l p) ≤ 3 := by unfold cnt; split <;> omega
  refine ⟨by rw [(hF.2.2.1 j (by omega)).1]; exact h1, by rw [(hF.2.2.1 j (by omega)).2]; exact h2, fun i hi => ?_, fun h9 => ?_⟩
  · rw [hF.2.2.2 _ (by omega)]; exact h3 i hi
  · rw [hF.2.2.2 _ (by omega)]; exact h4 h9
theorem RS_0 {t t' : zS} {j p : Nat} (h : RS l n t j p) (h1 : t' 11 = t 11) (h2 : t' 12 = t 12) (h3 : t' 13 = t 13) : RS l n t' j p := by
  unfold RS at *
  rw [h1, h2, h3]; exact h
/-- one statement read -/
theorem p_step (hN : 10 ≤ N) (hL : LM l n τ) {q : Nat} (hq : q < 40) (hp : plc l n q < 400) {s : zS} (hs : PI l n τ q s) {P : Int32 → zS → Prop} {rec12 : Int32 → zS → zA} (K1 : okS l n (plc l n q) = true → ∀ t, PI l n τ (q + 1) t → ok (rec12 1 t) P) (K0 : okS l n (plc l n q) = false → ∀ t, t 0 19 = nI (bh l n (plc l n q)) → PF τ t → ok (rec12 0 t) P) : ok (bf_X11_night_34 N rec12 s) P := by
  obtain ⟨s1, s2, s3, s4, s5⟩ := hs
  unfold bf_X11_night_34
  have hLs : LM l n s := hL.fr (s3.trans hL.2.1.symm) (s5.1 10 (by decide) (by decide) (by decide) (by decide))
  refine ok_bm (e_statement hN hLs hp hq s1 s2) (fun r t ht => ?_)
  obtain ⟨t1, t2, t3⟩ := ht
  have t20 : t 0 20 = nI q := (t2.2.1 20 (by decide)).trans s2
  have t18 : t 0 18 = nI n := (t2.2.1 18 (by decide)).trans s3
  have pf : ∀ v, PF τ (z_put t 0 20 v) := fun v => ⟨fun a a0 a1 a2 a3 => by rw [z_put_ne _ _ _ a0, t2.1 a a0 a1 a2 a3]; exact s5.1 a a0 a1 a2 a3, fun k k1 k2 k3 => by rw [z_put_same, pk_un k3, t2.2.1 k k2]; exact s5.2 k k1 k2 k3⟩
  rcases t3 with ⟨ho, rfl, hR⟩ | ⟨ho, rfl⟩
  · refine ok_f (by decide) (ok_m (K1 ho _ ⟨?_, ?_, ?_, fun j hj => ?_, pf _⟩))
    · rw [z_put_same, pk_un (by decide)]; exact t1
    · rw [z_put_same, pk_us, t20, li1, nI_add]
    · rw [z_put_same, pk_un (by decide)]; exact t18
    · have hr : RS l n t j (plc l n j) := by
        by_cases e : j = q
        · subst e; exact hR
        · exact RS_keep (q := q) (by omega) (s4 j (by omega)) t2
      exact RS_0 hr (z_put_ne _ _ _ (by decide)) (z_put_ne _ _ _ (by decide)) (z_put_ne _ _ _ (by decide))
  · refine ok_t rfl (ok_m (K0 ho _ ?_ (pf _)))
    rw [z_put_same, pk_un (by decide)]; exact t1
theorem p_start : PI l n τ 0 (z_put (z_put τ 0 19 0) 0 20 0) ↔ τ 0 18 = nI n := by
  constructor
  · intro h
    have := h.2.2.1
    rw [z_put_same, pk_un (by decide), z_put_same, pk_un (by decide)] at this
    exact this
  · intro h
    refine ⟨?_, ?_, ?_, fun j hj => by omega, fun a a0 _ _ _ => ?_, fun k k1 k2 k3 => ?_⟩
    · rw [z_put_same, pk_un (by decide), z_put_same, pk_us]; rfl
    · rw [z_put_same, pk_us]; rfl
    · rw [z_put_same, pk_un (by decide), z_put_same, pk_un (by decide)]; exact h
    · rw [z_put_ne _ _ _ a0, z_put_ne _ _ _ a0]
    · rw [z_put_same, pk_un k3, z_put_same, pk_un k2]
theorem p_good (hN : 100 ≤ N) (hL : LM l n τ) {Q : Nat} (h0 : 0 < Q) (h20 : Q ≤ 20) (ho : ∀ j, j < Q → okS l n (plc l n j) = true) (hQ : plc l n Q = n) {P : Int32 → zS → Prop} (K : ∀ t, PI l n τ Q t → ok (bf_X11_night_60 N 1 t) P) : ok (f_X11_night N τ) P := by
  have h80 := hL.1
  unfold f_X11_night
  refine ok_m (ok_m ?_)
  have key : ∀ m q s, q ≤ Q → Q - q < m → PI l n τ q s → ok (lf_X11_night_12 N m 1 s) P := by
    intro m
    induction m with
    | zero => intro q s _ h; omega
    | succ m ih =>
      intro q s hq hm hs
      show ok (bf_X11_night_12 N _ _ s) P
      unfold bf_X11_night_12
      have hpl := plc_4 q (fun j hj => ho j (by omega))
      refine ok_f (by decide) ?_
      rw [hs.1, hs.2.2.1, hs.2.1, t_lt (by omega) (by omega)]
      by_cases e : q = Q
      · subst e
        refine ok_f (by omega) (ok_f (fun z => ?_) (K s hs))
        have := (nI_eq (b := 0) (by omega) (by omega)).mp z
        omega
      · refine ok_t (okS_n (ho q (by omega))).1 (p_step (by omega) hL (by omega) (by omega) hs (fun _ t ht => ih (q + 1) t (by omega) (by omega) ht) (fun hf => ?_))
        rw [ho q (by omega)] at hf
        exact absurd hf (by decide)
  exact key N 0 _ (Nat.zero_le _) (by omega) (p_start.mpr hL.2.1)
theorem p_bad (hN : 100 ≤ N) (hL : LM l n τ) {Q : Nat} (h20 : Q ≤ 20) (ho : ∀ j, j < Q → okS l n (plc l n j) = true) (hb : okS l n (plc l n Q) = false) (hQ : 0 < Q → plc l n Q < n) : ok (f_X11_night N τ) (fun r t => r = -1000 - nI (bh l n (plc l n Q)) ∧ PF τ t ∧ t 0 18 = 0) := by
  have h80 := hL.1
  have hplQ := plc_4 Q ho
  unfold f_X11_night
  refine ok_m (ok_m ?_)
  have key : ∀ m q s, q ≤ Q → Q - q + 1 < m → PI l n τ q s → ok (lf_X11_night_12 N m 1 s) (fun r t => r = -1000 - nI (bh l n (plc l n Q)) ∧ PF τ t ∧ t 0 18 = 0) := by
    intro m
    induction m with
    | zero => intro q s _ h; omega
    | succ m ih =>
      intro q s hq hm hs
      show ok (bf_X11_night_12 N _ _ s) _
      unfold bf_X11_night_12
      have hpl := plc_4 q (fun j hj => ho j (by omega))
      refine ok_f (by decide) ?_
      rw [hs.1, hs.2.2.1, hs.2.1, t_lt (by omega) (by omega)]
      have st : ok (bf_X11_night_34 N (lf_X11_night_12 N m) s) (fun r t => r = -1000 - nI (bh l n (plc l n Q)) ∧ PF τ t ∧ t 0 18 = 0) := by
        refine p_step (by omega) hL (by omega) (by omega) hs (fun h1 t ht => ?_) (fun h1 t h2 h3 => ?_)
        · by_cases e : q = Q
          · subst e
            rw [hb] at h1
            exact absurd h1 (by decide)
          · exact ih (q + 1) t (by omega) (by omega) ht
        · have e : q = Q := by
            by_cases e : q = Q
            · exact e
            · rw [ho q (by omega)] at h1
              exact absurd h1 (by decide)
          subst e
          obtain ⟨m, rfl⟩ : ∃ x, m = x + 1 := ⟨m - 1, by omega⟩
          show ok (bf_X11_night_12 N _ _ t) _
          unfold bf_X11_night_12 bf_X11_night_60
          refine ok_t rfl (ok_m (ok_t rfl (ok_ret ⟨?_, ⟨fun a a0 a1 a2 a3 => ?_, fun k k1 k2 k3 => ?_⟩, ?_⟩)))
          · rw [z_put_same, pk_un (by decide), h2]
          · rw [z_put_ne _ _ _ a0]; exact h3.1 a a0 a1 a2 a3
          · rw [z_put_same, pk_un k1]; exact h3.2 k k1 k2 k3
          · rw [z_put_same, pk_us]
      by_cases e : q = 0
      · subst e
        refine ok_if (fun _ => st) (fun _ => ok_t rfl st)
      · refine ok_t ?_ st
        by_cases e2 : q = Q
        · rw [e2]; exact hQ (by omega)
        · exact (okS_n (ho q (by omega))).1
  exact key N 0 _ (Nat.zero_le _) (by omega) (p_start.mpr hL.2.1)
-- one statement comes
def cnd (a b v w : Nat) : Nat → Nat := fun k => if k = 0 then a else if k = 1 then b else if k = 2 then v else if k = 3 then w else if k = 4 then w else 0
def addc (g : hS) (a b v w : Nat) : hS := (hn g + 1, un (hc g) (hn g) (cnd a b v w), hd g, hb g, hm g, hu g, hp g, hq g)
def plcd (g : hS) (a b : Nat) : hS := setc (setc g a 4 b) a 5 (bN (decide (0 < hc g a 2)))
def ap (l : Nat → Nat) (n : Nat) (g : hS) (p : Nat) : Option hS :=
  if l p = 99 then (if l (p + 1) - 48 < 6 ∧ l (p + 3) - 48 < 4 ∧ hn g < 6 then some (addc g (l (p + 1) - 48) (l (p + 2) - 48) (nmb l n 3 (p + 4) 0) (l (p + 3) - 48)) else none)
  else if l p = 100 then (if l (p + 1) - 48 < 4 ∧ l (p + 2) - 48 < 4 ∧ l (p + 1) - 48 ≠ l (p + 2) - 48 then some (setb g (4 * (l (p + 1) - 48) + (l (p + 2) - 48)) (nmb l n 3 (p + 3) 0)) else none)
  else if l p = 114 then (if l (p + 1) - 48 < 4 then some (setd g (l (p + 1) - 48) (l (p + 2) - 48)) else none)
  else (if l (p + 1) - 48 < hn g ∧ l (p + 2) - 48 < 4 then some (plcd g (l (p + 1) - 48) (l (p + 2) - 48)) else none)
theorem plcd_V {g : hS} (hV : V0 g) {a b : Nat} (ha : a < hn g) (hb : b < 4) : V0 (plcd g a b) := by
  obtain ⟨v1, v2, v3, v4, v5⟩ := hV
  refine ⟨v1, fun q hq => ?_, v3, v4, v5⟩
  have hq' : q < hn g := hq
  show CV (un (un (hc g) a (un (hc g a) 4 b)) a (un (un (hc g) a (un (hc g a) 4 b) a) 5 (bN (decide (0 < hc g a 2)))) q)
  by_cases e : q = a
  · subst e
    obtain ⟨c0, c1, c2, c3, c4, c5⟩ := v2 q hq'
    rw [un_s, un_s]
    exact ⟨by rw [un_n _ _ (by decide), un_n _ _ (by decide)]; exact c0, by rw [un_n _ _ (by decide), un_n _ _ (by decide)]; exact c1, by rw [un_n _ _ (by decide), un_n _ _ (by decide)]; exact c2, by rw [un_n _ _ (by decide), un_n _ _ (by decide)]; exact c3, by rw [un_n _ _ (by decide), un_s]; exact hb, by rw [un_s]; exact bN_lt _⟩
  · rw [un_n _ _ e, un_n _ _ e]; exact v2 q hq'
theorem plcd_V1 {g : hS} (h1 : V1 g) {a b : Nat} : V1 (plcd g a b) := by
  intro q hq
  have hq' : q < hn g := hq
  show un (un (hc g) a (un (hc g a) 4 b)) a (un (un (hc g) a (un (hc g a) 4 b) a) 5 (bN (decide (0 < hc g a 2)))) q 5 = 1 → 0 < un (un (hc g) a (un (hc g a) 4 b)) a (un (un (hc g) a (un (hc g a) 4 b) a) 5 (bN (decide (0 < hc g a 2)))) q 2
  by_cases e : q = a
  · subst e
    rw [un_s, un_s, un_s, un_n _ _ (by decide), un_n _ _ (by decide)]
    intro h
    by_cases z : 0 < hc g q 2
    · exact z
    · rw [decide_eq_false z] at h; exact absurd h (by decide)
  · rw [un_n _ _ e, un_n _ _ e]; exact h1 q hq'
theorem addc_V {g : hS} (hV : V0 g) {a b v w : Nat} (h6 : hn g < 6) (ha : a < 6) (hb : b < 10) (hv : v < 1000) (hw : w < 4) : V0 (addc g a b v w) := by
  obtain ⟨v1, v2, v3, v4, v5⟩ := hV
  refine ⟨h6, fun q hq => ?_, v3, v4, v5⟩
  have hq' : q < hn g + 1 := hq
  show CV (un (hc g) (hn g) (cnd a b v w) q)
  by_cases e : q = hn g
  · rw [e, un_s]; exact ⟨ha, hb, hv, hw, hw, show (0 : Nat) < 2 by decide⟩
  · rw [un_n _ _ e]; exact v2 q (by omega)
theorem addc_V1 {g : hS} (h1 : V1 g) {a b v w : Nat} : V1 (addc g a b v w) := by
  intro q hq
  have hq' : q < hn g + 1 := hq
  show un (hc g) (hn g) (cnd a b v w) q 5 = 1 → 0 < un (hc g) (hn g) (cnd a b v w) q 2
  by_cases e : q = hn g
  · rw [e, un_s]; intro h; exact absurd h (show ¬ (0 : Nat) = 1 by decide)
  · rw [un_n _ _ e]; exact h1 q (by omega)
theorem setb_V {g : hS} (hV : V0 g) {a v : Nat} (hv : v < 1000) (h5 : ∀ q, q < 4 → a ≠ 5 * q) : V0 (setb g a v) := by
  obtain ⟨v1, v2, v3, v4, v5⟩ := hV
  refine ⟨v1, v2, v3, fun k hk => ?_, fun q hq => ?_⟩
  · show un (hb g) a v k < 1000
    by_cases e : k = a
    · subst e; rw [un_s]; exact hv
    · rw [un_n _ _ e]; exact v4 k hk
  · show un (hb g) a v (5 * q) = 0
    rw [un_n _ _ (fun e => h5 q hq e.symm)]; exact v5 q hq
theorem setd_V {g : hS} (hV : V0 g) {a v : Nat} (hv : v < 10) : V0 (setd g a v) := by
  obtain ⟨v1, v2, v3, v4, v5⟩ := hV
  refine ⟨v1, v2, fun k hk => ?_, v4, v5⟩
  show un (hd g) a v k < 10
  by_cases e : k = a
  · subst e; rw [un_s]; exact hv
  · rw [un_n _ _ e]; exact v3 k hk
/-- the digits of a statement -/
theorem okS_d {p : Nat} (h : okS l n p = true) : (l p = 99 ∨ l p = 100 ∨ l p = 112 ∨ l p = 114) ∧ (∀ j, j < ldg (l p) → dgt l n (p + 1 + j) = true) ∧ p < n := by
  obtain ⟨h1, h2, h3⟩ := okS_t h
  obtain ⟨g1, g2, -⟩ := okS_n h
  rw [g2] at h1 h2
  refine ⟨ldg_c h1, fun j hj => dcn_in _ _ _ (show j < stc l n p by omega), g1⟩
theorem ap_V {g g' : hS} {p : Nat} (hok : okS l n p = true) (hV : V0 g) (h1 : V1 g) (h : ap l n g p = some g') : V0 g' ∧ V1 g' ∧ hm g' = hm g := by
  obtain ⟨hc4, hd, hp⟩ := okS_d hok
  have hl2 : 2 ≤ ldg (l p) := by rcases hc4 with e | e | e | e <;> rw [e] <;> decide
  have d1 := dgt_t (hd 0 (by omega))
  have d2 := dgt_t (hd 1 (by omega))
  have n3 : ∀ k, nmb l n 3 k 0 < 1000 := fun k => by have := nmb_lt l n 3 k 0; omega
  have d2' : l (p + 2) ≤ 57 := d2.2.2
  unfold ap at h
  by_cases e1 : l p = 99
  · rw [if_pos e1] at h
    by_cases c : l (p + 1) - 48 < 6 ∧ l (p + 3) - 48 < 4 ∧ hn g < 6
    · rw [if_pos c] at h
      cases h
      exact ⟨addc_V hV c.2.2 c.1 (by omega) (n3 _) c.2.1, addc_V1 h1, rfl⟩
    · rw [if_neg c] at h; cases h
  · rw [if_neg e1] at h
    by_cases e2 : l p = 100
    · rw [if_pos e2] at h
      by_cases c : l (p + 1) - 48 < 4 ∧ l (p + 2) - 48 < 4 ∧ l (p + 1) - 48 ≠ l (p + 2) - 48
      · rw [if_pos c] at h
        cases h
        exact ⟨setb_V hV (n3 _) (fun q hq => by omega), h1, rfl⟩
      · rw [if_neg c] at h; cases h
    · rw [if_neg e2] at h
      by_cases e3 : l p = 114
      · rw [if_pos e3] at h
        by_cases c : l (p + 1) - 48 < 4
        · rw [if_pos c] at h
          cases h
          exact ⟨setd_V hV (by omega), h1, rfl⟩
        · rw [if_neg c] at h; cases h
      · rw [if_neg e3] at h
        by_cases c : l (p + 1) - 48 < hn g ∧ l (p + 2) - 48 < 4
        · rw [if_pos c] at h
          cases h
          exact ⟨plcd_V hV c.1 c.2, plcd_V1 h1, rfl⟩
        · rw [if_neg c] at h; cases h
end T3
