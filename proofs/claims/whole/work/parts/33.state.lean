/-! The house as a mathematical value: how many candles, their fields (kind, figure, grains, whose, room, lit), draughts, debts (4a + b), minute, and the three sums. -/
abbrev hS : Type := Nat × (Nat → Nat → Nat) × (Nat → Nat) × (Nat → Nat) × Nat × Int32 × Int32 × Int32
abbrev hn (h : hS) : Nat := h.1
abbrev hc (h : hS) : Nat → Nat → Nat := h.2.1
abbrev hd (h : hS) : Nat → Nat := h.2.2.1
abbrev hb (h : hS) : Nat → Nat := h.2.2.2.1
abbrev hm (h : hS) : Nat := h.2.2.2.2.1
abbrev hu (h : hS) : Int32 := h.2.2.2.2.2.1
abbrev hp (h : hS) : Int32 := h.2.2.2.2.2.2.1
abbrev hq (h : hS) : Int32 := h.2.2.2.2.2.2.2
def un {α : Type} (f : Nat → α) (k : Nat) (v : α) : Nat → α := fun j => if j = k then v else f j
theorem un_s {α : Type} (f : Nat → α) (k : Nat) (v : α) : un f k v k = v := if_pos rfl
theorem un_n {α : Type} (f : Nat → α) {k j : Nat} (v : α) (h : j ≠ k) : un f k v j = f j := if_neg h
def CV (c : Nat → Nat) : Prop := c 0 < 6 ∧ c 1 < 10 ∧ c 2 < 1000 ∧ c 3 < 4 ∧ c 4 < 4 ∧ c 5 < 2
/-- the bounds -/
def V0 (h : hS) : Prop := hn h ≤ 6 ∧ (∀ i, i < hn h → CV (hc h i)) ∧ (∀ k, k < 4 → hd h k < 10) ∧ (∀ k, k < 16 → hb h k < 1000) ∧ ∀ a, a < 4 → hb h (5 * a) = 0
def V1 (h : hS) : Prop := ∀ i, i < hn h → hc h i 5 = 1 → 0 < hc h i 2
def RC (σ : zS) (j : Nat) (h : hS) : Prop := σ (18 + j) 4 = nI (hn h) ∧ σ (18 + j) 5 = nI (hm h) ∧ σ (18 + j) 6 = hu h ∧ σ (18 + j) 7 = hp h ∧ σ (18 + j) 8 = hq h ∧ (∀ i, i < hn h → ∀ k, k < 6 → σ (6 * j + i) k = nI (hc h i k)) ∧ (∀ k, k < 4 → σ (24 + j) k = nI (hd h k)) ∧ ∀ k, k < 16 → σ (27 + j) k = nI (hb h k)
def RM (τ : zS) (h : hS) : Prop := τ 0 9 = nI (hn h) ∧ τ 0 10 = nI (hm h) ∧ τ 0 11 = hu h ∧ τ 0 12 = hp h ∧ τ 0 13 = hq h ∧ (∀ i, i < hn h → ∀ k, k < 6 → τ (k + 1) i = nI (hc h i k)) ∧ (∀ k, k < 4 → τ 7 k = nI (hd h k)) ∧ ∀ k, k < 16 → τ 8 k = nI (hb h k)
/-- the rows of house j -/
def hr (j a : Nat) : Prop := (6 * j ≤ a ∧ a < 6 * j + 6) ∨ a = 18 + j ∨ a = 24 + j ∨ a = 27 + j
def fC (j : Nat) (σ σ' : zS) : Prop := ∀ a, ¬ hr j a → σ' a = σ a
theorem fC.rf {j : Nat} {σ : zS} : fC j σ σ := fun _ _ => rfl
theorem fC.tr {j : Nat} {σ σ1 σ2 : zS} (h1 : fC j σ σ1) (h2 : fC j σ1 σ2) : fC j σ σ2 := fun a h => (h2 a h).trans (h1 a h)
theorem fC.put {j a k : Nat} {σ : zS} {v : Int32} (h : hr j a) : fC j σ (z_put σ a k v) := fun b hb => z_put_ne σ k v (fun e => hb (e ▸ h))
theorem fC.row {j a : Nat} {σ : zS} {r : Nat → Int32} (h : hr j a) : fC j σ (z_row σ a r) := fun b hb => z_row_ne σ r (fun e => hb (e ▸ h))
theorem RC.frame {σ σ' : zS} {j : Nat} {h : hS} (hR : RC σ j h) (h6 : hn h ≤ 6) (hf : ∀ a, hr j a → σ' a = σ a) : RC σ' j h := by
  obtain ⟨a1, a2, a3, a4, a5, a6, a7, a8⟩ := hR
  have e1 := hf (18 + j) (Or.inr (Or.inl rfl))
  have e2 := hf (24 + j) (Or.inr (Or.inr (Or.inl rfl)))
  have e3 := hf (27 + j) (Or.inr (Or.inr (Or.inr rfl)))
  refine ⟨by rw [e1]; exact a1, by rw [e1]; exact a2, by rw [e1]; exact a3, by rw [e1]; exact a4, by rw [e1]; exact a5, fun i hi k hk => ?_, fun k hk => by rw [e2]; exact a7 k hk, fun k hk => by rw [e3]; exact a8 k hk⟩
  rw [hf (6 * j + i) (Or.inl ⟨by omega, by omega⟩)]
  exact a6 i hi k hk
theorem RC.other {σ σ' : zS} {j j' : Nat} {h : hS} (hR : RC σ j h) (h6 : hn h ≤ 6) (hj : j < 3) (hj' : j' < 3) (hne : j ≠ j') (hf : fC j' σ σ') : RC σ' j h := by
  refine hR.frame h6 (fun a ha => hf a ?_)
  unfold hr at *
  omega
-- one candle's minute
def h_b (h : hS) (i : Nat) : Nat := min (rate (hc h i 0) (hc h i 1) (hd h (hc h i 4))) (hc h i 2)
def h_d (h : hS) (i : Nat) : Nat := drip (hc h i 0) (hc h i 1) (h_b h i) (hd h (hc h i 4))
def h_w (h : hS) (i : Nat) : Nat := wrth (hc h i 0) (h_b h i - h_d h i)
def h_o (h : hS) (i : Nat) : Nat := 4 * hc h i 3 + hc h i 4
def h_p (h : hS) (i : Nat) : Nat := min (hb h (h_o h i)) (h_w h i)
def h_l (h : hS) (i : Nat) : Prop := hc h i 5 = 1 ∧ 0 < hc h i 2
def h_c (h : hS) (i : Nat) : Nat → Nat := un (un (hc h i) 2 (hc h i 2 - h_b h i)) 5 (if 0 < hc h i 2 - h_b h i then 1 else 0)
def burn0 (h : hS) (i : Nat) : hS := (hn h, un (hc h) i (h_c h i), hd h, un (hb h) (h_o h i) (hb h (h_o h i) - h_p h i), hm h, hu h + nI (h_b h i), hp h + nI (h_d h i), hq h + nI (h_p h i))
def burn1 (h : hS) (i : Nat) : hS := if hc h i 5 = 1 ∧ 0 < hc h i 2 then burn0 h i else h
def burnN (h : hS) : Nat → hS
  | 0 => h
  | i + 1 => burn1 (burnN h i) i
def tick (h : hS) : hS := (hn h, hc h, hd h, hb h, hm h + 1, hu h, hp h, hq h)
def mint (h : hS) : hS := tick (burnN h (hn h))
def mins (h : hS) : Nat → hS
  | 0 => h
  | n + 1 => mint (mins h n)
theorem h_b_lt {h : hS} {i : Nat} (hV : V0 h) (hi : i < hn h) : h_b h i < 16 ∧ h_b h i ≤ hc h i 2 ∧ (0 < hc h i 2 → 1 ≤ h_b h i) := by
  obtain ⟨-, hV2, hV3, -, -⟩ := hV
  obtain ⟨c0, c1, c2, c3, c4, c5⟩ := hV2 i hi
  have := rate_pos _ c0 _ c1 _ (hV3 _ c4)
  unfold h_b
  omega
theorem h_d_le {h : hS} {i : Nat} (hV : V0 h) (hi : i < hn h) : h_d h i ≤ h_b h i := by
  have hb := (h_b_lt hV hi).1
  obtain ⟨-, hV2, hV3, -, -⟩ := hV
  obtain ⟨c0, c1, c2, c3, c4, c5⟩ := hV2 i hi
  exact drip_le _ c0 _ c1 _ hb _ (hV3 _ c4)
theorem h_w_lt {h : hS} {i : Nat} (hV : V0 h) (hi : i < hn h) : h_w h i < 32 := by
  have h1 := (h_b_lt hV hi).1
  have h2 := wrth_le (hc h i 0) (h_b h i - h_d h i)
  unfold h_w
  omega
theorem h_o_lt {h : hS} {i : Nat} (hV : V0 h) (hi : i < hn h) : h_o h i < 16 := by
  obtain ⟨-, hV2, -⟩ := hV
  obtain ⟨c0, c1, c2, c3, c4, c5⟩ := hV2 i hi
  unfold h_o
  omega
theorem burn0_V {h : hS} {i : Nat} (hV : V0 h) (hi : i < hn h) : V0 (burn0 h i) := by
  obtain ⟨v1, v2, v3, v4, v5⟩ := id hV
  refine ⟨v1, fun k hk => ?_, v3, fun k hk => ?_, fun a ha => ?_⟩
  · by_cases hki : k = i
    · subst hki
      obtain ⟨c0, c1, c2, c3, c4, c5⟩ := v2 k hk
      show CV (un (hc h) k (h_c h k) k)
      rw [un_s]
      have e : ∀ q, q ≠ 2 → q ≠ 5 → h_c h k q = hc h k q := fun q h1 h2 => by unfold h_c; rw [un_n _ _ h2, un_n _ _ h1]
      have e2 : h_c h k 2 = hc h k 2 - h_b h k := by unfold h_c; rw [un_n _ _ (by decide), un_s]
      have e5 : h_c h k 5 < 2 := by unfold h_c; rw [un_s]; split <;> omega
      exact ⟨by rw [e 0 (by decide) (by decide)]; exact c0, by rw [e 1 (by decide) (by decide)]; exact c1, by rw [e2]; omega, by rw [e 3 (by decide) (by decide)]; exact c3, by rw [e 4 (by decide) (by decide)]; exact c4, e5⟩
    · show CV (un (hc h) i (h_c h i) k)
      rw [un_n _ _ hki]
      exact v2 k hk
  · show un (hb h) (h_o h i) _ k < 1000
    have := v4 k hk
    by_cases e : k = h_o h i
    · rw [e, un_s]; have := v4 _ (h_o_lt hV hi); omega
    · rw [un_n _ _ e]; exact this
  · show un (hb h) (h_o h i) _ (5 * a) = 0
    by_cases e : 5 * a = h_o h i
    · rw [e, un_s, ← e, v5 a ha]; omega
    · rw [un_n _ _ e]; exact v5 a ha
theorem burn1_V {h : hS} {i : Nat} (hV : V0 h) (hi : i < hn h) : V0 (burn1 h i) := by
  unfold burn1
  split
  · exact burn0_V hV hi
  · exact hV
theorem burn1_n (h : hS) (i : Nat) : hn (burn1 h i) = hn h := by
  unfold burn1
  split <;> rfl
theorem burnN_n (h : hS) (i : Nat) : hn (burnN h i) = hn h := by
  induction i with
  | zero => rfl
  | succ i ih => exact (burn1_n _ _).trans ih
theorem burnN_V {h : hS} (hV : V0 h) : ∀ i, i ≤ hn h → V0 (burnN h i) := by
  intro i
  induction i with
  | zero => intro _; exact hV
  | succ i ih => intro hi; exact burn1_V (ih (by omega)) (by rw [burnN_n]; omega)
theorem mint_V {h : hS} (hV : V0 h) : V0 (mint h) := burnN_V hV _ (Nat.le_refl _)
theorem mint_n (h : hS) : hn (mint h) = hn h := burnN_n h _
theorem mins_V {h : hS} (hV : V0 h) (n : Nat) : V0 (mins h n) := by
  induction n with
  | zero => exact hV
  | succ n ih => exact mint_V ih
theorem mins_n (h : hS) (n : Nat) : hn (mins h n) = hn h := by
  induction n with
  | zero => rfl
  | succ n ih => exact (mint_n _).trans ih
