/-! Pure: what the texts answer. 'ok o P': o answers, and P holds of the answer and the numbers behind it. -/
def ok (o : zA) (P : Int32 → zS → Prop) : Prop := ∃ (r : Int32) (σ : zS), o = some (r, σ) ∧ P r σ
theorem ok_ret {r : Int32} {σ : zS} {P : Int32 → zS → Prop} (h : P r σ) : ok (some (r, σ)) P := ⟨r, σ, rfl, h⟩
theorem ok_g {b : Bool} {o : zA} {P : Int32 → zS → Prop} (hb : b = true) (h : ok o P) : ok (z_g b o) P := by subst hb; exact h
theorem ok_n {x : Int32} {K : Int32 → zA} {P : Int32 → zS → Prop} (h : ok (K x) P) : ok (z_n x K) P := h
theorem ok_m {σ : zS} {K : zS → zA} {P : Int32 → zS → Prop} (h : ok (K σ) P) : ok (z_m σ K) P := h
theorem ok_b {o : zA} {K : Int32 → zS → zA} {P : Int32 → zS → Prop} (h : ok o (fun r σ => ok (K r σ) P)) : ok (z_b o K) P := by
  obtain ⟨r, σ, rfl, h2⟩ := h
  exact h2
theorem ok_be {o : zA} {r : Int32} {σ : zS} {K : Int32 → zS → zA} {P : Int32 → zS → Prop} (e : o = some (r, σ)) (h : ok (K r σ) P) : ok (z_b o K) P := ok_b ⟨r, σ, e, h⟩
theorem ok_if {c : Prop} {dc : Decidable c} {a b : zA} {P : Int32 → zS → Prop} (h1 : c → ok a P) (h2 : ¬ c → ok b P) : ok (@ite _ c dc a b) P := by
  by_cases h : c
  · rw [if_pos h]; exact h1 h
  · rw [if_neg h]; exact h2 h
theorem ok_t {c : Prop} {dc : Decidable c} {a b : zA} {P : Int32 → zS → Prop} (hc : c) (h : ok a P) : ok (@ite _ c dc a b) P := by rw [if_pos hc]; exact h
theorem ok_f {c : Prop} {dc : Decidable c} {a b : zA} {P : Int32 → zS → Prop} (hc : ¬ c) (h : ok b P) : ok (@ite _ c dc a b) P := by rw [if_neg hc]; exact h
theorem ok_mono {o : zA} {P Q : Int32 → zS → Prop} (h : ok o P) (hpq : ∀ r σ, P r σ → Q r σ) : ok o Q := by
  obtain ⟨r, σ, e, h2⟩ := h
  exact ⟨r, σ, e, hpq r σ h2⟩
theorem ok_bm {o : zA} {K : Int32 → zS → zA} {P Q : Int32 → zS → Prop} (h : ok o Q) (hk : ∀ r σ, Q r σ → ok (K r σ) P) : ok (z_b o K) P := ok_b (ok_mono h hk)
theorem ok_e {o o1 : zA} {P : Int32 → zS → Prop} (e : o1 = o) (h : ok o P) : ok o1 P := e ▸ h
theorem z_b_some (r : Int32) (σ : zS) (K : Int32 → zS → zA) : z_b (some (r, σ)) K = K r σ := rfl
/-- a loop that counts up: n fuel, i the counter -/
theorem cnt_loop {Q : zA → Prop} {F : Nat → Int32 → zS → zA} {I : Nat → zS → Prop} {e : Nat} (hend : ∀ n σ, I e σ → Q (F (n + 1) (nI e) σ)) (hstep : ∀ n i σ, i < e → I i σ → (∀ σ', I (i + 1) σ' → Q (F n (nI (i + 1)) σ')) → Q (F (n + 1) (nI i) σ)) : ∀ n i σ, i ≤ e → e - i < n → I i σ → Q (F n (nI i) σ) := by
  intro n
  induction n with
  | zero => intro i σ _ h; omega
  | succ n ih =>
    intro i σ hi hn hI
    by_cases h : i = e
    · subst h; exact hend n σ hI
    · exact hstep n i σ (by omega) hI (fun σ' h' => ih (i + 1) σ' (by omega) (by omega) h')
-- numbers
theorem li0 : (0 : Int32) = nI 0 := rfl
theorem li1 : (1 : Int32) = nI 1 := rfl
theorem li2 : (2 : Int32) = nI 2 := rfl
theorem li3 : (3 : Int32) = nI 3 := rfl
theorem li4 : (4 : Int32) = nI 4 := rfl
theorem li5 : (5 : Int32) = nI 5 := rfl
theorem li6 : (6 : Int32) = nI 6 := rfl
theorem li7 : (7 : Int32) = nI 7 := rfl
theorem li9 : (9 : Int32) = nI 9 := rfl
theorem li16 : (16 : Int32) = nI 16 := rfl
theorem li20 : (20 : Int32) = nI 20 := rfl
theorem z_in_n {a n : Nat} (h : a < n) (hn : n < 2 ^ 31) : z_in (nI a) n = true := by
  have h1 : (nI a).toNatClampNeg = a := nI_clamp (by omega)
  simp only [z_in, Bool.and_eq_true, decide_eq_true_eq]
  exact ⟨nI_pos' (by omega), by rw [h1]; exact h⟩
theorem z_bo_0 : z_bo (nI 0) = true := by decide
theorem z_bo_1 : z_bo (nI 1) = true := by decide
theorem z_bo_n2 {a : Nat} (h : a < 2) : z_bo (nI a) = true := by
  rcases (show a = 0 ∨ a = 1 by omega) with rfl | rfl
  · exact z_bo_0
  · exact z_bo_1
theorem i_lt {a b : Nat} (ha : a < 2 ^ 31) (hb : b < 2 ^ 31) : (nI a < nI b) = (a < b) := propext (nI_ltI ha hb)
theorem i_le {a b : Nat} (ha : a < 2 ^ 31) (hb : b < 2 ^ 31) : (nI a ≤ nI b) = (a ≤ b) := propext (nI_leI ha hb)
theorem i_eq {a b : Nat} (ha : a < 2 ^ 31) (hb : b < 2 ^ 31) : (nI a = nI b) = (a = b) := propext (nI_eq ha hb)
theorem i_min {a b : Nat} (ha : a < 2 ^ 31) (hb : b < 2 ^ 31) : (if nI b < nI a then nI b else nI a) = nI (min a b) := by
  simp only [i_lt hb ha]
  by_cases h : b < a
  · rw [if_pos h, Nat.min_eq_right (by omega)]
  · rw [if_neg h, Nat.min_eq_left (by omega)]
theorem i_max {a b : Nat} (ha : a < 2 ^ 31) (hb : b < 2 ^ 31) : (if nI a < nI b then nI b else nI a) = nI (max a b) := by
  simp only [i_lt ha hb]
  by_cases h : a < b
  · rw [if_pos h, Nat.max_eq_right (by omega)]
  · rw [if_neg h, Nat.max_eq_left (by omega)]
-- the candle's arithmetic
def rate (k f d : Nat) : Nat := match k with
  | 0 => 3 + d / 3
  | 1 => 3 + d / 3 - 1
  | 2 => 2 * (3 + d / 3)
  | 3 => 3 + d / 3 - 1 + f
  | 4 => max 1 (2 * (3 + d / 3) - f)
  | _ => 3 + d / 3 + d
def drip (k f b d : Nat) : Nat := match k with
  | 0 => d * b / 20
  | 1 => 0
  | 2 => b / 2
  | 3 => 0
  | 4 => b / 2 - f
  | _ => min b (2 * (d * b / 20))
def wrth (k c : Nat) : Nat := match k with
  | 1 => 2 * c
  | 2 => c / 2
  | 3 => 2 * c
  | 4 => c / 2
  | _ => c
theorem k6 {P : Nat → Prop} (h0 : P 0) (h1 : P 1) (h2 : P 2) (h3 : P 3) (h4 : P 4) (h5 : P 5) {k : Nat} (hk : k < 6) : P k := by
  rcases (show k = 0 ∨ k = 1 ∨ k = 2 ∨ k = 3 ∨ k = 4 ∨ k = 5 by omega) with rfl | rfl | rfl | rfl | rfl | rfl <;> assumption
theorem rate_pos : ∀ k, k < 6 → ∀ f, f < 10 → ∀ d, d < 10 → 1 ≤ rate k f d ∧ rate k f d ≤ 15 := by decide +kernel
theorem drip_le : ∀ k, k < 6 → ∀ f, f < 10 → ∀ b, b < 16 → ∀ d, d < 10 → drip k f b d ≤ b := by decide +kernel
theorem wrth_le (k c : Nat) : wrth k c ≤ 2 * c := by
  unfold wrth
  split <;> omega
theorem a_r0 : ∀ d, d < 10 → (3 : Int32) + nI d / 3 = nI (3 + d / 3) := by decide +kernel
theorem a_r4 : ∀ f, f < 10 → ∀ d, d < 10 → (if (1 : Int32) < (2 * ((3 : Int32) + nI d / 3) - nI f) then (2 * ((3 : Int32) + nI d / 3) - nI f) else 1) = nI (max 1 (2 * (3 + d / 3) - f)) := by decide +kernel
theorem a_r1 : ∀ d, d < 10 → (3 : Int32) + nI d / 3 - 1 = nI (3 + d / 3 - 1) := by decide +kernel
theorem a_r2 : ∀ d, d < 10 → 2 * ((3 : Int32) + nI d / 3) = nI (2 * (3 + d / 3)) := by decide +kernel
theorem a_r3 : ∀ f, f < 10 → ∀ d, d < 10 → (3 : Int32) + nI d / 3 - 1 + nI f = nI (3 + d / 3 - 1 + f) := by decide +kernel
theorem a_r5 : ∀ d, d < 10 → (3 : Int32) + nI d / 3 + nI d = nI (3 + d / 3 + d) := by decide +kernel
theorem e_rate (N : Nat) {k f d : Nat} (hk : k < 6) (hf : f < 10) (hd : d < 10) (σ : zS) : v_rate N k (nI f) (nI d) σ = some (nI (rate k f d), σ) := by
  revert hk
  intro hk
  refine k6 (P := fun k => v_rate N k (nI f) (nI d) σ = some (nI (rate k f d), σ)) ?_ ?_ ?_ ?_ ?_ ?_ hk
  · show some ((3 : Int32) + nI d / 3, σ) = _; rw [a_r0 d hd]; rfl
  · show some ((3 : Int32) + nI d / 3 - 1, σ) = _; rw [a_r1 d hd]; rfl
  · show some (2 * ((3 : Int32) + nI d / 3), σ) = _; rw [a_r2 d hd]; rfl
  · show some ((3 : Int32) + nI d / 3 - 1 + nI f, σ) = _; rw [a_r3 f hf d hd]; rfl
  · show some ((if (1 : Int32) < (2 * ((3 : Int32) + nI d / 3) - nI f) then (2 * ((3 : Int32) + nI d / 3) - nI f) else 1), σ) = _; rw [a_r4 f hf d hd]; rfl
  · show some ((3 : Int32) + nI d / 3 + nI d, σ) = _; rw [a_r5 d hd]; rfl
theorem a_d0 : ∀ b, b < 16 → ∀ d, d < 10 → nI d * nI b / (20 : Int32) = nI (d * b / 20) := by decide +kernel
theorem a_d2 : ∀ b, b < 16 → nI b / (2 : Int32) = nI (b / 2) := by decide +kernel
theorem a_d4 : ∀ f, f < 10 → ∀ b, b < 16 → (if (0 : Int32) < (nI b / 2 - nI f) then (nI b / 2 - nI f) else (0 : Int32)) = nI (b / 2 - f) := by decide +kernel
theorem a_d5 : ∀ b, b < 16 → ∀ d, d < 10 → (if ((2 : Int32) * (nI d * nI b / 20)) < nI b then ((2 : Int32) * (nI d * nI b / 20)) else nI b) = nI (min b (2 * (d * b / 20))) := by decide +kernel
theorem e_drips (N : Nat) {k f b d : Nat} (hk : k < 6) (hf : f < 10) (hb : b < 16) (hd : d < 10) (σ : zS) : v_drips N k (nI b) (nI f) (nI d) σ = some (nI (drip k f b d), σ) := by
  refine k6 (P := fun k => v_drips N k (nI b) (nI f) (nI d) σ = some (nI (drip k f b d), σ)) ?_ ?_ ?_ ?_ ?_ ?_ hk
  · show some (nI d * nI b / (20 : Int32), σ) = _; rw [a_d0 b hb d hd]; rfl
  · rfl
  · show some (nI b / (2 : Int32), σ) = _; rw [a_d2 b hb]; rfl
  · rfl
  · show some ((if (0 : Int32) < (nI b / 2 - nI f) then (nI b / 2 - nI f) else (0 : Int32)), σ) = _; rw [a_d4 f hf b hb]; rfl
  · show some ((if ((2 : Int32) * (nI d * nI b / 20)) < nI b then ((2 : Int32) * (nI d * nI b / 20)) else nI b), σ) = _; rw [a_d5 b hb d hd]; rfl
theorem a_w1 : ∀ c, c < 16 → (2 : Int32) * nI c = nI (2 * c) := by decide +kernel
theorem e_wc (N : Nat) {k c : Nat} (hk : k < 6) (hc : c < 16) (σ : zS) : v_worthOfClean N k (nI c) σ = some (nI (wrth k c), σ) := by
  refine k6 (P := fun k => v_worthOfClean N k (nI c) σ = some (nI (wrth k c), σ)) ?_ ?_ ?_ ?_ ?_ ?_ hk
  · rfl
  · show some ((2 : Int32) * nI c, σ) = _; rw [a_w1 c hc]; rfl
  · show some (nI c / (2 : Int32), σ) = _; rw [a_d2 c hc]; rfl
  · show some ((2 : Int32) * nI c, σ) = _; rw [a_w1 c hc]; rfl
  · show some (nI c / (2 : Int32), σ) = _; rw [a_d2 c hc]; rfl
  · rfl
theorem e_worth (N : Nat) {k f b d : Nat} (hk : k < 6) (hf : f < 10) (hb : b < 16) (hd : d < 10) (σ : zS) : v_worth N k (nI b) (nI f) (nI d) σ = some (nI (wrth k (b - drip k f b d)), σ) := by
  have h1 : v_worth N k (nI b) (nI f) (nI d) σ = f_X8_worth N k (nI b) (nI f) (nI d) σ := by
    unfold v_worth
    repeat' split
    all_goals rfl
  have hle := drip_le k hk f hf b hb d hd
  rw [h1]
  unfold f_X8_worth
  rw [e_drips N hk hf hb hd, z_b_some, pk_sub hle, e_wc N hk (by omega), z_b_some]
theorem z_g_t (o : zA) : z_g true o = o := rfl
theorem t_le {α : Type} {a b : Nat} {x y : α} {dc : Decidable (nI a ≤ nI b)} (ha : a < 2 ^ 31) (hb : b < 2 ^ 31) : @ite α (nI a ≤ nI b) dc x y = if a ≤ b then x else y := by
  by_cases h : a ≤ b
  · rw [if_pos h, if_pos ((nI_leI ha hb).mpr h)]
  · rw [if_neg h, if_neg (fun q => h ((nI_leI ha hb).mp q))]
theorem t_lt {α : Type} {a b : Nat} {x y : α} {dc : Decidable (nI a < nI b)} (ha : a < 2 ^ 31) (hb : b < 2 ^ 31) : @ite α (nI a < nI b) dc x y = if a < b then x else y := by
  by_cases h : a < b
  · rw [if_pos h, if_pos ((nI_ltI ha hb).mpr h)]
  · rw [if_neg h, if_neg (fun q => h ((nI_ltI ha hb).mp q))]
theorem t_eq {α : Type} {a b : Nat} {x y : α} {dc : Decidable (nI a = nI b)} (ha : a < 2 ^ 31) (hb : b < 2 ^ 31) : @ite α (nI a = nI b) dc x y = if a = b then x else y := by
  by_cases h : a = b
  · rw [if_pos h, if_pos ((nI_eq ha hb).mpr h)]
  · rw [if_neg h, if_neg (fun q => h ((nI_eq ha hb).mp q))]
