/-! The night's letters: the form. -/
section T1
def dgt (l : Nat → Nat) (n k : Nat) : Bool := decide (k < n) && (decide (48 ≤ l k) && decide (l k ≤ 57))
theorem dgt_t {l : Nat → Nat} {n k : Nat} (h : dgt l n k = true) : k < n ∧ 48 ≤ l k ∧ l k ≤ 57 := by
  unfold dgt at h
  rw [Bool.and_eq_true, Bool.and_eq_true] at h
  exact ⟨of_decide_eq_true h.1, of_decide_eq_true h.2.1, of_decide_eq_true h.2.2⟩
theorem dgt_i {l : Nat → Nat} {n k : Nat} (h1 : k < n) (h2 : 48 ≤ l k) (h3 : l k ≤ 57) : dgt l n k = true := by
  unfold dgt
  rw [decide_eq_true h1, decide_eq_true h2, decide_eq_true h3]; rfl
theorem dgt_f {l : Nat → Nat} {n k : Nat} (h : ¬ (k < n ∧ 48 ≤ l k ∧ l k ≤ 57)) : dgt l n k = false := by
  cases hd : dgt l n k with
  | false => rfl
  | true => exact absurd (dgt_t hd) h
/-- digits from a place on, m at most -/
def dcn (l : Nat → Nat) (n : Nat) : Nat → Nat → Nat
  | 0, _ => 0
  | m + 1, p => if dgt l n p = true then dcn l n m (p + 1) + 1 else 0
theorem dcn_le (l : Nat → Nat) (n : Nat) : ∀ m p, dcn l n m p ≤ m := by
  intro m
  induction m with
  | zero => intro p; exact Nat.le_refl _
  | succ m ih =>
    intro p
    have := ih (p + 1)
    show (if dgt l n p = true then dcn l n m (p + 1) + 1 else 0) ≤ m + 1
    split <;> omega
theorem dcn_at {l : Nat → Nat} {n : Nat} : ∀ t m p, (∀ j, j < t → dgt l n (p + j) = true) → t ≤ m → dcn l n m p = t + dcn l n (m - t) (p + t) := by
  intro t
  induction t with
  | zero => intro m p _ _; rw [Nat.zero_add, Nat.sub_zero, Nat.add_zero]
  | succ t ih =>
    intro m p hd hm
    obtain ⟨m, rfl⟩ : ∃ x, m = x + 1 := ⟨m - 1, by omega⟩
    show (if dgt l n p = true then dcn l n m (p + 1) + 1 else 0) = _
    rw [if_pos (show dgt l n p = true from hd 0 (by omega)), ih m (p + 1) (fun j hj => by rw [show p + 1 + j = p + (j + 1) by omega]; exact hd (j + 1) (by omega)) (by omega), show m + 1 - (t + 1) = m - t by omega, show p + 1 + t = p + (t + 1) by omega]
    omega
theorem dcn_in {l : Nat → Nat} {n : Nat} : ∀ m p j, j < dcn l n m p → dgt l n (p + j) = true := by
  intro m
  induction m with
  | zero => intro p j h; exact absurd h (Nat.not_lt_zero _)
  | succ m ih =>
    intro p j h
    have h : j < (if dgt l n p = true then dcn l n m (p + 1) + 1 else 0) := h
    by_cases e : dgt l n p = true
    · rw [if_pos e] at h
      by_cases e0 : j = 0
      · subst e0; exact e
      · have := ih (p + 1) (j - 1) (by omega)
        rw [show p + 1 + (j - 1) = p + j by omega] at this
        exact this
    · rw [if_neg e] at h; omega
theorem dcn_off {l : Nat → Nat} {n p : Nat} (h : dgt l n p = false) : ∀ m, dcn l n m p = 0 := by
  intro m
  cases m with
  | zero => rfl
  | succ m =>
    show (if dgt l n p = true then dcn l n m (p + 1) + 1 else 0) = 0
    rw [h]; rfl
def nmb (l : Nat → Nat) (n : Nat) : Nat → Nat → Nat → Nat
  | 0, _, acc => acc
  | m + 1, p, acc => if dgt l n p = true then nmb l n m (p + 1) (10 * acc + (l p - 48)) else acc
theorem nmb_lt (l : Nat → Nat) (n : Nat) : ∀ m p acc, nmb l n m p acc < (acc + 1) * 10 ^ m := by
  intro m
  induction m with
  | zero => intro p acc; show acc < (acc + 1) * 10 ^ 0; omega
  | succ m ih =>
    intro p acc
    show (if dgt l n p = true then nmb l n m (p + 1) (10 * acc + (l p - 48)) else acc) < (acc + 1) * 10 ^ (m + 1)
    have hp : 0 < 10 ^ m := Nat.pow_pos (by decide)
    rw [Nat.pow_succ]
    by_cases e : dgt l n p = true
    · rw [if_pos e]
      obtain ⟨h1, h2, h3⟩ := dgt_t e
      refine Nat.lt_of_lt_of_le (ih _ _) ?_
      rw [Nat.mul_comm (10 ^ m) 10, ← Nat.mul_assoc]
      exact Nat.mul_le_mul_right _ (by omega)
    · rw [if_neg e]
      have : (acc + 1) * 1 ≤ (acc + 1) * (10 ^ m * 10) := Nat.mul_le_mul_left _ (by omega)
      omega
def ldg (s : Nat) : Nat := if s = 99 then 4 else if s = 100 then 3 else if s = 112 then 2 else if s = 114 then 2 else 0
def mdg (s : Nat) : Nat := if s = 99 then 6 else if s = 100 then 5 else ldg s
def sg (l : Nat → Nat) (n p : Nat) : Nat := if p < n then l p else 0
def stc (l : Nat → Nat) (n p : Nat) : Nat := dcn l n (mdg (sg l n p)) (p + 1)
def okS (l : Nat → Nat) (n p : Nat) : Bool := decide (0 < ldg (sg l n p)) && (decide (ldg (sg l n p) ≤ stc l n p) && decide (sg l n (p + 1 + stc l n p) = 59))
def bh (l : Nat → Nat) (n p : Nat) : Nat := if ldg (sg l n p) = 0 then p else if okS l n p = true then p + 1 + stc l n p + 1 else p + 1 + stc l n p
theorem okS_t {l : Nat → Nat} {n p : Nat} (h : okS l n p = true) : 0 < ldg (sg l n p) ∧ ldg (sg l n p) ≤ stc l n p ∧ sg l n (p + 1 + stc l n p) = 59 := by
  unfold okS at h
  rw [Bool.and_eq_true, Bool.and_eq_true] at h
  exact ⟨of_decide_eq_true h.1, of_decide_eq_true h.2.1, of_decide_eq_true h.2.2⟩
theorem okS_i {l : Nat → Nat} {n p : Nat} (h1 : 0 < ldg (sg l n p)) (h2 : ldg (sg l n p) ≤ stc l n p) (h3 : sg l n (p + 1 + stc l n p) = 59) : okS l n p = true := by
  unfold okS
  rw [decide_eq_true h1, decide_eq_true h2, decide_eq_true h3]; rfl
theorem okS_f {l : Nat → Nat} {n p : Nat} (h : ¬ (0 < ldg (sg l n p) ∧ ldg (sg l n p) ≤ stc l n p ∧ sg l n (p + 1 + stc l n p) = 59)) : okS l n p = false := by
  cases hd : okS l n p with
  | false => rfl
  | true => exact absurd (okS_t hd) h
theorem bh_t {l : Nat → Nat} {n p : Nat} (h : okS l n p = true) : bh l n p = p + 1 + stc l n p + 1 := by
  have := (okS_t h).1
  unfold bh
  rw [if_neg (by omega), if_pos h]
theorem bh_f {l : Nat → Nat} {n p : Nat} (h0 : 0 < ldg (sg l n p)) (h : okS l n p = false) : bh l n p = p + 1 + stc l n p := by
  unfold bh
  rw [if_neg (by omega), h]; rfl
theorem ldg_c {s : Nat} (h : 0 < ldg s) : s = 99 ∨ s = 100 ∨ s = 112 ∨ s = 114 := by
  unfold ldg at h
  repeat' split at h
  all_goals omega
theorem sg_lt {l : Nat → Nat} {n p : Nat} (h : 0 < sg l n p) : p < n ∧ sg l n p = l p := by
  unfold sg at *
  by_cases e : p < n
  · exact ⟨e, if_pos e⟩
  · rw [if_neg e] at h; omega
theorem okS_n {l : Nat → Nat} {n p : Nat} (h : okS l n p = true) : p < n ∧ sg l n p = l p ∧ p + 4 ≤ bh l n p ∧ bh l n p ≤ n := by
  obtain ⟨h1, h2, h3⟩ := okS_t h
  have h4 := ldg_c h1
  have h5 := sg_lt (l := l) (n := n) (p := p) (by omega)
  have h6 := sg_lt (l := l) (n := n) (p := p + 1 + stc l n p) (by omega)
  have h7 : 2 ≤ ldg (sg l n p) := by rcases h4 with e | e | e | e <;> rw [e] <;> decide
  rw [bh_t h]
  omega
theorem stc_le (l : Nat → Nat) (n p : Nat) : stc l n p ≤ 6 := by
  have h1 := dcn_le l n (mdg (sg l n p)) (p + 1)
  have h2 : mdg (sg l n p) ≤ 6 := by
    unfold mdg ldg
    repeat' split
    all_goals omega
  unfold stc
  omega
theorem bh_le (l : Nat → Nat) (n p : Nat) : bh l n p ≤ p + 8 := by
  have := stc_le l n p
  unfold bh
  split
  · omega
  · split <;> omega
def plc (l : Nat → Nat) (n : Nat) : Nat → Nat
  | 0 => 0
  | q + 1 => bh l n (plc l n q)
theorem plc_4 {l : Nat → Nat} {n : Nat} : ∀ q, (∀ j, j < q → okS l n (plc l n j) = true) → 4 * q ≤ plc l n q ∧ plc l n q ≤ n := by
  intro q
  induction q with
  | zero => intro _; exact ⟨Nat.le_refl _, Nat.zero_le _⟩
  | succ q ih =>
    intro h
    have h1 := ih (fun j hj => h j (by omega))
    have h2 := okS_n (h q (by omega))
    show 4 * (q + 1) ≤ bh l n (plc l n q) ∧ bh l n (plc l n q) ≤ n
    omega
theorem form_cases (l : Nat → Nat) {n : Nat} (hn : n ≤ 80) : (∃ Q, 0 < Q ∧ Q ≤ 20 ∧ (∀ j, j < Q → okS l n (plc l n j) = true) ∧ (∀ j, j < Q → plc l n j < n) ∧ plc l n Q = n) ∨ ∃ Q, Q ≤ 20 ∧ (∀ j, j < Q → okS l n (plc l n j) = true) ∧ (0 < Q → plc l n Q < n) ∧ okS l n (plc l n Q) = false := by
  have key : ∀ k q, 21 - q = k → (∀ j, j < q → okS l n (plc l n j) = true) → (0 < q → plc l n q < n) → ((∃ Q, 0 < Q ∧ Q ≤ 20 ∧ (∀ j, j < Q → okS l n (plc l n j) = true) ∧ (∀ j, j < Q → plc l n j < n) ∧ plc l n Q = n) ∨ ∃ Q, Q ≤ 20 ∧ (∀ j, j < Q → okS l n (plc l n j) = true) ∧ (0 < Q → plc l n Q < n) ∧ okS l n (plc l n Q) = false) := by
    intro k
    induction k with
    | zero =>
      intro q hk h1 h2
      have := plc_4 q h1
      omega
    | succ k ih =>
      intro q hk h1 h2
      have h4 := plc_4 q h1
      cases ho : okS l n (plc l n q) with
      | false => exact Or.inr ⟨q, by omega, h1, h2, ho⟩
      | true =>
        have hall : ∀ j, j < q + 1 → okS l n (plc l n j) = true := by
          intro j hj
          by_cases e : j = q
          · subst e; exact ho
          · exact h1 j (by omega)
        have h5 := plc_4 (q + 1) hall
        by_cases e : plc l n (q + 1) < n
        · exact ih (q + 1) (by omega) hall (fun _ => e)
        · refine Or.inl ⟨q + 1, by omega, by omega, hall, fun j hj => ?_, by omega⟩
          exact (okS_n (hall j hj)).1
  exact key 21 0 rfl (fun j hj => by omega) (fun h => by omega)
-- the class's letters
variable {σ τ : zS} {N : Nat}
def LC (l : Nat → Nat) (n : Nat) (σ : zS) : Prop := n ≤ 80 ∧ σ 38 1 = nI n ∧ ∀ k, k < n → l k < 256 ∧ σ 39 k = nI (l k)
def SG (l : Nat → Nat) (n p : Nat) : Int32 := if p < n then nI (l p) else -1
theorem e_sign {l : Nat → Nat} {n : Nat} (hL : LC l n σ) {p : Nat} (hp : p < 1000) : f_X5_signAt N (nI p) σ = some (SG l n p, σ) := by
  obtain ⟨h1, h2, h3⟩ := hL
  unfold f_X5_signAt SG
  rw [if_neg (nI_pos (by omega)), h2, t_le (by omega) (by omega)]
  by_cases e : p < n
  · rw [if_neg (by omega), if_pos e, z_in_n (show p < 80 by omega) (by decide), z_g_t, nI_clamp (by omega), (h3 p e).2]
  · rw [if_pos (by omega), if_neg e]
theorem SG_i {l : Nat → Nat} {n p : Nat} (hl : ∀ k, k < n → l k < 256) : (SG l n p < 48 ∨ 57 < SG l n p) ↔ dgt l n p = false := by
  unfold SG
  by_cases e : p < n
  · have := hl p e
    rw [if_pos e, show (48 : Int32) = nI 48 from rfl, show (57 : Int32) = nI 57 from rfl, i_lt (by omega) (by omega), i_lt (by omega) (by omega)]
    constructor
    · intro h; exact dgt_f (by omega)
    · intro h
      by_cases h1 : 48 ≤ l p
      · by_cases h2 : l p ≤ 57
        · rw [dgt_i e h1 h2] at h; exact absurd h (by decide)
        · right; omega
      · left; omega
  · rw [if_neg e]
    constructor
    · intro _; exact dgt_f (by omega)
    · intro _; left; decide
theorem e_isDigit {l : Nat → Nat} {n : Nat} (hL : LC l n σ) {p : Nat} (hp : p < 1000) : f_X5_isDigitAt N (nI p) σ = some (nI (bN (dgt l n p)), σ) := by
  have hi := SG_i (l := l) (n := n) (p := p) (fun k hk => (hL.2.2 k hk).1)
  unfold f_X5_isDigitAt
  rw [e_sign hL hp, z_b_some, e_sign hL hp, z_b_some]
  by_cases h1 : SG l n p < 48
  · rw [if_pos h1, hi.mp (Or.inl h1)]; rfl
  · rw [if_neg h1]
    by_cases h2 : 57 < SG l n p
    · rw [if_pos h2, hi.mp (Or.inr h2)]; rfl
    · rw [if_neg h2]
      cases hd : dgt l n p with
      | false => exact absurd (hi.mpr hd) (fun q => q.elim h1 h2)
      | true => rfl
theorem e_digit {l : Nat → Nat} {n : Nat} (hL : LC l n σ) {p : Nat} (hd : dgt l n p = true) : f_X5_digitAt N (nI p) σ = some (nI (l p - 48), σ) := by
  obtain ⟨h1, h2, h3⟩ := dgt_t hd
  have := hL.1
  unfold f_X5_digitAt
  rw [e_sign hL (by omega), z_b_some]
  unfold SG
  rw [if_pos h1, show (48 : Int32) = nI 48 from rfl, pk_sub h2]
theorem e_number {l : Nat → Nat} {n : Nat} (hN : 10 ≤ N) (hL : LC l n σ) {p : Nat} (hp : p < 500) : f_X5_numberAt N (nI p) σ = some (nI (nmb l n 3 p 0), σ) := by
  unfold f_X5_numberAt
  have key : ∀ m k acc, k ≤ 3 → 3 - k < m → lf_X5_numberAt_4 N m (nI p) (nI acc) (nI k) σ = some (nI (nmb l n (3 - k) (p + k) acc), σ) := by
    intro m
    induction m with
    | zero => intro k acc _ h; omega
    | succ m ih =>
      intro k acc hk hm
      show bf_X5_numberAt_4 N _ _ _ _ σ = _
      unfold bf_X5_numberAt_4 z_n
      rw [li3, t_le (by omega) (by omega)]
      by_cases e : k = 3
      · subst e; rw [if_pos (Nat.le_refl _)]; rfl
      · rw [if_neg (by omega), nI_add, e_isDigit hL (by omega), z_b_some, show 3 - k = (3 - (k + 1)) + 1 by omega]
        show _ = some (nI (if dgt l n (p + k) = true then nmb l n (3 - (k + 1)) (p + k + 1) (10 * acc + (l (p + k) - 48)) else acc), σ)
        cases hd : dgt l n (p + k) with
        | false => rfl
        | true =>
          rw [if_neg (show ¬ nI (bN true) = (0 : Int32) by decide), if_pos rfl, e_digit hL hd, z_b_some, show (10 : Int32) = nI 10 from rfl, pk_mul, nI_add, li1, nI_add, Nat.mul_comm acc 10]
          exact ih (k + 1) _ (by omega) (by omega)
  exact key N 0 0 (by omega) (by omega)
theorem e_ldg {l : Nat → Nat} {n : Nat} (hl : ∀ k, k < n → l k < 256) (p : Nat) : f_X5_leastDigits N (SG l n p) σ = some (nI (ldg (sg l n p)), σ) := by
  unfold f_X5_leastDigits SG sg ldg
  by_cases e : p < n
  · have := hl p e
    rw [if_pos e, if_pos e, show (99 : Int32) = nI 99 from rfl, show (100 : Int32) = nI 100 from rfl, show (112 : Int32) = nI 112 from rfl, show (114 : Int32) = nI 114 from rfl, t_eq (by omega) (by omega), t_eq (by omega) (by omega), t_eq (by omega) (by omega), t_eq (by omega) (by omega)]
    repeat' split
    all_goals rfl
  · rw [if_neg e, if_neg e]; rfl
theorem e_mdg {l : Nat → Nat} {n : Nat} (hl : ∀ k, k < n → l k < 256) (p : Nat) : f_X5_mostDigits N (SG l n p) σ = some (nI (mdg (sg l n p)), σ) := by
  unfold f_X5_mostDigits bf_X5_mostDigits_12 bf_X5_mostDigits_17
  rw [e_ldg hl, z_b_some, if_neg n10, z_b_some, if_pos p00, li0, nI_add, li2, nI_add]
  unfold SG sg mdg
  by_cases e : p < n
  · have := hl p e
    rw [if_pos e, if_pos e, show (99 : Int32) = nI 99 from rfl, show (100 : Int32) = nI 100 from rfl, t_eq (by omega) (by omega), t_eq (by omega) (by omega)]
    by_cases h1 : l p = 99
    · rw [if_pos h1, if_pos h1, h1]; rfl
    · rw [if_neg h1, if_neg h1]
      by_cases h2 : l p = 100
      · rw [if_pos h2, if_pos h2, h2]; rfl
      · rw [if_neg h2, if_neg h2]; rfl
  · rw [if_neg e, if_neg e]; rfl
theorem SG_59 {l : Nat → Nat} {n : Nat} (hl : ∀ k, k < n → l k < 256) (p : Nat) : (SG l n p = 59) = (sg l n p = 59) := by
  unfold SG sg
  by_cases e : p < n
  · have := hl p e
    rw [if_pos e, if_pos e, show (59 : Int32) = nI 59 from rfl, i_eq (by omega) (by omega)]
  · rw [if_neg e, if_neg e]
    exact propext ⟨fun h => absurd h (by decide), fun h => absurd h (by decide)⟩
def bhI (l : Nat → Nat) (n p : Nat) : Int32 := if okS l n p = true then nI (bh l n p) else -1000 - nI (bh l n p)
theorem e_behind {l : Nat → Nat} {n : Nat} (hN : 10 ≤ N) (hL : LC l n σ) {p : Nat} (hp : p < 500) : f_X5_behindStatement N (nI p) σ = some (bhI l n p, σ) := by
  have hl : ∀ k, k < n → l k < 256 := fun k hk => (hL.2.2 k hk).1
  have hst := stc_le l n p
  unfold f_X5_behindStatement
  rw [e_sign hL (by omega), z_b_some, e_ldg hl, z_b_some, e_sign hL (by omega), z_b_some, e_mdg hl, z_b_some]
  have hld : ldg (sg l n p) < 5 := by
    unfold ldg
    repeat' split
    all_goals omega
  by_cases h0 : ldg (sg l n p) = 0
  · rw [h0, if_pos (show nI 0 = (0 : Int32) from rfl)]
    unfold bhI
    rw [okS_f (by omega), if_neg (by decide)]
    unfold bh
    rw [if_pos h0]
  · have hne : ¬ nI (ldg (sg l n p)) = (0 : Int32) := fun z => h0 ((nI_eq (b := 0) (by omega) (by omega)).mp z)
    rw [if_neg hne]
    have hmd : mdg (sg l n p) < 7 := by
      unfold mdg ldg
      repeat' split
      all_goals omega
    have fin : ∀ c, c = stc l n p → bf_X5_behindStatement_56 N (nI p) (nI (ldg (sg l n p))) (nI c) σ = some (bhI l n p, σ) := by
      intro c hc
      unfold bf_X5_behindStatement_56 z_n
      dsimp only
      rw [t_lt (by omega) (by omega), li1, nI_add, nI_add]
      unfold bhI
      by_cases h1 : c < ldg (sg l n p)
      · have ho : okS l n p = false := okS_f (by omega)
        rw [if_pos h1, ho, if_neg (by decide), bh_f (by omega) ho, hc]
      · rw [if_neg h1, e_sign hL (by omega), z_b_some]
        by_cases h2 : sg l n (p + 1 + c) = 59
        · have ho : okS l n p = true := okS_i (by omega) (by omega) (by rw [← hc]; exact h2)
          rw [if_pos (by rw [SG_59 hl]; exact h2), ho, if_pos rfl, bh_t ho, hc, nI_add]
        · have ho : okS l n p = false := okS_f (by rw [← hc]; omega)
          rw [if_neg (by rw [SG_59 hl]; exact h2), ho, if_neg (by decide), bh_f (by omega) ho, hc]
    have key : ∀ m j, j ≤ mdg (sg l n p) → mdg (sg l n p) - j < m → (∀ i, i < j → dgt l n (p + 1 + i) = true) → lf_X5_behindStatement_31 N m (nI p) (nI (ldg (sg l n p))) (nI (mdg (sg l n p))) (nI j) σ = some (bhI l n p, σ) := by
      intro m
      induction m with
      | zero => intro j _ h; omega
      | succ m ih =>
        intro j hj hm hd
        show bf_X5_behindStatement_31 N _ _ _ _ _ σ = _
        unfold bf_X5_behindStatement_31
        have hat := dcn_at j (mdg (sg l n p)) (p + 1) hd hj
        rw [t_le (by omega) (by omega)]
        by_cases e : mdg (sg l n p) ≤ j
        · rw [if_pos e]
          refine fin j ?_
          unfold stc
          rw [hat, show mdg (sg l n p) - j = 0 by omega]
          rfl
        · rw [if_neg e, show nI p + (1 : Int32) + nI j = nI (p + 1 + j) by rw [li1, nI_add, nI_add], e_isDigit hL (by omega), z_b_some]
          cases hdj : dgt l n (p + 1 + j) with
          | false =>
            rw [if_pos (show nI (bN false) = (0 : Int32) from rfl)]
            refine fin j ?_
            unfold stc
            rw [hat, dcn_off hdj]
            rfl
          | true =>
            rw [if_neg (show ¬ nI (bN true) = (0 : Int32) by decide), li1, nI_add]
            refine ih (j + 1) (by omega) (by omega) (fun i hi => ?_)
            by_cases e2 : i = j
            · subst e2; exact hdj
            · exact hd i (by omega)
    exact key N 0 (by omega) (by omega) (fun i hi => by omega)
end T1
