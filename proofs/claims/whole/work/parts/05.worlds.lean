/-! The two worlds. C: the class's 48 cells: 6j + i candle i of house j (0 now, 1 mind, 2 kept), 18 + j the house, 21 + j its row of candles, 24 + j draughts, 27 + j debts, 30 + k the wax of kind k, 36 their row, 37 the object, 38 letters, 39 their signs, 40 ways, 41 .. 45 its rows (debts, worths, mostPaid, tried, rooms), 46 told, 47 refusals.
M: the reference's 16 cells: 0 the object, 1 .. 8 kind, figure, grains, whose, room, lit, draught, debt, 9 refused, 10 tape, 11 letter, 12 letterAt, 13 told, 14 kept, 15 row. -/
abbrev z_ty (cI cC cW : ClassId) : List (ClassId × FieldType) := [(cI, .int), (cC, .object "PaidInLight$Candle"), (cW, .object "PaidInLight$Wax")]
def wxc (k : Nat) : Nat := match k with
  | 0 => 8
  | 1 => 0
  | 2 => 2
  | 3 => 7
  | 4 => 6
  | _ => 3
def ar_q (g : Nat → Nat) (ad : Nat → Nat) : Nat → Option Nat := fun k => some (ad (g k))
def cfC (ad : Nat → Nat) (cI cC cW : ClassId) (σ : zS) (i : Nat) : va_E :=
  if i < 18 then .inr (1, [.int (σ i 0), .int (σ i 1), .int (σ i 2), .int (σ i 3), .int (σ i 4), .int (σ i 5)])
  else if i < 21 then .inr (4, [.ref (ad 36), .ref (ad (21 + (i - 18))), .ref (ad (24 + (i - 18))), .ref (ad (27 + (i - 18))), .int (σ i 4), .int (σ i 5), .int (σ i 6), .int (σ i 7), .int (σ i 8)])
  else if i < 24 then .inl (cC, 6, .inr (.inr (.inr (.inr (fun k => some (ad (6 * (i - 21) + k)))))))
  else if i < 27 then .inl (cI, 4, .inl (σ i))
  else if i < 30 then .inl (cI, 16, .inl (σ i))
  else if i < 36 then .inr (wxc (i - 30), [])
  else match i with
  | 36 => .inl (cW, 6, .inr (.inr (.inr (.inr (fun k => some (ad (30 + k)))))))
  | 37 => .inr (10, [.ref (ad 36), .ref (ad 18), .ref (ad 19), .ref (ad 20), .int (σ 37 4), .ref (ad 38), .ref (ad 40), .ref (ad 46), .int (σ 37 8), .ref (ad 47)])
  | 38 => .inr (5, [.ref (ad 39), .int (σ 38 1)])
  | 39 => .inl (cI, 80, .inl (σ 39))
  | 40 => .inr (9, [.ref (ad 41), .ref (ad 42), .ref (ad 43), .ref (ad 44), .ref (ad 45), .int (σ 40 5)])
  | 41 => .inl (cI, 16, .inl (σ 41))
  | 42 => .inl (cI, 24, .inl (σ 42))
  | 43 => .inl (cI, 7, .inl (σ 43))
  | 44 => .inl (cI, 6, .inl (σ 44))
  | 45 => .inl (cI, 6, .inl (σ 45))
  | 46 => .inl (cI, 6, .inl (σ 46))
  | _ => .inl (cI, 7, .inl (σ i))
def lenM (i : Nat) : Nat := match i with
  | 7 => 4
  | 8 => 16
  | 9 => 7
  | 10 => 80
  | 11 => 40
  | 12 => 40
  | 13 => 160
  | 14 => 140
  | _ => 6
def cfM (ad : Nat → Nat) (cI : ClassId) (σ : zS) (i : Nat) : va_E := match i with
  | 0 => .inr (11, [.ref (ad 9), .ref (ad 1), .ref (ad 2), .ref (ad 3), .ref (ad 4), .ref (ad 5), .ref (ad 6), .ref (ad 7), .ref (ad 8), .int (σ 0 9), .int (σ 0 10), .int (σ 0 11), .int (σ 0 12), .int (σ 0 13), .ref (ad 10), .ref (ad 11), .ref (ad 12), .ref (ad 13), .int (σ 0 18), .int (σ 0 19), .int (σ 0 20), .ref (ad 14), .int (σ 0 22), .int (σ 0 23), .int (σ 0 24), .int (σ 0 25), .int (σ 0 26), .ref (ad 15), .int (σ 0 28)])
  | k + 1 => .inl (cI, lenM (k + 1), .inl (σ (k + 1)))
theorem cfC_loc {ad : Nat → Nat} {cI cC cW : ClassId} (σ τ : zS) (i : Nat) (h : σ i = τ i) : cfC ad cI cC cW σ i = cfC ad cI cC cW τ i := by
  unfold cfC
  rw [h]
  split <;> try rfl
  split <;> try rfl
  split <;> try rfl
  split <;> try rfl
  split <;> try rfl
  split <;> try rfl
  split <;> first | rfl | (rw [h])
theorem cfM_loc {ad : Nat → Nat} {cI : ClassId} (σ τ : zS) (i : Nat) (h : σ i = τ i) : cfM ad cI σ i = cfM ad cI τ i := by
  unfold cfM
  split <;> rw [h]
section ZW
variable {ad : Nat → Nat} {cI cC cW : ClassId} {σ : zS}
theorem c_cand {c : Nat} (h : c < 18) : cfC ad cI cC cW σ c = .inr (1, [.int (σ c 0), .int (σ c 1), .int (σ c 2), .int (σ c 3), .int (σ c 4), .int (σ c 5)]) := if_pos h
theorem c_house {j : Nat} (h : j < 3) : cfC ad cI cC cW σ (18 + j) = .inr (4, [.ref (ad 36), .ref (ad (21 + j)), .ref (ad (24 + j)), .ref (ad (27 + j)), .int (σ (18 + j) 4), .int (σ (18 + j) 5), .int (σ (18 + j) 6), .int (σ (18 + j) 7), .int (σ (18 + j) 8)]) := by
  unfold cfC
  rw [if_neg (by omega), if_pos (by omega), Nat.add_sub_cancel_left]
theorem c_cands {j : Nat} (h : j < 3) : cfC ad cI cC cW σ (21 + j) = .inl (cC, 6, .inr (.inr (.inr (.inr (fun k => some (ad (6 * j + k))))))) := by
  unfold cfC
  rw [if_neg (by omega), if_neg (by omega), if_pos (by omega), Nat.add_sub_cancel_left]
theorem c_dra {j : Nat} (h : j < 3) (σ : zS) : cfC ad cI cC cW σ (24 + j) = .inl (cI, 4, .inl (σ (24 + j))) := by
  unfold cfC
  rw [if_neg (by omega), if_neg (by omega), if_neg (by omega), if_pos (by omega)]
theorem c_deb {j : Nat} (h : j < 3) (σ : zS) : cfC ad cI cC cW σ (27 + j) = .inl (cI, 16, .inl (σ (27 + j))) := by
  unfold cfC
  rw [if_neg (by omega), if_neg (by omega), if_neg (by omega), if_neg (by omega), if_pos (by omega)]
theorem c_wax {k : Nat} (h : k < 6) : cfC ad cI cC cW σ (30 + k) = .inr (wxc k, []) := by
  unfold cfC
  rw [if_neg (by omega), if_neg (by omega), if_neg (by omega), if_neg (by omega), if_neg (by omega), if_pos (by omega), Nat.add_sub_cancel_left]
theorem m_arr {i : Nat} (h0 : 0 < i) (σ : zS) : cfM ad cI σ i = .inl (cI, lenM i, .inl (σ i)) := by
  cases i with
  | zero => omega
  | succ k => rfl
end ZW
theorem wl_D {A : Nat → Prop} {n : Nat} {ad : Nat → Nat} {cf : zS → Nat → va_E} (hA : ∀ i, i < n → A (ad i)) (hinj : ∀ i j, i < n → j < n → ad i = ad j → i = j) (σ : zS) : va_D A (z_wl n ad cf σ) := by
  have key : ∀ (k : Nat) (q : Nat × va_E), (z_wl n ad cf σ)[k]? = some q → k < n ∧ q.1 = ad k := by
    intro k q h
    have hk : k < n := by
      have := (List.getElem?_eq_some_iff.mp h).1
      simpa [z_wl] using this
    rw [z_wl_get hk] at h
    cases h
    exact ⟨hk, rfl⟩
  refine ⟨fun i j p q hi hj hpq => ?_, fun k q hk => ?_⟩
  · obtain ⟨a1, a2⟩ := key i p hi
    obtain ⟨b1, b2⟩ := key j q hj
    exact hinj i j a1 b1 (by rw [← a2, ← b2]; exact hpq)
  · obtain ⟨a1, a2⟩ := key k q hk
    rw [a2]
    exact hA k a1
theorem zO_C {A : Nat → Prop} {ad : Nat → Nat} {cI cC cW : ClassId} (hA : ∀ i, i < 48 → A (ad i)) (hinj : ∀ i j, i < 48 → j < 48 → ad i = ad j → i = j) : zO A 48 ad (cfC ad cI cC cW) := ⟨wl_D hA hinj, cfC_loc⟩
theorem zO_M {A : Nat → Prop} {ad : Nat → Nat} {cI : ClassId} (hA : ∀ i, i < 16 → A (ad i)) (hinj : ∀ i j, i < 16 → j < 16 → ad i = ad j → i = j) : zO A 16 ad (cfM ad cI) := ⟨wl_D hA hinj, cfM_loc⟩
