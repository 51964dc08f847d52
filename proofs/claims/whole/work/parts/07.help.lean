theorem l_cand {c : Nat} (h : c < 18) : c < 48 := by omega
theorem l_House {j : Nat} (h : j < 3) : 18 + j < 48 := by omega
theorem l_cands {j : Nat} (h : j < 3) : 21 + j < 48 := by omega
theorem l_dra {j : Nat} (h : j < 3) : 24 + j < 48 := by omega
theorem l_deb {j : Nat} (h : j < 3) : 27 + j < 48 := by omega
theorem l_Wax {k : Nat} (h : k < 6) : 30 + k < 48 := by omega
theorem z_in_lt {x : Int32} {n : Nat} (h : z_in x n = true) : x.toNatClampNeg < n := by
  simp only [z_in, Bool.and_eq_true, decide_eq_true_eq] at h
  exact h.2
theorem cand_lt {x : Int32} {j : Nat} (h : z_in x 6 = true) (hj : j < 3) : 6 * j + x.toNatClampNeg < 18 := by
  have := z_in_lt h
  omega
theorem wax_lt {x : Int32} (h : z_in x 6 = true) : x.toNatClampNeg < 6 := z_in_lt h
def wxn (k : Nat) : vw_C := match k with
  | 0 => (RX8, TX8, 0)
  | 1 => (RX0, TX0, 0)
  | 2 => (RX2, TX2, 0)
  | 3 => (RX7, TX7, 0)
  | 4 => (RX6, TX6, 0)
  | _ => (RX3, TX3, 0)
theorem wxc_cl {k : Nat} (h : k < 6) : vwCl[wxc k]? = some ((wxn k).1, (wxn k).2.1, (wxn k).2.2) := by
  rcases (show k = 0 ∨ k = 1 ∨ k = 2 ∨ k = 3 ∨ k = 4 ∨ k = 5 by omega) with rfl | rfl | rfl | rfl | rfl | rfl <;> rfl
theorem lk_out {df : Int} {ps : List (Int × Int)} {x : Int32} (h : ∀ c : Int, c ∈ ps.map (·.1) → x ≠ Int32.ofInt c) : Op.lookupswitch.offset ps df x.toInt = df := by
  refine lookupswitch.offset_none ?_
  rw [List.find?_eq_none]
  intro q hq hk
  have hk : q.1 = x.toInt := by simpa using hk
  exact h q.1 (List.mem_map.mpr ⟨q, hq, rfl⟩) (by rw [hk]; exact (Int32.ofInt_toInt x).symm)
