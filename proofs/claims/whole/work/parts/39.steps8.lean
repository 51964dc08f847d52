/-! Rings of debts, struck. -/
section S8
variable {σ τ : zS} {N : Nat}
def wb (h : hS) (b : Nat → Nat) : hS := (hn h, hc h, hd h, b, hm h, hu h, hp h, hq h)
def mnl (b : Nat → Nat) : List Nat → Nat
  | [x, y] => min (b x) (b y)
  | [x, y, z] => min (b x) (min (b y) (b z))
  | _ => 0
def sbl (b : Nat → Nat) (l : List Nat) : Nat → Nat := fun k => if k ∈ l then b k - mnl b l else b k
theorem sbl_le (b : Nat → Nat) (l : List Nat) (k : Nat) : sbl b l k ≤ b k := by
  unfold sbl
  split <;> omega
theorem sbl_0 {b : Nat → Nat} {l : List Nat} (h : mnl b l = 0) : sbl b l = b := by
  funext k
  unfold sbl
  rw [h]
  split <;> omega
def rgs (r : Nat) : List Nat := match r with
  | 0 => [1, 4]
  | 1 => [2, 8]
  | 2 => [3, 12]
  | 3 => [6, 9]
  | 4 => [7, 13]
  | 5 => [11, 14]
  | 6 => [1, 6, 8]
  | 7 => [1, 7, 12]
  | 8 => [2, 9, 4]
  | 9 => [2, 11, 12]
  | 10 => [3, 13, 4]
  | 11 => [3, 14, 8]
  | 12 => [6, 11, 13]
  | _ => [7, 14, 9]
theorem rgs_f : ∀ r, r < 14 → (∃ x y, rgs r = [x, y]) ∨ ∃ x y z, rgs r = [x, y, z] := by
  intro r hr
  rcases (show r = 0 ∨ r = 1 ∨ r = 2 ∨ r = 3 ∨ r = 4 ∨ r = 5 ∨ r = 6 ∨ r = 7 ∨ r = 8 ∨ r = 9 ∨ r = 10 ∨ r = 11 ∨ r = 12 ∨ r = 13 by omega) with rfl | rfl | rfl | rfl | rfl | rfl | rfl | rfl | rfl | rfl | rfl | rfl | rfl | rfl
  all_goals first | exact Or.inl ⟨_, _, rfl⟩ | exact Or.inr ⟨_, _, _, rfl⟩
/-- a ring is quiet if one of its debts is none -/
theorem mnl_e {b : Nat → Nat} {r : Nat} (hr : r < 14) (h : mnl b (rgs r) = 0) : ∃ k, k ∈ rgs r ∧ b k = 0 := by
  rcases rgs_f r hr with ⟨x, y, e⟩ | ⟨x, y, z, e⟩
  · rw [e] at h ⊢
    have h : min (b x) (b y) = 0 := h
    by_cases q : b x = 0
    · exact ⟨x, by simp, q⟩
    · exact ⟨y, by simp, by omega⟩
  · rw [e] at h ⊢
    have h : min (b x) (min (b y) (b z)) = 0 := h
    by_cases q : b x = 0
    · exact ⟨x, by simp, q⟩
    · by_cases q2 : b y = 0
      · exact ⟨y, by simp, q2⟩
      · exact ⟨z, by simp, by omega⟩
theorem mnl_i {b : Nat → Nat} {r k : Nat} (hr : r < 14) (hk : k ∈ rgs r) (h : b k = 0) : mnl b (rgs r) = 0 := by
  rcases rgs_f r hr with ⟨x, y, e⟩ | ⟨x, y, z, e⟩
  · rw [e] at hk ⊢
    show min (b x) (b y) = 0
    simp at hk
    rcases hk with rfl | rfl <;> omega
  · rw [e] at hk ⊢
    show min (b x) (min (b y) (b z)) = 0
    simp at hk
    rcases hk with rfl | rfl | rfl <;> omega
theorem mnl_m {b : Nat → Nat} {r : Nat} (hr : r < 14) : ∃ k, k ∈ rgs r ∧ b k = mnl b (rgs r) := by
  rcases rgs_f r hr with ⟨x, y, e⟩ | ⟨x, y, z, e⟩
  · rw [e]
    show ∃ k, _ ∧ b k = min (b x) (b y)
    by_cases q : b x ≤ b y
    · exact ⟨x, by simp, by omega⟩
    · exact ⟨y, by simp, by omega⟩
  · rw [e]
    show ∃ k, _ ∧ b k = min (b x) (min (b y) (b z))
    by_cases q : b x ≤ min (b y) (b z)
    · exact ⟨x, by simp, by omega⟩
    · by_cases q2 : b y ≤ b z
      · exact ⟨y, by simp, by omega⟩
      · exact ⟨z, by simp, by omega⟩
theorem sb_self (b : Nat → Nat) {r : Nat} (hr : r < 14) : mnl (sbl b (rgs r)) (rgs r) = 0 := by
  obtain ⟨k, hk, e⟩ := mnl_m (b := b) hr
  refine mnl_i hr hk ?_
  unfold sbl
  rw [if_pos hk]
  omega
theorem sb_keep {b : Nat → Nat} {r : Nat} (l : List Nat) (hr : r < 14) (h : mnl b (rgs r) = 0) : mnl (sbl b l) (rgs r) = 0 := by
  obtain ⟨k, hk, e⟩ := mnl_e hr h
  have := sbl_le b l k
  exact mnl_i hr hk (by omega)
def gb : Nat → Nat → (Nat → Nat) → Nat → Nat
  | 0, _, b => b
  | k + 1, r, b => gb k (r + 1) (sbl b (rgs r))
def gc : Nat → Nat → (Nat → Nat) → Nat → Nat
  | 0, _, _, v => v
  | k + 1, r, b, v => gc k (r + 1) (sbl b (rgs r)) (v + bN (decide (0 < mnl b (rgs r))))
theorem gc_add : ∀ k r b v, gc k r b v = v + gc k r b 0 := by
  intro k
  induction k with
  | zero => intro r b v; rfl
  | succ k ih =>
    intro r b v
    show gc k (r + 1) (sbl b (rgs r)) (v + bN _) = v + gc k (r + 1) (sbl b (rgs r)) (0 + bN _)
    rw [ih _ _ (v + _), ih _ _ (0 + _)]
    omega
theorem gb_le : ∀ k r b i, gb k r b i ≤ b i := by
  intro k
  induction k with
  | zero => intro r b i; exact Nat.le_refl _
  | succ k ih => intro r b i; exact Nat.le_trans (ih _ _ _) (sbl_le _ _ _)
theorem gc_le : ∀ k r b v, gc k r b v ≤ v + k := by
  intro k
  induction k with
  | zero => intro r b v; exact Nat.le_refl _
  | succ k ih =>
    intro r b v
    have h1 : bN (decide (0 < mnl b (rgs r))) ≤ 1 := by unfold bN; split <;> omega
    have h2 := ih (r + 1) (sbl b (rgs r)) (v + bN (decide (0 < mnl b (rgs r))))
    show gc k (r + 1) (sbl b (rgs r)) (v + bN _) ≤ _
    omega
theorem RC_wb {σ' : zS} {h : hS} {b b' : Nat → Nat} (hC : RC σ 0 (wb h b)) (h6 : hn h ≤ 6) (hf : ∀ a, a ≠ 27 + 0 → σ' a = σ a) (hb' : ∀ k, k < 16 → σ' (27 + 0) k = nI (b' k)) : RC σ' 0 (wb h b') := by
  obtain ⟨a1, a2, a3, a4, a5, a6, a7, a8⟩ := hC
  refine ⟨?_, ?_, ?_, ?_, ?_, fun q hq k' hk' => ?_, fun q hq => ?_, hb'⟩
  · rw [hf _ (by omega)]; exact a1
  · rw [hf _ (by omega)]; exact a2
  · rw [hf _ (by omega)]; exact a3
  · rw [hf _ (by omega)]; exact a4
  · rw [hf _ (by omega)]; exact a5
  · have hq' : q < hn h := hq
    rw [hf _ (by omega)]; exact a6 q hq k' hk'
  · rw [hf _ (by omega)]; exact a7 q hq
theorem RM_wb {τ' : zS} {h : hS} {b b' : Nat → Nat} (hM : RM τ (wb h b)) (hf : ∀ a, a ≠ 8 → τ' a = τ a) (hb' : ∀ k, k < 16 → τ' 8 k = nI (b' k)) : RM τ' (wb h b') := by
  obtain ⟨a1, a2, a3, a4, a5, a6, a7, a8⟩ := hM
  refine ⟨?_, ?_, ?_, ?_, ?_, fun q hq k' hk' => ?_, fun q hq => ?_, hb'⟩
  · rw [hf _ (by omega)]; exact a1
  · rw [hf _ (by omega)]; exact a2
  · rw [hf _ (by omega)]; exact a3
  · rw [hf _ (by omega)]; exact a4
  · rw [hf _ (by omega)]; exact a5
  · rw [hf _ (by omega)]; exact a6 q hq k' hk'
  · rw [hf _ (by omega)]; exact a7 q hq
theorem wr2 {s s' : zS} {w : Nat} {b : Nat → Nat} {x y : Nat} (hxy : x ≠ y) (hx : x < 16) (hy : y < 16) (hB : ∀ k, k < 16 → s w k = nI (b k)) (e : s' = z_put (z_put s w x (nI (b x - mnl b [x, y]))) w y (nI (b y - mnl b [x, y]))) : ∀ k, k < 16 → s' w k = nI (sbl b [x, y] k) := by
  intro k hk
  subst e
  rw [z_put_same]
  unfold sbl
  by_cases ey : k = y
  · subst ey; rw [pk_us, if_pos (by simp)]
  · rw [pk_un ey, z_put_same]
    by_cases ex : k = x
    · subst ex; rw [pk_us, if_pos (by simp)]
    · rw [pk_un ex, if_neg (by simp; omega)]; exact hB k hk
theorem wr3 {s s' : zS} {w : Nat} {b : Nat → Nat} {x y z : Nat} (hxy : x ≠ y) (hxz : x ≠ z) (hyz : y ≠ z) (hx : x < 16) (hy : y < 16) (hz : z < 16) (hB : ∀ k, k < 16 → s w k = nI (b k)) (e : s' = z_put (z_put (z_put s w x (nI (b x - mnl b [x, y, z]))) w y (nI (b y - mnl b [x, y, z]))) w z (nI (b z - mnl b [x, y, z]))) : ∀ k, k < 16 → s' w k = nI (sbl b [x, y, z] k) := by
  intro k hk
  subst e
  rw [z_put_same]
  unfold sbl
  by_cases ez : k = z
  · subst ez; rw [pk_us, if_pos (by simp)]
  · rw [pk_un ez, z_put_same]
    by_cases ey : k = y
    · subst ey; rw [pk_us, if_pos (by simp)]
    · rw [pk_un ey, z_put_same]
      by_cases ex : k = x
      · subst ex; rw [pk_us, if_pos (by simp)]
      · rw [pk_un ex, if_neg (by simp; omega)]; exact hB k hk
-- the class
theorem pr_step {h : hS} {b : Nat → Nat} (hC : RC σ 0 (wb h b)) (hB : ∀ k, k < 16 → b k < 1000) (h6 : hn h ≤ 6) {a c : Nat} (ha : a < 4) (hc : c < 4) (hac : a ≠ c) (v : Nat) (rec4 : Nat → Int32 → Int32 → zS → zA) (n : Nat) {P : Int32 → zS → Prop} (K : ∀ σ', RC σ' 0 (wb h (sbl b [4 * a + c, 4 * c + a])) → fC 0 σ σ' → ok (lf_X4_strikePairs_13 N rec4 n 0 (nI (v + bN (decide (0 < mnl b [4 * a + c, 4 * c + a])))) (nI a) (nI (c + 1)) σ') P) : ok (lf_X4_strikePairs_13 N rec4 (n + 1) 0 (nI v) (nI a) (nI c) σ) P := by
  show ok (bf_X4_strikePairs_13 N _ _ _ _ _ _ σ) P
  unfold bf_X4_strikePairs_13
  have hB1 := hB (4 * a + c) (by omega)
  have hB2 := hB (4 * c + a) (by omega)
  have hbb : ∀ k, k < 16 → σ (27 + 0) k = nI (b k) := fun k hk => rc_b hC hk
  rw [li4, t_le (by omega) (by omega)]
  refine ok_f (by omega) ?_
  simp only [e_pair, z_b_some, z_in_n (show 4 * a + c < 16 by omega) (by decide), z_in_n (show 4 * c + a < 16 by omega) (by decide), z_g_t]
  rw [nI_clamp (show 4 * a + c < 2 ^ 31 by omega), nI_clamp (show 4 * c + a < 2 ^ 31 by omega), hbb _ (by omega), hbb _ (by omega), i_min (by omega) (by omega)]
  have em : min (b (4 * a + c)) (b (4 * c + a)) = mnl b [4 * a + c, 4 * c + a] := rfl
  have hm1 : mnl b [4 * a + c, 4 * c + a] ≤ b (4 * a + c) := by rw [← em]; omega
  have hm2 : mnl b [4 * a + c, 4 * c + a] ≤ b (4 * c + a) := by rw [← em]; omega
  refine ok_n (ok_m (ok_m ?_))
  rw [em, z_put_same, pk_un (by omega), hbb _ (by omega), pk_sub hm1, pk_sub hm2, li0, t_le (by omega) (by omega), nI_add, li1, nI_add, nI_add]
  have R := RC_wb (b' := sbl b [4 * a + c, 4 * c + a]) (σ' := z_put (z_put σ (27 + 0) (4 * a + c) (nI (b (4 * a + c) - mnl b [4 * a + c, 4 * c + a]))) (27 + 0) (4 * c + a) (nI (b (4 * c + a) - mnl b [4 * a + c, 4 * c + a]))) hC h6 (fun q hq => by rw [z_put_ne _ _ _ hq, z_put_ne _ _ _ hq]) (wr2 (by omega) (by omega) (by omega) hbb rfl)
  have F : fC 0 σ (z_put (z_put σ (27 + 0) (4 * a + c) (nI (b (4 * a + c) - mnl b [4 * a + c, 4 * c + a]))) (27 + 0) (4 * c + a) (nI (b (4 * c + a) - mnl b [4 * a + c, 4 * c + a]))) := (fC.put (by unfold hr; omega)).tr (fC.put (by unfold hr; omega))
  have k0 := K _ R F
  refine ok_if (fun hz => ok_n ?_) (fun hz => ok_n ?_)
  · rw [decide_eq_false (by omega)] at k0; exact k0
  · rw [decide_eq_true (by omega)] at k0; exact k0
theorem pr_end {v a : Nat} (rec4 : Nat → Int32 → Int32 → zS → zA) (n : Nat) {P : Int32 → zS → Prop} (K : ok (rec4 0 (nI v) (nI (a + 1)) σ) P) : ok (lf_X4_strikePairs_13 N rec4 (n + 1) 0 (nI v) (nI a) (nI 4) σ) P := by
  show ok (bf_X4_strikePairs_13 N _ _ _ _ _ _ σ) P
  unfold bf_X4_strikePairs_13
  rw [li1, nI_add]
  exact ok_t (by decide) K
theorem pr_out {v a : Nat} (ha : a < 4) (n : Nat) {P : Int32 → zS → Prop} (K : ok (lf_X4_strikePairs_13 N (lf_X4_strikePairs_4 N n) N 0 (nI v) (nI a) (nI (a + 1)) σ) P) : ok (lf_X4_strikePairs_4 N (n + 1) 0 (nI v) (nI a) σ) P := by
  show ok (bf_X4_strikePairs_4 N _ _ _ _ σ) P
  unfold bf_X4_strikePairs_4
  rw [li4, t_le (by omega) (by omega), li1, nI_add]
  exact ok_f (by omega) (ok_n K)
theorem pr_fin {v : Nat} (n : Nat) {P : Int32 → zS → Prop} (K : P (nI v) σ) : ok (lf_X4_strikePairs_4 N (n + 1) 0 (nI v) (nI 4) σ) P := by
  show ok (bf_X4_strikePairs_4 N _ _ _ _ σ) P
  unfold bf_X4_strikePairs_4
  exact ok_t (by decide) (ok_ret K)
theorem e_triple {h : hS} {b : Nat → Nat} (hC : RC σ 0 (wb h b)) (hB : ∀ k, k < 16 → b k < 1000) (h6 : hn h ≤ 6) {a c d : Nat} (ha : a < 4) (hc : c < 4) (hd : d < 4) (hac : a ≠ c) (hcd : c ≠ d) (had : a ≠ d) : ok (f_X4_strikeTriple N 0 (nI a) (nI c) (nI d) σ) (fun q σ' => q = nI (bN (decide (0 < mnl b [4 * a + c, 4 * c + d, 4 * d + a]))) ∧ RC σ' 0 (wb h (sbl b [4 * a + c, 4 * c + d, 4 * d + a])) ∧ fC 0 σ σ') := by
  unfold f_X4_strikeTriple
  have hB1 := hB (4 * a + c) (by omega)
  have hB2 := hB (4 * c + d) (by omega)
  have hB3 := hB (4 * d + a) (by omega)
  have hbb : ∀ k, k < 16 → σ (27 + 0) k = nI (b k) := fun k hk => rc_b hC hk
  simp only [e_pair, z_b_some, z_in_n (show 4 * a + c < 16 by omega) (by decide), z_in_n (show 4 * c + d < 16 by omega) (by decide), z_in_n (show 4 * d + a < 16 by omega) (by decide), z_g_t]
  rw [nI_clamp (show 4 * a + c < 2 ^ 31 by omega), nI_clamp (show 4 * c + d < 2 ^ 31 by omega), nI_clamp (show 4 * d + a < 2 ^ 31 by omega), hbb (4 * a + c) (by omega), hbb (4 * c + d) (by omega), hbb (4 * d + a) (by omega), i_min (a := b (4 * c + d)) (by omega) (by omega), i_min (a := b (4 * a + c)) (by omega) (by omega)]
  have em : min (b (4 * a + c)) (min (b (4 * c + d)) (b (4 * d + a))) = mnl b [4 * a + c, 4 * c + d, 4 * d + a] := rfl
  have hm1 : mnl b [4 * a + c, 4 * c + d, 4 * d + a] ≤ b (4 * a + c) := by rw [← em]; omega
  have hm2 : mnl b [4 * a + c, 4 * c + d, 4 * d + a] ≤ b (4 * c + d) := by rw [← em]; omega
  have hm3 : mnl b [4 * a + c, 4 * c + d, 4 * d + a] ≤ b (4 * d + a) := by rw [← em]; omega
  refine ok_n (ok_m (ok_m (ok_m ?_)))
  simp (disch := omega) only [z_put_same, pk_un]
  rw [em, hbb (4 * c + d) (by omega), hbb (4 * d + a) (by omega), pk_sub hm1, pk_sub hm2, pk_sub hm3, li0, t_le (by omega) (by omega), li1]
  have R := RC_wb (b' := sbl b [4 * a + c, 4 * c + d, 4 * d + a]) (σ' := z_put (z_put (z_put σ (27 + 0) (4 * a + c) (nI (b (4 * a + c) - mnl b [4 * a + c, 4 * c + d, 4 * d + a]))) (27 + 0) (4 * c + d) (nI (b (4 * c + d) - mnl b [4 * a + c, 4 * c + d, 4 * d + a]))) (27 + 0) (4 * d + a) (nI (b (4 * d + a) - mnl b [4 * a + c, 4 * c + d, 4 * d + a]))) hC h6 (fun q hq => by rw [z_put_ne _ _ _ hq, z_put_ne _ _ _ hq, z_put_ne _ _ _ hq]) (wr3 (by omega) (by omega) (by omega) (by omega) (by omega) (by omega) hbb rfl)
  have F : fC 0 σ (z_put (z_put (z_put σ (27 + 0) (4 * a + c) (nI (b (4 * a + c) - mnl b [4 * a + c, 4 * c + d, 4 * d + a]))) (27 + 0) (4 * c + d) (nI (b (4 * c + d) - mnl b [4 * a + c, 4 * c + d, 4 * d + a]))) (27 + 0) (4 * d + a) (nI (b (4 * d + a) - mnl b [4 * a + c, 4 * c + d, 4 * d + a]))) := ((fC.put (by unfold hr; omega)).tr (fC.put (by unfold hr; omega))).tr (fC.put (by unfold hr; omega))
  refine ok_if (fun hz => ok_ret ⟨?_, R, F⟩) (fun hz => ok_ret ⟨?_, R, F⟩)
  · rw [decide_eq_false (by omega)]; rfl
  · rw [decide_eq_true (by omega)]; rfl
theorem tr_step {h : hS} {b : Nat → Nat} (hC : RC σ 0 (wb h b)) (hB : ∀ k, k < 16 → b k < 1000) (h6 : hn h ≤ 6) {a c d : Nat} (ha : a < 4) (hc : c < 4) (hd : d < 4) (hac : a ≠ c) (hcd : c ≠ d) (had : a ≠ d) (v : Nat) (rec4 : Nat → Int32 → Int32 → zS → zA) (rec13 : Nat → Int32 → Int32 → Int32 → zS → zA) (n : Nat) {P : Int32 → zS → Prop} (K : ∀ σ', RC σ' 0 (wb h (sbl b [4 * a + c, 4 * c + d, 4 * d + a])) → fC 0 σ σ' → ok (lf_X4_strikeTriples_23 N rec4 rec13 n 0 (nI (v + bN (decide (0 < mnl b [4 * a + c, 4 * c + d, 4 * d + a])))) (nI a) (nI c) (nI (d + 1)) σ') P) : ok (lf_X4_strikeTriples_23 N rec4 rec13 (n + 1) 0 (nI v) (nI a) (nI c) (nI d) σ) P := by
  show ok (bf_X4_strikeTriples_23 N _ _ _ _ _ _ _ _ σ) P
  unfold bf_X4_strikeTriples_23 bf_X4_strikeTriples_51
  rw [li4, t_le (by omega) (by omega), t_eq (by omega) (by omega)]
  refine ok_f (by omega) (ok_f (by omega) (ok_bm (e_triple hC hB h6 ha hc hd hac hcd had) (fun q s hs => ?_)))
  obtain ⟨hq, hR, hF⟩ := hs
  have k0 := K s hR hF
  rw [hq, show nI d + (1 : Int32) = nI (d + 1) by rw [li1, nI_add]]
  by_cases hz : 0 < mnl b [4 * a + c, 4 * c + d, 4 * d + a]
  · rw [decide_eq_true hz] at k0 ⊢
    refine ok_f (by decide) (ok_n ?_)
    rw [li1, nI_add]; exact k0
  · rw [decide_eq_false hz] at k0 ⊢
    refine ok_t (by decide) (ok_n ?_)
    rw [li0, nI_add]; exact k0
theorem tr_skip {a c v : Nat} (hc : c < 4) (rec4 : Nat → Int32 → Int32 → zS → zA) (rec13 : Nat → Int32 → Int32 → Int32 → zS → zA) (n : Nat) {P : Int32 → zS → Prop} (K : ok (lf_X4_strikeTriples_23 N rec4 rec13 n 0 (nI v) (nI a) (nI c) (nI (c + 1)) σ) P) : ok (lf_X4_strikeTriples_23 N rec4 rec13 (n + 1) 0 (nI v) (nI a) (nI c) (nI c) σ) P := by
  show ok (bf_X4_strikeTriples_23 N _ _ _ _ _ _ _ _ σ) P
  unfold bf_X4_strikeTriples_23 bf_X4_strikeTriples_51
  rw [li4, t_le (by omega) (by omega), li1, nI_add]
  refine ok_f (by omega) (ok_t rfl (ok_n ?_))
  rw [li0, nI_add]
  exact K
theorem tr_end {a c v : Nat} (rec4 : Nat → Int32 → Int32 → zS → zA) (rec13 : Nat → Int32 → Int32 → Int32 → zS → zA) (n : Nat) {P : Int32 → zS → Prop} (K : ok (rec13 0 (nI v) (nI a) (nI (c + 1)) σ) P) : ok (lf_X4_strikeTriples_23 N rec4 rec13 (n + 1) 0 (nI v) (nI a) (nI c) (nI 4) σ) P := by
  show ok (bf_X4_strikeTriples_23 N _ _ _ _ _ _ _ _ σ) P
  unfold bf_X4_strikeTriples_23
  rw [li1, nI_add]
  exact ok_t (by decide) K
theorem tr_mid {a c v : Nat} (hc : c < 4) (rec4 : Nat → Int32 → Int32 → zS → zA) (n : Nat) {P : Int32 → zS → Prop} (K : ok (lf_X4_strikeTriples_23 N rec4 (lf_X4_strikeTriples_13 N rec4 n) N 0 (nI v) (nI a) (nI c) (nI (a + 1)) σ) P) : ok (lf_X4_strikeTriples_13 N rec4 (n + 1) 0 (nI v) (nI a) (nI c) σ) P := by
  show ok (bf_X4_strikeTriples_13 N _ _ _ _ _ _ σ) P
  unfold bf_X4_strikeTriples_13
  rw [li4, t_le (by omega) (by omega), li1, nI_add]
  exact ok_f (by omega) (ok_n K)
theorem tr_mend {a v : Nat} (rec4 : Nat → Int32 → Int32 → zS → zA) (n : Nat) {P : Int32 → zS → Prop} (K : ok (rec4 0 (nI v) (nI (a + 1)) σ) P) : ok (lf_X4_strikeTriples_13 N rec4 (n + 1) 0 (nI v) (nI a) (nI 4) σ) P := by
  show ok (bf_X4_strikeTriples_13 N _ _ _ _ _ _ σ) P
  unfold bf_X4_strikeTriples_13
  rw [li1, nI_add]
  exact ok_t (by decide) K
theorem tr_out {v a : Nat} (ha : a < 4) (n : Nat) {P : Int32 → zS → Prop} (K : ok (lf_X4_strikeTriples_13 N (lf_X4_strikeTriples_4 N n) N 0 (nI v) (nI a) (nI (a + 1)) σ) P) : ok (lf_X4_strikeTriples_4 N (n + 1) 0 (nI v) (nI a) σ) P := by
  show ok (bf_X4_strikeTriples_4 N _ _ _ _ σ) P
  unfold bf_X4_strikeTriples_4
  rw [li4, t_le (by omega) (by omega), li1, nI_add]
  exact ok_f (by omega) (ok_n K)
theorem tr_fin {v : Nat} (n : Nat) {P : Int32 → zS → Prop} (K : P (nI v) σ) : ok (lf_X4_strikeTriples_4 N (n + 1) 0 (nI v) (nI 4) σ) P := by
  show ok (bf_X4_strikeTriples_4 N _ _ _ _ σ) P
  unfold bf_X4_strikeTriples_4
  exact ok_t (by decide) (ok_ret K)
theorem e_pairs {h : hS} {b : Nat → Nat} (hN : 20 ≤ N) (hC : RC σ 0 (wb h b)) (hB : ∀ k, k < 16 → b k < 1000) (h6 : hn h ≤ 6) : ok (f_X4_strikePairs N 0 σ) (fun q s => q = nI (gc 6 0 b 0) ∧ RC s 0 (wb h (gb 6 0 b)) ∧ fC 0 σ s) := by
  unfold f_X4_strikePairs
  obtain ⟨M, rfl⟩ : ∃ M, N = M + 20 := ⟨N - 20, by omega⟩
  have Bs : ∀ {b : Nat → Nat} (l : List Nat), (∀ k, k < 16 → b k < 1000) → ∀ k, k < 16 → sbl b l k < 1000 := fun {b} l hb k hk => by have := sbl_le b l k; have := hb k hk; omega
  have F0 : fC 0 σ σ := fC.rf
  show ok (lf_X4_strikePairs_4 (M + 20) (M + 20) 0 (nI 0) (nI 0) σ) _
  refine pr_out (a := 0) (by decide) _ ?_
  refine pr_step (a := 0) (c := 1) hC hB h6 (by decide) (by decide) (by decide) _ _ _ (fun s1 R1 G1 => ?_)
  have F1 := F0.tr G1
  have B1 := Bs [4 * 0 + 1, 4 * 1 + 0] hB
  refine pr_step (a := 0) (c := 2) R1 B1 h6 (by decide) (by decide) (by decide) _ _ _ (fun s2 R2 G2 => ?_)
  have F2 := F1.tr G2
  have B2 := Bs [4 * 0 + 2, 4 * 2 + 0] B1
  refine pr_step (a := 0) (c := 3) R2 B2 h6 (by decide) (by decide) (by decide) _ _ _ (fun s3 R3 G3 => ?_)
  have F3 := F2.tr G3
  have B3 := Bs [4 * 0 + 3, 4 * 3 + 0] B2
  refine pr_end (a := 0) _ _ ?_
  refine pr_out (a := 1) (by decide) _ ?_
  refine pr_step (a := 1) (c := 2) R3 B3 h6 (by decide) (by decide) (by decide) _ _ _ (fun s4 R4 G4 => ?_)
  have F4 := F3.tr G4
  have B4 := Bs [4 * 1 + 2, 4 * 2 + 1] B3
  refine pr_step (a := 1) (c := 3) R4 B4 h6 (by decide) (by decide) (by decide) _ _ _ (fun s5 R5 G5 => ?_)
  have F5 := F4.tr G5
  have B5 := Bs [4 * 1 + 3, 4 * 3 + 1] B4
  refine pr_end (a := 1) _ _ ?_
  refine pr_out (a := 2) (by decide) _ ?_
  refine pr_step (a := 2) (c := 3) R5 B5 h6 (by decide) (by decide) (by decide) _ _ _ (fun s6 R6 G6 => ?_)
  have F6 := F5.tr G6
  have B6 := Bs [4 * 2 + 3, 4 * 3 + 2] B5
  refine pr_end (a := 2) _ _ ?_
  refine pr_out (a := 3) (by decide) _ ?_
  refine pr_end (a := 3) _ _ ?_
  exact pr_fin _ ⟨rfl, R6, F6⟩
theorem e_triples {h : hS} {b : Nat → Nat} (hN : 20 ≤ N) (hC : RC σ 0 (wb h b)) (hB : ∀ k, k < 16 → b k < 1000) (h6 : hn h ≤ 6) : ok (f_X4_strikeTriples N 0 σ) (fun q s => q = nI (gc 8 6 b 0) ∧ RC s 0 (wb h (gb 8 6 b)) ∧ fC 0 σ s) := by
  unfold f_X4_strikeTriples
  obtain ⟨M, rfl⟩ : ∃ M, N = M + 20 := ⟨N - 20, by omega⟩
  have Bs : ∀ {b : Nat → Nat} (l : List Nat), (∀ k, k < 16 → b k < 1000) → ∀ k, k < 16 → sbl b l k < 1000 := fun {b} l hb k hk => by have := sbl_le b l k; have := hb k hk; omega
  have F0 : fC 0 σ σ := fC.rf
  show ok (lf_X4_strikeTriples_4 (M + 20) (M + 20) 0 (nI 0) (nI 0) σ) _
  refine tr_out (a := 0) (by decide) _ ?_
  refine tr_mid (a := 0) (c := 1) (by decide) _ _ ?_
  refine tr_skip (a := 0) (c := 1) (by decide) _ _ _ ?_
  refine tr_step (a := 0) (c := 1) (d := 2) hC hB h6 (by decide) (by decide) (by decide) (by decide) (by decide) (by decide) _ _ _ _ (fun s1 R1 G1 => ?_)
  have F1 := F0.tr G1
  have B1 := Bs [4 * 0 + 1, 4 * 1 + 2, 4 * 2 + 0] hB
  refine tr_step (a := 0) (c := 1) (d := 3) R1 B1 h6 (by decide) (by decide) (by decide) (by decide) (by decide) (by decide) _ _ _ _ (fun s2 R2 G2 => ?_)
  have F2 := F1.tr G2
  have B2 := Bs [4 * 0 + 1, 4 * 1 + 3, 4 * 3 + 0] B1
  refine tr_end (a := 0) (c := 1) _ _ _ ?_
  refine tr_mid (a := 0) (c := 2) (by decide) _ _ ?_
  refine tr_step (a := 0) (c := 2) (d := 1) R2 B2 h6 (by decide) (by decide) (by decide) (by decide) (by decide) (by decide) _ _ _ _ (fun s3 R3 G3 => ?_)
  have F3 := F2.tr G3
  have B3 := Bs [4 * 0 + 2, 4 * 2 + 1, 4 * 1 + 0] B2
  refine tr_skip (a := 0) (c := 2) (by decide) _ _ _ ?_
  refine tr_step (a := 0) (c := 2) (d := 3) R3 B3 h6 (by decide) (by decide) (by decide) (by decide) (by decide) (by decide) _ _ _ _ (fun s4 R4 G4 => ?_)
  have F4 := F3.tr G4
  have B4 := Bs [4 * 0 + 2, 4 * 2 + 3, 4 * 3 + 0] B3
  refine tr_end (a := 0) (c := 2) _ _ _ ?_
  refine tr_mid (a := 0) (c := 3) (by decide) _ _ ?_
  refine tr_step (a := 0) (c := 3) (d := 1) R4 B4 h6 (by decide) (by decide) (by decide) (by decide) (by decide) (by decide) _ _ _ _ (fun s5 R5 G5 => ?_)
  have F5 := F4.tr G5
  have B5 := Bs [4 * 0 + 3, 4 * 3 + 1, 4 * 1 + 0] B4
  refine tr_step (a := 0) (c := 3) (d := 2) R5 B5 h6 (by decide) (by decide) (by decide) (by decide) (by decide) (by decide) _ _ _ _ (fun s6 R6 G6 => ?_)
  have F6 := F5.tr G6
  have B6 := Bs [4 * 0 + 3, 4 * 3 + 2, 4 * 2 + 0] B5
  refine tr_skip (a := 0) (c := 3) (by decide) _ _ _ ?_
  refine tr_end (a := 0) (c := 3) _ _ _ ?_
  refine tr_mend (a := 0) _ _ ?_
  refine tr_out (a := 1) (by decide) _ ?_
  refine tr_mid (a := 1) (c := 2) (by decide) _ _ ?_
  refine tr_skip (a := 1) (c := 2) (by decide) _ _ _ ?_
  refine tr_step (a := 1) (c := 2) (d := 3) R6 B6 h6 (by decide) (by decide) (by decide) (by decide) (by decide) (by decide) _ _ _ _ (fun s7 R7 G7 => ?_)
  have F7 := F6.tr G7
  have B7 := Bs [4 * 1 + 2, 4 * 2 + 3, 4 * 3 + 1] B6
  refine tr_end (a := 1) (c := 2) _ _ _ ?_
  refine tr_mid (a := 1) (c := 3) (by decide) _ _ ?_
  refine tr_step (a := 1) (c := 3) (d := 2) R7 B7 h6 (by decide) (by decide) (by decide) (by decide) (by decide) (by decide) _ _ _ _ (fun s8 R8 G8 => ?_)
  have F8 := F7.tr G8
  have B8 := Bs [4 * 1 + 3, 4 * 3 + 2, 4 * 2 + 1] B7
  refine tr_skip (a := 1) (c := 3) (by decide) _ _ _ ?_
  refine tr_end (a := 1) (c := 3) _ _ _ ?_
  refine tr_mend (a := 1) _ _ ?_
  refine tr_out (a := 2) (by decide) _ ?_
  refine tr_mid (a := 2) (c := 3) (by decide) _ _ ?_
  refine tr_skip (a := 2) (c := 3) (by decide) _ _ _ ?_
  refine tr_end (a := 2) (c := 3) _ _ _ ?_
  refine tr_mend (a := 2) _ _ ?_
  refine tr_out (a := 3) (by decide) _ ?_
  refine tr_mend (a := 3) _ _ ?_
  exact tr_fin _ ⟨rfl, R8, F8⟩
-- the reference
theorem e_owe1 {h : hS} {b : Nat → Nat} (hM : RM τ (wb h b)) (hB : ∀ k, k < 16 → b k < 1000) {a c : Nat} (ha : a < 4) (hc : c < 4) : f_X11_doesOwe N (nI a) (nI c) τ = some (nI (bN (decide (0 < b (4 * a + c)))), τ) := by
  have hB1 := hB (4 * a + c) (by omega)
  have hbb : ∀ k, k < 16 → τ 8 k = nI (b k) := fun k hk => (RM.r hM).2.2 k hk
  unfold f_X11_doesOwe
  rw [m_pair, z_in_n (show 4 * a + c < 16 by omega) (by decide), z_g_t, nI_clamp (by omega), hbb _ (by omega), li0, t_le (by omega) (by omega)]
  by_cases e : b (4 * a + c) ≤ 0
  · rw [if_pos e, decide_eq_false (by omega)]; rfl
  · rw [if_neg e, decide_eq_true (by omega)]; rfl
def FR (lo hi : Nat) (h : hS) (b : Nat → Nat) (τ : zS) (q : Int32) (s : zS) : Prop := (q = 0 ∧ s = τ ∧ ∀ r, lo ≤ r → r < hi → mnl b (rgs r) = 0) ∨ ∃ r, lo ≤ r ∧ r < hi ∧ (∀ r', lo ≤ r' → r' < r → mnl b (rgs r') = 0) ∧ 0 < mnl b (rgs r) ∧ q = 1 ∧ RM s (wb h (sbl b (rgs r))) ∧ fM τ s
theorem p2_step {h : hS} {b : Nat → Nat} (hM : RM τ (wb h b)) (hB : ∀ k, k < 16 → b k < 1000) {a c : Nat} (ha : a < 4) (hc : c < 4) (hac : a ≠ c) {rec2 : Int32 → zS → zA} {n : Nat} {r : Nat} (hr6 : r < 6) (hq : ∀ r', r' < r → mnl b (rgs r') = 0) (hg : rgs r = [4 * a + c, 4 * c + a]) (K : mnl b (rgs r) = 0 → ok (lf_X11_strikesTwo_11 N rec2 n (nI a) (nI (c + 1)) τ) (FR 0 6 h b τ)) : ok (lf_X11_strikesTwo_11 N rec2 (n + 1) (nI a) (nI c) τ) (FR 0 6 h b τ) := by
  show ok (bf_X11_strikesTwo_11 N _ _ _ _ τ) _
  unfold bf_X11_strikesTwo_11
  have hB1 := hB (4 * a + c) (by omega)
  have hB2 := hB (4 * c + a) (by omega)
  have hbb : ∀ k, k < 16 → τ 8 k = nI (b k) := fun k hk => (RM.r hM).2.2 k hk
  rw [li4, t_le (by omega) (by omega)]
  refine ok_f (by omega) ?_
  rw [e_owe1 hM hB ha hc, z_b_some, e_owe1 hM hB hc ha, z_b_some, ← li4, show nI c + (1 : Int32) = nI (c + 1) by rw [li1, nI_add]]
  have em : mnl b (rgs r) = min (b (4 * a + c)) (b (4 * c + a)) := by rw [hg]; rfl
  by_cases e1 : 0 < b (4 * a + c)
  · rw [decide_eq_true e1]
    refine ok_f (by decide) ?_
    by_cases e2 : 0 < b (4 * c + a)
    · rw [decide_eq_true e2]
      refine ok_f (by decide) ?_
      simp only [m_pair, z_in_n (show 4 * a + c < 16 by omega) (by decide), z_in_n (show 4 * c + a < 16 by omega) (by decide), z_g_t]
      rw [nI_clamp (show 4 * a + c < 2 ^ 31 by omega), nI_clamp (show 4 * c + a < 2 ^ 31 by omega), hbb (4 * a + c) (by omega), hbb (4 * c + a) (by omega), e_least (by omega) (by omega), z_b_some]
      refine ok_m (ok_m (ok_ret (Or.inr ⟨r, Nat.zero_le _, hr6, fun r' _ h' => hq r' h', by omega, rfl, ?_, ?_⟩)))
      · have em2 : min (b (4 * a + c)) (b (4 * c + a)) = mnl b [4 * a + c, 4 * c + a] := rfl
        have hm1 : mnl b [4 * a + c, 4 * c + a] ≤ b (4 * a + c) := by rw [← em2]; omega
        have hm2 : mnl b [4 * a + c, 4 * c + a] ≤ b (4 * c + a) := by rw [← em2]; omega
        rw [hg, em2, z_put_same, pk_un (by omega), hbb (4 * a + c) (by omega), hbb (4 * c + a) (by omega), pk_sub hm1, pk_sub hm2]
        exact RM_wb hM (fun q hq => by rw [z_put_ne _ _ _ hq, z_put_ne _ _ _ hq]) (wr2 (by omega) (by omega) (by omega) hbb rfl)
      · exact (fM.put (by decide) (by decide)).tr (fM.put (by decide) (by decide))
    · rw [decide_eq_false e2]
      exact ok_t (by decide) (K (by omega))
  · rw [decide_eq_false e1]
    exact ok_t (by decide) (K (by omega))
theorem p2_end {h : hS} {b : Nat → Nat} {a : Nat} {rec2 : Int32 → zS → zA} {n : Nat} (K : ok (rec2 (nI (a + 1)) τ) (FR 0 6 h b τ)) : ok (lf_X11_strikesTwo_11 N rec2 (n + 1) (nI a) (nI 4) τ) (FR 0 6 h b τ) := by
  show ok (bf_X11_strikesTwo_11 N _ _ _ _ τ) _
  unfold bf_X11_strikesTwo_11
  rw [li1, nI_add]
  exact ok_t (by decide) K
theorem p2_out {h : hS} {b : Nat → Nat} {a : Nat} (ha : a < 4) {n : Nat} (K : ok (lf_X11_strikesTwo_11 N (lf_X11_strikesTwo_2 N n) N (nI a) (nI (a + 1)) τ) (FR 0 6 h b τ)) : ok (lf_X11_strikesTwo_2 N (n + 1) (nI a) τ) (FR 0 6 h b τ) := by
  show ok (bf_X11_strikesTwo_2 N _ _ τ) _
  unfold bf_X11_strikesTwo_2
  rw [li4, t_le (by omega) (by omega), li1, nI_add]
  exact ok_f (by omega) (ok_n K)
theorem p2_fin {h : hS} {b : Nat → Nat} {n : Nat} (hq : ∀ r', r' < 6 → mnl b (rgs r') = 0) : ok (lf_X11_strikesTwo_2 N (n + 1) (nI 4) τ) (FR 0 6 h b τ) := by
  show ok (bf_X11_strikesTwo_2 N _ _ τ) _
  unfold bf_X11_strikesTwo_2
  exact ok_t (by decide) (ok_ret (Or.inl ⟨rfl, rfl, fun r _ hr => hq r hr⟩))
theorem e_two {h : hS} {b : Nat → Nat} (hN : 20 ≤ N) (hM : RM τ (wb h b)) (hB : ∀ k, k < 16 → b k < 1000) : ok (f_X11_strikesTwo N τ) (FR 0 6 h b τ) := by
  unfold f_X11_strikesTwo
  obtain ⟨M, rfl⟩ : ∃ M, N = M + 20 := ⟨N - 20, by omega⟩
  show ok (lf_X11_strikesTwo_2 (M + 20) (M + 20) (nI 0) τ) _
  have nx : ∀ {r : Nat}, (∀ r', r' < r → mnl b (rgs r') = 0) → mnl b (rgs r) = 0 → ∀ r', r' < r + 1 → mnl b (rgs r') = 0 := by
    intro r h1 h2 r' hr'
    by_cases e : r' = r
    · subst e; exact h2
    · exact h1 r' (by omega)
  have Q0 : ∀ r', r' < 0 → mnl b (rgs r') = 0 := fun r' h => absurd h (Nat.not_lt_zero _)
  refine p2_out (a := 0) (by decide) ?_
  refine p2_step (a := 0) (c := 1) (r := 0) hM hB (by decide) (by decide) (by decide) (by decide) Q0 rfl (fun z0 => ?_)
  have Q1 := nx Q0 z0
  refine p2_step (a := 0) (c := 2) (r := 1) hM hB (by decide) (by decide) (by decide) (by decide) Q1 rfl (fun z1 => ?_)
  have Q2 := nx Q1 z1
  refine p2_step (a := 0) (c := 3) (r := 2) hM hB (by decide) (by decide) (by decide) (by decide) Q2 rfl (fun z2 => ?_)
  have Q3 := nx Q2 z2
  refine p2_end (a := 0) ?_
  refine p2_out (a := 1) (by decide) ?_
  refine p2_step (a := 1) (c := 2) (r := 3) hM hB (by decide) (by decide) (by decide) (by decide) Q3 rfl (fun z3 => ?_)
  have Q4 := nx Q3 z3
  refine p2_step (a := 1) (c := 3) (r := 4) hM hB (by decide) (by decide) (by decide) (by decide) Q4 rfl (fun z4 => ?_)
  have Q5 := nx Q4 z4
  refine p2_end (a := 1) ?_
  refine p2_out (a := 2) (by decide) ?_
  refine p2_step (a := 2) (c := 3) (r := 5) hM hB (by decide) (by decide) (by decide) (by decide) Q5 rfl (fun z5 => ?_)
  have Q6 := nx Q5 z5
  refine p2_end (a := 2) ?_
  refine p2_out (a := 3) (by decide) ?_
  refine p2_end (a := 3) ?_
  exact p2_fin Q6
def ps (r : Nat) : Nat := match r with
  | 6 => 6
  | 7 => 7
  | 8 => 9
  | 9 => 11
  | 10 => 13
  | 11 => 14
  | 12 => 27
  | 13 => 30
  | _ => 0
def pv (v : Nat) : Nat := match v with
  | 6 => 6
  | 7 => 7
  | 9 => 8
  | 11 => 9
  | 13 => 10
  | 14 => 11
  | 27 => 12
  | 30 => 13
  | _ => 0
theorem pv_v : ∀ v, v < 64 → (v / 16 < v / 4 % 4 ∧ v / 16 < v % 4 ∧ v / 4 % 4 ≠ v % 4) → (pv v < 14 ∧ 6 ≤ pv v ∧ ps (pv v) = v) := by decide +kernel
theorem pv_w : ∀ v, v < 64 → (v / 16 < v / 4 % 4 ∧ v / 16 < v % 4 ∧ v / 4 % 4 ≠ v % 4) → (rgs (pv v) == [4 * (v / 16) + v / 4 % 4, 4 * (v / 4 % 4) + v % 4, 4 * (v % 4) + v / 16]) = true := by decide +kernel
theorem ps_v (v : Nat) (hv : v < 64) (h1 : v / 16 < v / 4 % 4) (h2 : v / 16 < v % 4) (h3 : v / 4 % 4 ≠ v % 4) : ∃ r, r < 14 ∧ 6 ≤ r ∧ ps r = v ∧ rgs r = [4 * (v / 16) + v / 4 % 4, 4 * (v / 4 % 4) + v % 4, 4 * (v % 4) + v / 16] := ⟨pv v, (pv_v v hv ⟨h1, h2, h3⟩).1, (pv_v v hv ⟨h1, h2, h3⟩).2.1, (pv_v v hv ⟨h1, h2, h3⟩).2.2, eq_of_beq (pv_w v hv ⟨h1, h2, h3⟩)⟩
theorem ps_w : ∀ v, v < 64 → ∀ r, r < 14 → 6 ≤ r → ps r = v → v / 16 < v / 4 % 4 ∧ v / 16 < v % 4 ∧ v / 4 % 4 ≠ v % 4 := by decide +kernel
theorem ps_m : ∀ r, r < 14 → ∀ r', r' < r → 6 ≤ r' → ps r' < ps r := by decide +kernel
theorem ps_l : ∀ r, r < 14 → 6 ≤ r → ps r < 64 := by decide +kernel
theorem ps_i : ∀ r, r < 14 → ∀ r', r' < 14 → 6 ≤ r → 6 ≤ r' → ps r = ps r' → r = r' := by decide +kernel
theorem e_three {h : hS} {b : Nat → Nat} (hN : 2000 ≤ N) (hM : RM τ (wb h b)) (hB : ∀ k, k < 16 → b k < 1000) : ok (f_X11_strikesThree N τ) (FR 6 14 h b τ) := by
  unfold f_X11_strikesThree
  have hbb : ∀ k, k < 16 → τ 8 k = nI (b k) := fun k hk => (RM.r hM).2.2 k hk
  have key : ∀ n v, v ≤ 64 → 64 - v < n → (∀ r, 6 ≤ r → r < 14 → ps r < v → mnl b (rgs r) = 0) → ok (lf_X11_strikesThree_2 N n (nI v) τ) (FR 6 14 h b τ) := by
    intro n
    induction n with
    | zero => intro v _ h; omega
    | succ n ih =>
      intro v hv hn hq
      show ok (bf_X11_strikesThree_2 N _ _ τ) _
      unfold bf_X11_strikesThree_2
      rw [show (64 : Int32) = nI 64 from rfl, t_le (by omega) (by omega)]
      by_cases e : v = 64
      · subst e
        exact ok_t (Nat.le_refl _) (ok_ret (Or.inl ⟨rfl, rfl, fun r h1 h2 => hq r h1 h2 (ps_l r h2 h1)⟩))
      · have hv64 : v < 64 := by omega
        refine ok_f (by omega) ?_
        rw [show nI v / (16 : Int32) = nI (v / 16) from pk_div (d := 16) (by omega) (by decide) (by decide), show nI v / (4 : Int32) = nI (v / 4) from pk_div (d := 4) (by omega) (by decide) (by decide)]
        refine ok_n (ok_n (ok_n ?_))
        rw [show nI (v / 4) - nI (v / 4) / (4 : Int32) * (4 : Int32) = nI (v / 4 % 4) from pk_rem (d := 4) (by omega) (by decide) (by decide), show nI v - nI (v / 4) * (4 : Int32) = nI (v % 4) by rw [show (4 : Int32) = nI 4 from rfl, pk_mul, pk_sub (by omega)]; congr 1; omega, show nI v + (1 : Int32) = nI (v + 1) by rw [li1, nI_add]]
        have nxt : (∀ r, 6 ≤ r → r < 14 → ps r = v → mnl b (rgs r) = 0) → ok (lf_X11_strikesThree_2 N n (nI (v + 1)) τ) (FR 6 14 h b τ) := by
          intro hz
          refine ih (v + 1) (by omega) (by omega) (fun r h1 h2 h3 => ?_)
          by_cases e2 : ps r = v
          · exact hz r h1 h2 e2
          · exact hq r h1 h2 (by omega)
        rw [t_le (by omega) (by omega), t_le (by omega) (by omega), t_eq (by omega) (by omega)]
        refine ok_if (fun h1 => nxt (fun r g1 g2 g3 => absurd (ps_w v hv64 r g2 g1 g3) (by omega))) (fun h1 => ok_if (fun h2 => nxt (fun r g1 g2 g3 => absurd (ps_w v hv64 r g2 g1 g3) (by omega))) (fun h2 => ok_if (fun h3 => nxt (fun r g1 g2 g3 => absurd (ps_w v hv64 r g2 g1 g3) (by omega))) (fun h3 => ?_)))
        obtain ⟨r, r14, r6, rv, hg⟩ := ps_v v hv64 (by omega) (by omega) h3
        have hz : mnl b (rgs r) = 0 → ok (lf_X11_strikesThree_2 N n (nI (v + 1)) τ) (FR 6 14 h b τ) := fun q => nxt (fun r' g1 g2 g3 => by rw [← ps_i r r14 r' g2 r6 g1 (rv.trans g3.symm)]; exact q)
        generalize ha : v / 16 = a at *
        generalize hc : v / 4 % 4 = c at *
        generalize hd : v % 4 = d at *
        have a4 : a < 4 := by omega
        have c4 : c < 4 := by omega
        have d4 : d < 4 := by omega
        have hB1 := hB (4 * a + c) (by omega)
        have hB2 := hB (4 * c + d) (by omega)
        have hB3 := hB (4 * d + a) (by omega)
        have em : mnl b (rgs r) = min (b (4 * a + c)) (min (b (4 * c + d)) (b (4 * d + a))) := by rw [hg]; rfl
        rw [e_owe1 hM hB a4 c4, z_b_some, e_owe1 hM hB c4 d4, z_b_some, e_owe1 hM hB d4 a4, z_b_some]
        by_cases e1 : 0 < b (4 * a + c)
        · rw [decide_eq_true e1]
          refine ok_f (by decide) ?_
          by_cases e2 : 0 < b (4 * c + d)
          · rw [decide_eq_true e2]
            refine ok_f (by decide) ?_
            by_cases e3 : 0 < b (4 * d + a)
            · rw [decide_eq_true e3]
              refine ok_f (by decide) ?_
              simp only [m_pair, z_in_n (show 4 * a + c < 16 by omega) (by decide), z_in_n (show 4 * c + d < 16 by omega) (by decide), z_in_n (show 4 * d + a < 16 by omega) (by decide), z_g_t]
              rw [nI_clamp (show 4 * a + c < 2 ^ 31 by omega), nI_clamp (show 4 * c + d < 2 ^ 31 by omega), nI_clamp (show 4 * d + a < 2 ^ 31 by omega), hbb (4 * a + c) (by omega), hbb (4 * c + d) (by omega), hbb (4 * d + a) (by omega), e_least (by omega) (by omega), z_b_some, e_least (by omega) (by omega), z_b_some]
              refine ok_m (ok_m (ok_m (ok_ret (Or.inr ⟨r, r6, r14, fun r' g1 g2 => hq r' g1 (by omega) (rv ▸ ps_m r r14 r' g2 g1), by omega, rfl, ?_, ?_⟩))))
              · have em2 : min (b (4 * a + c)) (min (b (4 * c + d)) (b (4 * d + a))) = mnl b [4 * a + c, 4 * c + d, 4 * d + a] := rfl
                have hm1 : mnl b [4 * a + c, 4 * c + d, 4 * d + a] ≤ b (4 * a + c) := by rw [← em2]; omega
                have hm2 : mnl b [4 * a + c, 4 * c + d, 4 * d + a] ≤ b (4 * c + d) := by rw [← em2]; omega
                have hm3 : mnl b [4 * a + c, 4 * c + d, 4 * d + a] ≤ b (4 * d + a) := by rw [← em2]; omega
                simp (disch := omega) only [z_put_same, pk_un]
                rw [hg, em2, hbb (4 * a + c) (by omega), hbb (4 * c + d) (by omega), hbb (4 * d + a) (by omega), pk_sub hm1, pk_sub hm2, pk_sub hm3]
                exact RM_wb hM (fun q hq => by rw [z_put_ne _ _ _ hq, z_put_ne _ _ _ hq, z_put_ne _ _ _ hq]) (wr3 (by omega) (by omega) (by omega) (by omega) (by omega) (by omega) hbb rfl)
              · exact ((fM.put (by decide) (by decide)).tr (fM.put (by decide) (by decide))).tr (fM.put (by decide) (by decide))
            · rw [decide_eq_false e3]
              exact ok_t (by decide) (hz (by omega))
          · rw [decide_eq_false e2]
            exact ok_t (by decide) (hz (by omega))
        · rw [decide_eq_false e1]
          exact ok_t (by decide) (hz (by omega))
  exact key N 0 (by omega) (by omega) (fun r _ _ h => absurd h (Nat.not_lt_zero _))
theorem e_Mstrike {h : hS} (hN : 2000 ≤ N) : ∀ k r n b v τ, r + k = 14 → k < n → RM τ (wb h b) → (∀ q, q < 16 → b q < 1000) → (∀ r', r' < r → mnl b (rgs r') = 0) → ok (lf_X11_strike_2 N n (nI v) τ) (fun q s => q = nI (gc k r b v) ∧ RM s (wb h (gb k r b)) ∧ fM τ s) := by
  intro k
  induction k with
  | zero =>
    intro r n b v τ hr hn hM hB hq
    obtain ⟨n, rfl⟩ : ∃ x, n = x + 1 := ⟨n - 1, by omega⟩
    show ok (bf_X11_strike_2 N _ _ τ) _
    unfold bf_X11_strike_2
    refine ok_bm (e_two (by omega) hM hB) (fun q s hs => ?_)
    rcases hs with ⟨rfl, rfl, -⟩ | ⟨r', -, g2, -, g4, -⟩
    · refine ok_t rfl (ok_bm (e_three hN hM hB) (fun q s hs => ?_))
      rcases hs with ⟨rfl, rfl, -⟩ | ⟨r', -, g2, -, g4, -⟩
      · exact ok_t rfl (ok_ret ⟨rfl, hM, fM.rf⟩)
      · have := hq r' (by omega); omega
    · have := hq r' (by omega); omega
  | succ k ih =>
    intro r n b v τ hr hn hM hB hq
    show ok _ (fun q s => q = nI (gc k (r + 1) (sbl b (rgs r)) (v + bN (decide (0 < mnl b (rgs r))))) ∧ RM s (wb h (gb k (r + 1) (sbl b (rgs r)))) ∧ fM τ s)
    by_cases hz : mnl b (rgs r) = 0
    · rw [sbl_0 hz, decide_eq_false (by omega)]
      refine ih (r + 1) n b v τ (by omega) (by omega) hM hB (fun r' hr' => ?_)
      by_cases e : r' = r
      · subst e; exact hz
      · exact hq r' (by omega)
    · rw [decide_eq_true (by omega)]
      obtain ⟨n, rfl⟩ : ∃ x, n = x + 1 := ⟨n - 1, by omega⟩
      show ok (bf_X11_strike_2 N _ _ τ) _
      unfold bf_X11_strike_2
      have go : ∀ s, RM s (wb h (sbl b (rgs r))) → fM τ s → ok (lf_X11_strike_2 N n (nI v + 1) s) (fun q s => q = nI (gc k (r + 1) (sbl b (rgs r)) (v + 1)) ∧ RM s (wb h (gb k (r + 1) (sbl b (rgs r)))) ∧ fM τ s) := by
        intro s h1 h2
        rw [li1, nI_add]
        refine ok_mono (ih (r + 1) n (sbl b (rgs r)) (v + 1) s (by omega) (by omega) h1 (fun q hq' => by have := sbl_le b (rgs r) q; have := hB q hq'; omega) (fun r' hr' => ?_)) (fun q t ht => ⟨ht.1, ht.2.1, h2.tr ht.2.2⟩)
        by_cases e : r' = r
        · subst e; exact sb_self b (by omega)
        · exact sb_keep _ (by omega) (hq r' (by omega))
      refine ok_bm (e_two (by omega) hM hB) (fun q s hs => ?_)
      rcases hs with ⟨rfl, rfl, g⟩ | ⟨r', g1, g2, g3, g4, rfl, g5, g6⟩
      · refine ok_t rfl (ok_bm (e_three hN hM hB) (fun q s hs => ?_))
        have hr6 : 6 ≤ r := by
          rcases Nat.lt_or_ge r 6 with h1 | h1
          · exact absurd (g r (Nat.zero_le _) h1) hz
          · exact h1
        rcases hs with ⟨rfl, rfl, g'⟩ | ⟨r', g1, g2, g3, g4, rfl, g5, g6⟩
        · exact absurd (g' r hr6 (by omega)) hz
        · have er : r' = r := by
            rcases Nat.lt_trichotomy r' r with q | q | q
            · have := hq r' q; omega
            · exact q
            · exact absurd (g3 r hr6 q) hz
          subst er
          exact ok_f (by decide) (go s g5 g6)
      · have er : r' = r := by
          rcases Nat.lt_trichotomy r' r with q | q | q
          · have := hq r' q; omega
          · exact q
          · exact absurd (g3 r (Nat.zero_le _) q) hz
        subst er
        exact ok_f (by decide) (go s g5 g6)
theorem st_strike (hN : 2000 ≤ N) (hI : zInv σ τ) : St (f_X10_strike N σ) (f_X11_strike N τ) := by
  obtain ⟨⟨h, hH⟩, hQ⟩ := id hI
  obtain ⟨hC, hM, v0, v1, v2⟩ := id hH
  obtain ⟨w1, w2, w3, w4, w5⟩ := id v0
  have hB4 : ∀ k, k < 16 → gb 6 0 (hb h) k < 1000 := fun k hk => by have := gb_le 6 0 (hb h) k; have := w4 k hk; omega
  have L1 : ok (f_X10_strike N σ) (fun q s => q = nI (gc 14 0 (hb h) 0) ∧ RC s 0 (wb h (gb 14 0 (hb h))) ∧ fC 0 σ s) := by
    unfold f_X10_strike
    refine ok_bm (e_pairs (h := h) (b := hb h) (by omega) hC w4 w1) (fun q s hs => ?_)
    obtain ⟨rfl, s1, s2⟩ := hs
    refine ok_bm (e_triples (by omega) s1 hB4 w1) (fun q t ht => ok_ret ?_)
    obtain ⟨rfl, t1, t2⟩ := ht
    refine ⟨?_, t1, s2.tr t2⟩
    rw [nI_add, ← gc_add 8 6]
    rfl
  have L2 : ok (f_X11_strike N τ) (fun q s => q = nI (gc 14 0 (hb h) 0) ∧ RM s (wb h (gb 14 0 (hb h))) ∧ fM τ s) := by
    unfold f_X11_strike
    exact e_Mstrike hN 14 0 N (hb h) 0 τ (by omega) (by omega) hM w4 (fun r' h => absurd h (Nat.not_lt_zero _))
  refine St.of2 L1 L2 (fun q s q' t h1 h2 => ⟨h2.1.trans h1.1.symm, zInv.mk (h := wb h (gb 14 0 (hb h))) ⟨h1.2.1, h2.2.1, ⟨w1, w2, w3, fun k hk => ?_, fun a ha => ?_⟩, v1, v2⟩ (hQ.keep (h1.2.2.s (by decide)) h2.2.2.s)⟩)
  · have := gb_le 14 0 (hb h) k
    have := w4 k hk
    show gb 14 0 (hb h) k < 1000
    omega
  · have := gb_le 14 0 (hb h) (5 * a)
    have := w5 a ha
    show gb 14 0 (hb h) (5 * a) = 0
    omega
end S8
