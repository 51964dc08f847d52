/-! The best rooms: the reference. -/
section S9c
variable {σ τ : zS} {N : Nat}
def bT (n j i : Nat) : Nat := if i < j then n + 1 else n
def bBI (h : hS) (v n j : Nat) (g : hS) : Prop := hn g = hn h ∧ hd g = hd h ∧ (∀ i, i < hn h → hc g i 0 = hc h i 0 ∧ hc g i 1 = hc h i 1 ∧ hc g i 3 = hc h i 3 ∧ hc g i 4 = bDg (hn h) v i ∧ hc g i 2 = hc h i 2 - bT n j i * bRt h i (bDg (hn h) v i) ∧ hc g i 5 = bN (decide (0 < hc g i 2))) ∧ ∀ d, hb g d = hb h d - sm (fun i => if 4 * hc h i 3 + bDg (hn h) v i = d then bW h (bT n j i) i (bDg (hn h) v i) else 0) (hn h)
theorem bBI_sum (h : hS) (v n j d : Nat) (hj : j < hn h) : sm (fun i => if 4 * hc h i 3 + bDg (hn h) v i = d then bW h (bT n (j + 1) i) i (bDg (hn h) v i) else 0) (hn h) = sm (fun i => if 4 * hc h i 3 + bDg (hn h) v i = d then bW h (bT n j i) i (bDg (hn h) v i) else 0) (hn h) + (if 4 * hc h j 3 + bDg (hn h) v j = d then bWk h j (bDg (hn h) v j) n else 0) := by
  have e1 : ∀ i, i ≠ j → bT n (j + 1) i = bT n j i := by
    intro i hi
    unfold bT
    by_cases q : i < j
    · rw [if_pos q, if_pos (by omega)]
    · rw [if_neg q, if_neg (by omega)]
  have e2 : bT n (j + 1) j = n + 1 := by unfold bT; rw [if_pos (by omega)]
  have e3 : bT n j j = n := by unfold bT; rw [if_neg (by omega)]
  have h1 := sm_un (f := fun i => if 4 * hc h i 3 + bDg (hn h) v i = d then bW h (bT n j i) i (bDg (hn h) v i) else 0) (x := j) (v := if 4 * hc h j 3 + bDg (hn h) v j = d then bW h (n + 1) j (bDg (hn h) v j) else 0) (hn h) hj
  rw [sm_c (f := un (fun i => if 4 * hc h i 3 + bDg (hn h) v i = d then bW h (bT n j i) i (bDg (hn h) v i) else 0) j (if 4 * hc h j 3 + bDg (hn h) v j = d then bW h (n + 1) j (bDg (hn h) v j) else 0)) (g := fun i => if 4 * hc h i 3 + bDg (hn h) v i = d then bW h (bT n (j + 1) i) i (bDg (hn h) v i) else 0) (fun i hi => by
    by_cases q : i = j
    · subst q; rw [un_s, e2]
    · rw [un_n _ _ q, e1 i q])] at h1
  have h2 : bW h (n + 1) j (bDg (hn h) v j) = bW h n j (bDg (hn h) v j) + bWk h j (bDg (hn h) v j) n := rfl
  rw [e3, h2] at h1
  by_cases q : 4 * hc h j 3 + bDg (hn h) v j = d
  · rw [if_pos q, if_pos q] at h1
    rw [if_pos q]
    omega
  · rw [if_neg q, if_neg q] at h1
    rw [if_neg q]
    omega
theorem bBI_step {h : hS} (hV : V0 h) {v n j : Nat} (hj : j < hn h) {g : hS} (hB : bBI h v n j g) : bBI h v n (j + 1) (burn1 g j) := by
  obtain ⟨b1, b2, b3, b4⟩ := hB
  obtain ⟨c0, c1, c3, c4, c2, c5⟩ := b3 j hj
  have e1 : ∀ i, i ≠ j → bT n (j + 1) i = bT n j i := by
    intro i hi
    unfold bT
    by_cases q : i < j
    · rw [if_pos q, if_pos (by omega)]
    · rw [if_neg q, if_neg (by omega)]
  have e2 : bT n (j + 1) j = n + 1 := by unfold bT; rw [if_pos (by omega)]
  have e3 : bT n j j = n := by unfold bT; rw [if_neg (by omega)]
  have hr4 := bDg_lt (hn h) v j
  have hrt := bRt_p hV hj hr4
  rw [e3] at c2
  unfold burn1
  by_cases hG : 0 < hc g j 2
  · rw [if_pos ⟨by rw [c5, decide_eq_true hG]; rfl, hG⟩]
    have hhb : h_b g j = min (bRt h j (bDg (hn h) v j)) (hc h j 2 - n * bRt h j (bDg (hn h) v j)) := by
      unfold h_b
      rw [c0, c1, c4, b2, c2]
      rfl
    have hhw : h_w g j = bWk h j (bDg (hn h) v j) n := by
      unfold h_w h_d
      rw [c0, c1, c4, b2, hhb]
      rfl
    have hho : h_o g j = 4 * hc h j 3 + bDg (hn h) v j := by unfold h_o; rw [c3, c4]
    have hl : hc g j 2 - h_b g j = hc h j 2 - (n + 1) * bRt h j (bDg (hn h) v j) := by rw [c2, hhb, Nat.succ_mul]; omega
    refine ⟨b1, b2, fun i hi => ?_, fun d => ?_⟩
    · have ec : hc (burn0 g j) i = un (hc g) j (h_c g j) i := rfl
      by_cases q : i = j
      · subst q
        rw [ec, un_s, e2]
        unfold h_c
        rw [un_n _ _ (by decide), un_n _ _ (by decide), un_n _ _ (by decide), un_n _ _ (by decide), un_n _ _ (by decide), un_n _ _ (by decide), un_n _ _ (by decide), un_n _ _ (by decide), un_n _ _ (by decide), un_s, un_s, hl]
        refine ⟨c0, c1, c3, c4, rfl, ?_⟩
        by_cases z : 0 < hc h i 2 - (n + 1) * bRt h i (bDg (hn h) v i)
        · rw [if_pos z, decide_eq_true z]; rfl
        · rw [if_neg z, decide_eq_false z]; rfl
      · rw [ec, un_n _ _ q, e1 i q]
        exact b3 i hi
    · rw [bBI_sum h v n j d hj]
      show un (hb g) (h_o g j) (hb g (h_o g j) - h_p g j) d = _
      have hp : h_p g j = min (hb g (h_o g j)) (h_w g j) := rfl
      by_cases q : d = h_o g j
      · rw [q, un_s, if_pos hho.symm, hp, hhw]
        have := b4 (h_o g j)
        omega
      · rw [un_n _ _ q, if_neg (fun z => q (by rw [hho]; exact z.symm)), b4 d]
        rfl
  · rw [if_neg (fun z => hG z.2)]
    have hw0 : bWk h j (bDg (hn h) v j) n = 0 := by
      unfold bWk
      rw [show min (bRt h j (bDg (hn h) v j)) (hc h j 2 - n * bRt h j (bDg (hn h) v j)) = 0 by omega, wth_0]
    refine ⟨b1, b2, fun i hi => ?_, fun d => ?_⟩
    · by_cases q : i = j
      · subst q
        rw [e2]
        refine ⟨c0, c1, c3, c4, ?_, c5⟩
        rw [c2, Nat.succ_mul]
        omega
      · rw [e1 i q]; exact b3 i hi
    · rw [bBI_sum h v n j d hj, hw0, b4 d]
      split <;> rfl
theorem bBI_burnN {h : hS} (hV : V0 h) {v n : Nat} {g : hS} (hB : bBI h v n 0 g) : ∀ j, j ≤ hn h → bBI h v n j (burnN g j) := by
  intro j
  induction j with
  | zero => intro _; exact hB
  | succ j ih => intro hj; exact bBI_step hV (by omega) (ih (by omega))
theorem bBI_mint {h : hS} (hV : V0 h) {v n : Nat} {g : hS} (hB : bBI h v n 0 g) : bBI h v (n + 1) 0 (mint g) := by
  have h1 := bBI_burnN hV hB (hn h) (Nat.le_refl _)
  obtain ⟨b1, b2, b3, b4⟩ := h1
  have e : ∀ i, i < hn h → bT n (hn h) i = bT (n + 1) 0 i := by
    intro i hi
    unfold bT
    rw [if_pos hi, if_neg (by omega)]
  unfold mint
  rw [hB.1]
  refine ⟨b1, b2, fun i hi => ?_, fun d => ?_⟩
  · rw [← e i hi]; exact b3 i hi
  · refine (b4 d).trans ?_
    rw [sm_c (f := fun i => if 4 * hc h i 3 + bDg (hn h) v i = d then bW h (bT n (hn h) i) i (bDg (hn h) v i) else 0) (g := fun i => if 4 * hc h i 3 + bDg (hn h) v i = d then bW h (bT (n + 1) 0 i) i (bDg (hn h) v i) else 0) (fun i hi => by rw [e i hi])]
theorem bBI_mins {h : hS} (hV : V0 h) {v : Nat} {g : hS} (hB : bBI h v 0 0 g) : ∀ n, bBI h v n 0 (mins g n) := by
  intro n
  induction n with
  | zero => exact hB
  | succ n ih => exact bBI_mint hV ih
/-- the first j candles stand as the way says -/
def bHp (h : hS) (v j : Nat) : hS := (hn h, fun i => if i < j then un (un (hc h i) 4 (bDg (hn h) v i)) 5 (bN (decide (0 < hc h i 2))) else hc h i, hd h, hb h, hm h, hu h, hp h, hq h)
theorem bHp_0 (h : hS) (v : Nat) : bHp h v 0 = h := by
  unfold bHp
  have : (fun i => if i < 0 then un (un (hc h i) 4 (bDg (hn h) v i)) 5 (bN (decide (0 < hc h i 2))) else hc h i) = hc h := by
    funext i
    rw [if_neg (Nat.not_lt_zero _)]
  rw [this]
theorem bHp_s (h : hS) (v j : Nat) : bHp h v (j + 1) = setc (setc (bHp h v j) j 4 (bDg (hn h) v j)) j 5 (bN (decide (0 < hc h j 2))) := by
  have : (fun i => if i < j + 1 then un (un (hc h i) 4 (bDg (hn h) v i)) 5 (bN (decide (0 < hc h i 2))) else hc h i) = hc (setc (setc (bHp h v j) j 4 (bDg (hn h) v j)) j 5 (bN (decide (0 < hc h j 2)))) := by
    funext i
    show _ = un (un (hc (bHp h v j)) j (un (hc (bHp h v j) j) 4 (bDg (hn h) v j))) j (un (un (hc (bHp h v j)) j (un (hc (bHp h v j) j) 4 (bDg (hn h) v j)) j) 5 (bN (decide (0 < hc h j 2)))) i
    have ej : hc (bHp h v j) j = hc h j := if_neg (Nat.lt_irrefl _)
    by_cases q : i = j
    · subst q
      rw [if_pos (by omega), un_s, un_s, ej]
    · rw [un_n _ _ q, un_n _ _ q]
      show _ = if i < j then _ else _
      by_cases z : i < j
      · rw [if_pos z, if_pos (by omega)]
      · rw [if_neg z, if_neg (by omega)]
  unfold bHp
  rw [this]
  rfl
theorem bN_lt (b : Bool) : bN b < 2 := by cases b <;> decide
theorem bHp_V {h : hS} (hV : V0 h) (v j : Nat) : V0 (bHp h v j) := by
  obtain ⟨v1, v2, v3, v4, v5⟩ := hV
  refine ⟨v1, fun i hi => ?_, v3, v4, v5⟩
  show CV (if i < j then _ else _)
  obtain ⟨c0, c1, c2, c3, c4, c5⟩ := v2 i hi
  by_cases q : i < j
  · rw [if_pos q]
    exact ⟨by rw [un_n _ _ (by decide), un_n _ _ (by decide)]; exact c0, by rw [un_n _ _ (by decide), un_n _ _ (by decide)]; exact c1, by rw [un_n _ _ (by decide), un_n _ _ (by decide)]; exact c2, by rw [un_n _ _ (by decide), un_n _ _ (by decide)]; exact c3, by rw [un_n _ _ (by decide), un_s]; exact bDg_lt _ _ _, by rw [un_s]; exact bN_lt _⟩
  · rw [if_neg q]; exact v2 i hi
theorem bHp_B (h : hS) (v : Nat) : bBI h v 0 0 (bHp h v (hn h)) := by
  have e0 : ∀ i, bT 0 0 i = 0 := fun i => by unfold bT; rw [if_neg (Nat.not_lt_zero _)]
  refine ⟨rfl, rfl, fun i hi => ?_, fun d => ?_⟩
  · have ec : hc (bHp h v (hn h)) i = un (un (hc h i) 4 (bDg (hn h) v i)) 5 (bN (decide (0 < hc h i 2))) := if_pos hi
    rw [ec, e0, Nat.zero_mul, Nat.sub_zero, un_n _ _ (by decide), un_n _ _ (by decide), un_n _ _ (by decide), un_n _ _ (by decide), un_n _ _ (by decide), un_n _ _ (by decide), un_n _ _ (by decide), un_s, un_n _ _ (by decide), un_n _ _ (by decide), un_s]
    exact ⟨rfl, rfl, rfl, rfl, rfl, rfl⟩
  · show hb h d = _
    rw [sm_c (f := fun i => if 4 * hc h i 3 + bDg (hn h) v i = d then bW h (bT 0 0 i) i (bDg (hn h) v i) else 0) (g := fun _ => 0) (fun i _ => by rw [e0]; split <;> rfl)]
    have : ∀ m, sm (fun _ => 0) m = 0 := by
      intro m
      induction m with
      | zero => rfl
      | succ m ih => show sm (fun _ => 0) m + 0 = 0; rw [ih]
    rw [this]; rfl
theorem bSum_e {h : hS} (hV : V0 h) (v n : Nat) : hb (mins (bHp h v (hn h)) n) = bD h n (hn h) v := by
  funext d
  have := (bBI_mins hV (bHp_B h v) n).2.2.2 d
  rw [this]
  have e : ∀ i, bT n 0 i = n := fun i => by unfold bT; rw [if_neg (Nat.not_lt_zero _)]
  unfold bD bA
  rw [sm_c (f := fun i => if 4 * hc h i 3 + bDg (hn h) v i = d then bW h (bT n 0 i) i (bDg (hn h) v i) else 0) (g := fun i => if 4 * hc h i 3 + bDg (hn h) v i = d then bW h n i (bDg (hn h) v i) else 0) (fun i _ => by rw [e])]
theorem sh_1 : ∀ nc, nc < 7 → ∀ i, i < nc → ((((2 : Int32) * ((nI nc - (1 : Int32)) - nI i)) &&& 31).toBitVec.smod 32).toNat = 2 * (nc - 1 - i) := by decide +kernel
theorem sh_2 : ∀ nc, nc < 7 → ((1 : Int32) <<< (((2 : Int32) * nI nc) &&& 31)) = nI (4 ^ nc) := by decide +kernel
theorem p4_le {nc : Nat} (h : nc ≤ 6) : 4 ^ nc ≤ 4096 := Nat.pow_le_pow_right (by decide) h
theorem e_roomOf {v nc i : Nat} (hv : v < 2 ^ 31) (h6 : nc ≤ 6) (hi : i < nc) : f_X11_roomOf N (nI v) (nI nc) (nI i) τ = some (nI (bDg nc v i), τ) := by
  unfold f_X11_roomOf
  rw [pk_shrN hv _ (2 * (nc - 1 - i)) (sh_1 nc (by omega) i hi), pk_andN (m := 3) (Nat.lt_of_le_of_lt (Nat.div_le_self _ _) (by omega)) 2 (by decide), Nat.pow_mul]
  rfl
theorem e_sumBy {h : hS} (hN : 2000 ≤ N) (hM : RM τ h) (hV : V0 h) {v n : Nat} (hv : v < 2 ^ 31) (hn2 : n ≤ 20) : ok (f_X11_sumBy N (nI v) (nI n) τ) (fun q t => q = nI (bS h n v) ∧ RM t h ∧ sM τ t ∧ t 0 25 = τ 0 25 ∧ t 0 26 = τ 0 26) := by
  have h6 := hV.1
  unfold f_X11_sumBy
  refine ok_bm (e_keep (w := 1) (by omega) (by decide) hM h6) (fun _ t0 ht0 => ?_)
  obtain ⟨k1, k2, k3⟩ := ht0
  refine cnt_loop (Q := fun o => ok o (fun q t => q = nI (bS h n v) ∧ RM t h ∧ sM τ t ∧ t 0 25 = τ 0 25 ∧ t 0 26 = τ 0 26)) (F := fun m i s => lf_X11_sumBy_8 N m (nI v) (nI n) i s) (I := fun i s => RM s (bHp h v i) ∧ fM t0 s) (e := hn h) ?_ ?_ N 0 t0 (Nat.zero_le _) (by omega) ⟨by rw [bHp_0]; exact k2, fM.rf⟩
  · intro m s ⟨p1, p2⟩
    show ok (bf_X11_sumBy_8 N _ _ _ _ s) _
    unfold bf_X11_sumBy_8
    rw [show s 0 9 = nI (hn h) from p1.1, t_le (by omega) (by omega)]
    refine ok_t (Nat.le_refl _) (ok_bm (e_MgoesMinutes hN p1 (bHp_V hV v _) (by omega)) (fun _ s2 hs2 => ?_))
    rw [e_Mdebts (by omega) hs2.1, z_b_some, bSum_e hV]
    refine ok_bm (e_back (w := 1) (by omega) (by decide) (k1.rows ((p2.tr hs2.2).1 14 (by decide))) h6) (fun _ x hx => ok_ret ⟨rfl, hx.1, (k3.s.tr (p2.tr hs2.2).s).tr hx.2.s, ?_, ?_⟩)
    · rw [hx.2.2 25 (by decide) (by decide) (by decide), (p2.tr hs2.2).2 25 (by decide), k3.2.1 25 (by decide) (by decide)]
    · rw [hx.2.2 26 (by decide) (by decide) (by decide), (p2.tr hs2.2).2 26 (by decide), k3.2.1 26 (by decide) (by decide)]
  · intro m i s hi ⟨p1, p2⟩ ih
    show ok (bf_X11_sumBy_8 N _ _ _ _ s) _
    unfold bf_X11_sumBy_8
    obtain ⟨c0, c1, c2, c3, c4, c5⟩ := hV.2.1 i hi
    rw [show s 0 9 = nI (hn h) from p1.1, t_le (by omega) (by omega), e_roomOf hv h6 hi, z_b_some]
    refine ok_f (by omega) (ok_g (z_in_n (show i < 6 by omega) (by decide)) (ok_m (ok_g (z_in_n (show i < 6 by omega) (by decide)) ?_)))
    rw [nI_clamp (by omega)]
    have r1 : RM (z_put s 5 i (nI (bDg (hn h) v i))) (setc (bHp h v i) i 4 (bDg (hn h) v i)) := RM_setc (k := 4) p1 hi (by decide)
    have fin : ∀ q : Nat, q = bN (decide (0 < hc h i 2)) → ok (z_g (z_in (nI i) 6) (z_m (z_put (z_put s 5 i (nI (bDg (hn h) v i))) 6 i (nI q)) (fun t => lf_X11_sumBy_8 N m (nI v) (nI n) (nI i + 1) t))) (fun q t => q = nI (bS h n v) ∧ RM t h ∧ sM τ t ∧ t 0 25 = τ 0 25 ∧ t 0 26 = τ 0 26) := by
      intro q hq
      refine ok_g (z_in_n (show i < 6 by omega) (by decide)) (ok_m ?_)
      rw [li1, nI_add, hq]
      refine ih _ ⟨?_, (p2.tr (fM.put (by decide) (by decide))).tr (fM.put (by decide) (by decide))⟩
      rw [bHp_s]
      exact RM_setc (k := 5) r1 hi (by decide)
    have eg : z_put s 5 i (nI (bDg (hn h) v i)) 3 i = nI (hc h i 2) := by
      rw [z_put_ne _ _ _ (by decide), (RM.r p1).1 i hi 2 (by decide)]
      show nI ((if i < i then _ else hc h i) 2) = _
      rw [if_neg (Nat.lt_irrefl _)]
    rw [eg]
    refine ok_if (fun hle => ?_) (fun hle => ?_)
    · rw [li0, i_le (by omega) (by omega)] at hle
      exact fin 0 (by rw [decide_eq_false (by omega)]; rfl)
    · rw [li0, i_le (by omega) (by omega)] at hle
      exact fin 1 (by rw [decide_eq_true (by omega)]; rfl)
theorem bLin_lt (h : hS) (n : Nat) (st : Nat × Nat) : ∀ m, 0 < m → (bLin h n 0 m st).2 < m ∨ (bLin h n 0 m st).2 = st.2 := by
  intro m
  induction m with
  | zero => intro h; omega
  | succ m ih =>
    intro _
    show (bU h n (bLin h n 0 m st) (0 + m)).2 < m + 1 ∨ (bU h n (bLin h n 0 m st) (0 + m)).2 = st.2
    unfold bU
    split
    · left
      show 0 + m < m + 1
      omega
    · by_cases e : m = 0
      · subst e; right; rfl
      · rcases ih (by omega) with q | q
        · left; omega
        · right; exact q
theorem bLin_1 {h : hS} (hV : V0 h) (n : Nat) : ∀ m, 0 < m → (bLin h n 0 m (sm (hb h) 16 + 1, 0)).1 ≤ sm (hb h) 16 := by
  intro m
  induction m with
  | zero => intro h; omega
  | succ m ih =>
    intro _
    have h1 := bU_le h n (bLin h n 0 m (sm (hb h) 16 + 1, 0)) (0 + m)
    show (bU h n (bLin h n 0 m (sm (hb h) 16 + 1, 0)) (0 + m)).1 ≤ _
    by_cases e : m = 0
    · subst e
      show (if bS h n 0 < sm (hb h) 16 + 1 then (bS h n 0, 0) else (sm (hb h) 16 + 1, 0)).1 ≤ _
      have := (bSum_lt hV n (hn h) 0).1
      rw [if_pos (by unfold bS; omega)]
      exact this
    · have := ih (by omega); omega
theorem e_findBest {h : hS} (hN : 4200 ≤ N) (hM : RM τ h) (hV : V0 h) {n : Nat} (hn2 : n ≤ 20) : ok (f_X11_findBest N (nI n) τ) (fun _ t => RM t h ∧ sM τ t ∧ t 0 25 = nI (bLin h n 0 (4 ^ hn h) (sm (hb h) 16 + 1, 0)).1 ∧ t 0 26 = nI (bLin h n 0 (4 ^ hn h) (sm (hb h) 16 + 1, 0)).2) := by
  have h6 := hV.1
  have hp4 := p4_le h6
  have hst := (bSum_lt hV n 0 0).2
  have hp0 : 0 < 4 ^ hn h := Nat.pow_pos (by decide)
  unfold f_X11_findBest
  refine ok_m ?_
  have put0 : ∀ (s : zS) (k : Nat) (x : Int32), 25 ≤ k → k ≤ 26 → RM s h → RM (z_put s 0 k x) h := by
    intro s k x h1 h2 hR
    obtain ⟨a1, a2, a3, a4, a5, a6, a7, a8⟩ := hR
    refine ⟨?_, ?_, ?_, ?_, ?_, fun i hi q hq => ?_, fun q hq => ?_, fun q hq => ?_⟩
    · rw [z_put_same, pk_un (by omega)]; exact a1
    · rw [z_put_same, pk_un (by omega)]; exact a2
    · rw [z_put_same, pk_un (by omega)]; exact a3
    · rw [z_put_same, pk_un (by omega)]; exact a4
    · rw [z_put_same, pk_un (by omega)]; exact a5
    · rw [z_put_ne _ _ _ (by omega)]; exact a6 i hi q hq
    · rw [z_put_ne _ _ _ (by omega)]; exact a7 q hq
    · rw [z_put_ne _ _ _ (by omega)]; exact a8 q hq
  have putM : ∀ (s : zS) (k : Nat) (x : Int32), 25 ≤ k → k ≤ 26 → sM s (z_put s 0 k x) := fun s k x h1 h2 => ⟨z_put_ne _ _ _ (by decide), z_put_ne _ _ _ (by decide), z_put_ne _ _ _ (by decide), fun q _ => by rw [z_put_ne _ _ _ (by decide)], by rw [z_put_same, pk_un (by omega)], by rw [z_put_same, pk_un (by omega)], by rw [z_put_same, pk_un (by omega)]⟩
  refine cnt_loop (Q := fun o => ok o (fun _ t => RM t h ∧ sM τ t ∧ t 0 25 = nI (bLin h n 0 (4 ^ hn h) (sm (hb h) 16 + 1, 0)).1 ∧ t 0 26 = nI (bLin h n 0 (4 ^ hn h) (sm (hb h) 16 + 1, 0)).2)) (F := fun m i s => lf_X11_findBest_8 N m (nI n) i s) (I := fun v s => RM s h ∧ sM τ s ∧ ((v = 0 ∧ s 0 25 = (-9 : Int32)) ∨ (0 < v ∧ s 0 25 = nI (bLin h n 0 v (sm (hb h) 16 + 1, 0)).1 ∧ s 0 26 = nI (bLin h n 0 v (sm (hb h) 16 + 1, 0)).2))) (e := 4 ^ hn h) ?_ ?_ N 0 _ (Nat.zero_le _) (by omega) ⟨put0 _ _ _ (by decide) (by decide) hM, putM _ _ _ (by decide) (by decide), Or.inl ⟨rfl, by rw [z_put_same, pk_us]⟩⟩
  · intro m s ⟨p1, p2, p3⟩
    show ok (bf_X11_findBest_8 N _ _ _ s) _
    unfold bf_X11_findBest_8
    rw [p1.1, sh_2 _ (by omega), t_le (by omega) (by omega)]
    refine ok_t (Nat.le_refl _) (ok_ret ?_)
    rcases p3 with ⟨q, -⟩ | ⟨-, q1, q2⟩
    · omega
    · exact ⟨p1, p2, q1, q2⟩
  · intro m v s hv ⟨p1, p2, p3⟩ ih
    show ok (bf_X11_findBest_8 N _ _ _ s) _
    unfold bf_X11_findBest_8 bf_X11_findBest_45
    have hSv : bS h n v ≤ 16 * 999 := by have := bSum_lt hV n (hn h) v; unfold bS; omega
    rw [p1.1, sh_2 _ (by omega), t_le (by omega) (by omega)]
    refine ok_f (by omega) (ok_bm (e_sumBy (by omega) p1 hV (by omega) hn2) (fun q t ht => ?_))
    obtain ⟨rfl, t1, t2, t3, t4⟩ := ht
    rw [t3, show nI v + (1 : Int32) = nI (v + 1) by rw [li1, nI_add]]
    have es : bLin h n 0 (v + 1) (sm (hb h) 16 + 1, 0) = bU h n (bLin h n 0 v (sm (hb h) 16 + 1, 0)) v := by show bU h n _ (0 + v) = _; rw [Nat.zero_add]
    have take : bS h n v < (bLin h n 0 v (sm (hb h) 16 + 1, 0)).1 → ok (z_m (z_put t 0 25 (nI (bS h n v))) (fun t_1 => z_m (z_put t_1 0 26 (nI v)) (fun t_2 => lf_X11_findBest_8 N m (nI n) (nI (v + 1)) t_2))) (fun _ t => RM t h ∧ sM τ t ∧ t 0 25 = nI (bLin h n 0 (4 ^ hn h) (sm (hb h) 16 + 1, 0)).1 ∧ t 0 26 = nI (bLin h n 0 (4 ^ hn h) (sm (hb h) 16 + 1, 0)).2) := by
      intro hlt
      refine ok_m (ok_m (ih _ ⟨put0 _ _ _ (by decide) (by decide) (put0 _ _ _ (by decide) (by decide) t1), (p2.tr t2).tr ((putM _ _ _ (by decide) (by decide)).tr (putM _ _ _ (by decide) (by decide))), Or.inr ⟨by omega, ?_, ?_⟩⟩))
      · rw [es, z_put_same, pk_un (by decide), z_put_same, pk_us]
        unfold bU
        rw [if_pos hlt]
      · rw [es, z_put_same, pk_us]
        unfold bU
        rw [if_pos hlt]
    rcases p3 with ⟨q, q9⟩ | ⟨q0, q1, q2⟩
    · rw [q9]
      refine ok_t (by decide) (take ?_)
      subst q
      show bS h n 0 < sm (hb h) 16 + 1
      have := (bSum_lt hV n (hn h) 0).1
      unfold bS; omega
    · have hl := bLin_1 hV n v q0
      rw [q1]
      refine ok_f (nI_pos (by omega)) ?_
      refine ok_if (fun hlt => ?_) (fun hlt => ?_)
      · rw [i_lt (by omega) (by omega)] at hlt
        exact take hlt
      · rw [i_lt (by omega) (by omega)] at hlt
        refine ih t ⟨t1, p2.tr t2, Or.inr ⟨by omega, ?_, ?_⟩⟩
        · rw [es, t3, q1]
          unfold bU
          rw [if_neg hlt]
        · rw [es, t4, q2]
          unfold bU
          rw [if_neg hlt]
theorem st_best (hN : 4200 ≤ N) (hI : zInv σ τ) (v w : Int32) : St (f_X10_best N v w σ) (f_X11_best N v w τ) := by
  obtain ⟨⟨h, hH⟩, hQ⟩ := id hI
  obtain ⟨hC, hM, v0, v1, v2⟩ := id hH
  have h6 := v0.1
  have hp4 := p4_le h6
  have hp0 : 0 < 4 ^ hn h := Nat.pow_pos (by decide)
  unfold f_X10_best f_X11_best
  have main : (w = -1 ∨ ∃ i, i < hn h ∧ w = nI i) → St (bf_X10_best_19 N v w σ) (bf_X11_best_17 N v w τ) := by
    intro hw
    unfold bf_X10_best_19 bf_X11_best_17 bf_X11_best_24
    simp only [z_b_id]
    rcases ou_cases v 0 20 (lo := 0) (hi := 20) rfl rfl (by decide) (by decide) with ⟨n, -, n2, rfl, e⟩ | ⟨-, e⟩ | ⟨-, -, e⟩
    · rw [(e N σ τ).1, (e N σ τ).2, z_b_some, z_b_some, if_pos p00, if_pos p00]
      have hL := bLin_1 v0 n (4 ^ hn h) hp0
      have hLV : (bLin h n 0 (4 ^ hn h) (sm (hb h) 16 + 1, 0)).2 < 4 ^ hn h := by
        rcases bLin_lt h n (sm (hb h) 16 + 1, 0) (4 ^ hn h) hp0 with q | q
        · exact q
        · rw [q]; exact hp0
      refine St.of (ok_bm (e_find (by omega) hC v0 n2) (fun _ s hs => ?_))
      obtain ⟨⟨-, -, -, u4, u5, u6⟩, hf⟩ := hs
      rw [bLin_sc, Nat.zero_mul] at u4 u6
      have sc : sC σ s := ⟨hf 37 (by omega), hf 38 (by omega), hf 39 (by omega), hf 46 (by omega), hf 47 (by omega), fun a ha => hf a (by unfold hr at ha; omega)⟩
      have hCs : RC s 0 h := hC.frame h6 (fun a ha => hf a (by unfold hr at ha; omega))
      rcases hw with rfl | ⟨i, hi, rfl⟩
      · refine ok_t rfl (ok_ret (ok_bm (e_findBest hN hM v0 n2) (fun _ t ht => ok_t rfl (ok_ret ⟨?_, ?_⟩))))
        · rw [ht.2.2.1, u4]
        · exact zInv.mk ⟨hCs, ht.1, v0, v1, v2⟩ (hQ.keep sc ht.2.1)
      · have hne : ¬ nI i = (-1 : Int32) := fun q => by
          have h1 := nI_pos (show i < 2 ^ 31 by omega)
          rw [q] at h1
          exact h1 (by decide)
        refine ok_f hne (ok_g (z_in_n (show i < 6 by omega) (by decide)) (ok_ret (ok_bm (e_findBest hN hM v0 n2) (fun _ t ht => ok_f hne ?_))))
        rw [ht.2.2.2, ht.1.1, e_roomOf (by omega) h6 hi]
        refine ok_ret ⟨?_, ?_⟩
        · rw [nI_clamp (by omega), u6 hL i hi]
        · exact zInv.mk ⟨hCs, ht.1, v0, v1, v2⟩ (hQ.keep sc ht.2.1)
    · rw [(e N σ τ).1, (e N σ τ).2, z_b_some, z_b_some, if_neg n40, if_neg n40]; exact St_r4 hI
    · rw [(e N σ τ).1, (e N σ τ).2, z_b_some, z_b_some, if_neg n60, if_neg n60]; exact St_r6 hI
  by_cases hw : w = -1
  · rw [if_pos hw, if_pos hw]; exact main (Or.inl hw)
  · rw [if_neg hw, if_neg hw]
    rcases v_cases w (n := hn h) (by omega) with hv | ⟨i, hi, rfl⟩
    · rw [ca_no hC hv, cm_no hM hv, z_b_some, z_b_some, if_pos p00, if_pos p00]
      unfold bf_X11_best_24
      simp only [z_b_id]
      rw [if_neg n1_0]
      exact St_r1 hI
    · rw [ca_yes hC h6 hi, cm_yes hM h6 hi, z_b_some, z_b_some, if_neg n10, if_neg n10]
      exact main (Or.inr ⟨i, hi, rfl⟩)
end S9c
