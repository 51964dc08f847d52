/-! Draughts, debts, the row, the image, the counts, minutes. -/
section S2
variable {σ τ : zS} {N : Nat}
def setd (h : hS) (a v : Nat) : hS := (hn h, hc h, un (hd h) a v, hb h, hm h, hu h, hp h, hq h)
def setb (h : hS) (a v : Nat) : hS := (hn h, hc h, hd h, un (hb h) a v, hm h, hu h, hp h, hq h)
theorem IH_setd {h : hS} (hH : IH σ τ h) {a v : Nat} (ha : a < 4) (hv : v < 10) : IH (z_put σ (24 + 0) a (nI v)) (z_put τ 7 a (nI v)) (setd h a v) := by
  obtain ⟨hC, hM, v0, v1, v2⟩ := hH
  obtain ⟨v01, v02, v03, v04, v05⟩ := id v0
  obtain ⟨a1, a2, a3, a4, a5, a6, a7, a8⟩ := hC
  obtain ⟨b1, b2, b3, b4, b5, b6, b7, b8⟩ := hM
  refine ⟨⟨?_, ?_, ?_, ?_, ?_, fun i hi k hk => ?_, fun k hk => ?_, fun k hk => ?_⟩, ⟨?_, ?_, ?_, ?_, ?_, fun i hi k hk => ?_, fun k hk => ?_, fun k hk => ?_⟩, ⟨v01, v02, fun k hk => ?_, v04, v05⟩, v1, v2⟩
  · rw [z_put_ne _ _ _ (by omega)]; exact a1
  · rw [z_put_ne _ _ _ (by omega)]; exact a2
  · rw [z_put_ne _ _ _ (by omega)]; exact a3
  · rw [z_put_ne _ _ _ (by omega)]; exact a4
  · rw [z_put_ne _ _ _ (by omega)]; exact a5
  · have hi' : i < hn h := hi
    rw [z_put_ne _ _ _ (by omega)]; exact a6 i hi k hk
  · show _ = nI (un (hd h) a v k)
    rw [z_put_same]
    by_cases e : k = a
    · subst e; rw [un_s, pk_us]
    · rw [un_n _ _ e, pk_un e]; exact a7 k hk
  · rw [z_put_ne _ _ _ (by omega)]; exact a8 k hk
  · rw [z_put_ne _ _ _ (by omega)]; exact b1
  · rw [z_put_ne _ _ _ (by omega)]; exact b2
  · rw [z_put_ne _ _ _ (by omega)]; exact b3
  · rw [z_put_ne _ _ _ (by omega)]; exact b4
  · rw [z_put_ne _ _ _ (by omega)]; exact b5
  · rw [z_put_ne _ _ _ (by omega)]; exact b6 i hi k hk
  · show _ = nI (un (hd h) a v k)
    rw [z_put_same]
    by_cases e : k = a
    · subst e; rw [un_s, pk_us]
    · rw [un_n _ _ e, pk_un e]; exact b7 k hk
  · rw [z_put_ne _ _ _ (by omega)]; exact b8 k hk
  · show un (hd h) a v k < 10
    by_cases e : k = a
    · subst e; rw [un_s]; exact hv
    · rw [un_n _ _ e]; exact v03 k hk
theorem IH_setb {h : hS} (hH : IH σ τ h) {a v : Nat} (ha : a < 16) (hv : v < 1000) (hd5 : ∀ q, q < 4 → a ≠ 5 * q) : IH (z_put σ (27 + 0) a (nI v)) (z_put τ 8 a (nI v)) (setb h a v) := by
  obtain ⟨hC, hM, v0, v1, v2⟩ := hH
  obtain ⟨v01, v02, v03, v04, v05⟩ := id v0
  obtain ⟨a1, a2, a3, a4, a5, a6, a7, a8⟩ := hC
  obtain ⟨b1, b2, b3, b4, b5, b6, b7, b8⟩ := hM
  refine ⟨⟨?_, ?_, ?_, ?_, ?_, fun i hi k hk => ?_, fun k hk => ?_, fun k hk => ?_⟩, ⟨?_, ?_, ?_, ?_, ?_, fun i hi k hk => ?_, fun k hk => ?_, fun k hk => ?_⟩, ⟨v01, v02, v03, fun k hk => ?_, fun q hq => ?_⟩, v1, v2⟩
  · rw [z_put_ne _ _ _ (by omega)]; exact a1
  · rw [z_put_ne _ _ _ (by omega)]; exact a2
  · rw [z_put_ne _ _ _ (by omega)]; exact a3
  · rw [z_put_ne _ _ _ (by omega)]; exact a4
  · rw [z_put_ne _ _ _ (by omega)]; exact a5
  · have hi' : i < hn h := hi
    rw [z_put_ne _ _ _ (by omega)]; exact a6 i hi k hk
  · rw [z_put_ne _ _ _ (by omega)]; exact a7 k hk
  · show _ = nI (un (hb h) a v k)
    rw [z_put_same]
    by_cases e : k = a
    · subst e; rw [un_s, pk_us]
    · rw [un_n _ _ e, pk_un e]; exact a8 k hk
  · rw [z_put_ne _ _ _ (by omega)]; exact b1
  · rw [z_put_ne _ _ _ (by omega)]; exact b2
  · rw [z_put_ne _ _ _ (by omega)]; exact b3
  · rw [z_put_ne _ _ _ (by omega)]; exact b4
  · rw [z_put_ne _ _ _ (by omega)]; exact b5
  · rw [z_put_ne _ _ _ (by omega)]; exact b6 i hi k hk
  · rw [z_put_ne _ _ _ (by omega)]; exact b7 k hk
  · show _ = nI (un (hb h) a v k)
    rw [z_put_same]
    by_cases e : k = a
    · subst e; rw [un_s, pk_us]
    · rw [un_n _ _ e, pk_un e]; exact b8 k hk
  · show un (hb h) a v k < 1000
    by_cases e : k = a
    · subst e; rw [un_s]; exact hv
    · rw [un_n _ _ e]; exact v04 k hk
  · show un (hb h) a v (5 * q) = 0
    rw [un_n _ _ (fun e => hd5 q hq e.symm)]; exact v05 q hq
theorem st_draught (hI : zInv σ τ) (v w : Int32) : St (f_X10_draught N v w σ) (f_X11_draught N v w τ) := by
  obtain ⟨⟨h, hH⟩, hQ⟩ := id hI
  obtain ⟨hC, hM, v0, v1, v2⟩ := id hH
  unfold f_X10_draught f_X11_draught
  simp only [z_b_id]
  rcases v_cases v (n := 4) (by decide) with hv | ⟨a, ha, rfl⟩
  · rw [pe_no hv, pm_no hv, z_b_some, z_b_some, if_pos p00, if_pos p00]
    exact St_r1 hI
  · rw [pe_yes ha, pm_yes ha, z_b_some, z_b_some, if_neg n10, if_neg n10]
    rcases ou_cases w 0 9 (lo := 0) (hi := 9) rfl rfl (by decide) (by decide) with ⟨c, -, hc9, rfl, e⟩ | ⟨-, e⟩ | ⟨-, -, e⟩
    · rw [(e N σ τ).1, (e N σ τ).2, z_b_some, z_b_some, if_pos p00, if_pos p00, z_in_n ha (by decide)]
      simp only [z_g_t]
      rw [nI_clamp (by omega)]
      refine St.of (ok_n (ok_m (ok_ret (ok_n (ok_m (ok_ret ⟨?_, ?_⟩))))))
      · rw [rc_d hC ha]; exact (RM.r hM).2.1 a ha
      · exact zInv.mk (IH_setd hH ha (by omega)) (hQ.keep (sC_put (by omega)) (sM_put (by omega)))
    · rw [(e N σ τ).1, (e N σ τ).2, z_b_some, z_b_some, if_neg n40, if_neg n40]; exact St_r4 hI
    · rw [(e N σ τ).1, (e N σ τ).2, z_b_some, z_b_some, if_neg n60, if_neg n60]; exact St_r6 hI
theorem e_pair (a b : Nat) : f_X10_pair N (nI a) (nI b) σ = some (nI (4 * a + b), σ) := by
  unfold f_X10_pair
  rw [li4, pk_mul, nI_add, Nat.mul_comm]
theorem m_pair (a b : Nat) : (4 : Int32) * nI a + nI b = nI (4 * a + b) := by rw [li4, pk_mul, nI_add]
theorem st_owe (hI : zInv σ τ) (v w x : Int32) : St (f_X10_owe N v w x σ) (f_X11_owe N v w x τ) := by
  obtain ⟨⟨h, hH⟩, hQ⟩ := id hI
  obtain ⟨hC, hM, v0, v1, v2⟩ := id hH
  unfold f_X10_owe f_X11_owe
  simp only [z_b_id]
  rcases tw_cases v w with ⟨a, b, ha, hb4, hab, rfl, rfl⟩ | hno
  · rw [tw_yes ha hb4 hab, tm_yes ha hb4 hab, z_b_some, z_b_some, if_neg n10, if_neg n10]
    rcases ou_cases x 0 999 (lo := 0) (hi := 999) rfl rfl (by decide) (by decide) with ⟨c, -, hc9, rfl, e⟩ | ⟨-, e⟩ | ⟨-, -, e⟩
    · rw [(e N σ τ).1, (e N σ τ).2, z_b_some, z_b_some, if_pos p00, if_pos p00]
      simp only [e_pair, z_b_some, m_pair, z_in_n (show 4 * a + b < 16 by omega) (by decide), z_g_t]
      rw [nI_clamp (by omega)]
      refine St.of (ok_n (ok_m (ok_ret (ok_n (ok_m (ok_ret ⟨?_, ?_⟩))))))
      · rw [rc_b hC (by omega)]; exact (RM.r hM).2.2 _ (by omega)
      · exact zInv.mk (IH_setb hH (by omega) (by omega) (fun q hq => by omega)) (hQ.keep (sC_put (by omega)) (sM_put (by omega)))
    · rw [(e N σ τ).1, (e N σ τ).2, z_b_some, z_b_some, if_neg n40, if_neg n40]; exact St_r4 hI
    · rw [(e N σ τ).1, (e N σ τ).2, z_b_some, z_b_some, if_neg n60, if_neg n60]; exact St_r6 hI
  · rw [(hno N σ τ).1, (hno N σ τ).2, z_b_some, z_b_some, if_pos p00, if_pos p00]; exact St_r1 hI
theorem st_debt (hI : zInv σ τ) (v w : Int32) : St (f_X10_debt N v w σ) (f_X11_debt N v w τ) := by
  obtain ⟨⟨h, hH⟩, hQ⟩ := id hI
  obtain ⟨hC, hM, v0, v1, v2⟩ := id hH
  unfold f_X10_debt f_X11_debt
  simp only [z_b_id]
  rcases tw_cases v w with ⟨a, b, ha, hb4, hab, rfl, rfl⟩ | hno
  · rw [tw_yes ha hb4 hab, tm_yes ha hb4 hab, z_b_some, z_b_some, if_neg n10, if_neg n10]
    simp only [e_pair, z_b_some, m_pair, z_in_n (show 4 * a + b < 16 by omega) (by decide), z_g_t]
    rw [nI_clamp (by omega), rc_b hC (by omega), (RM.r hM).2.2 _ (by omega)]
    exact St.ret hI
  · rw [(hno N σ τ).1, (hno N σ τ).2, z_b_some, z_b_some, if_pos p00, if_pos p00]; exact St_r1 hI
/-- what is no part of the house may change -/
theorem IH.frame {h : hS} {σ' τ' : zS} (hH : IH σ τ h) (f1 : ∀ a, hr 0 a → σ' a = σ a) (f2 : ∀ a, 1 ≤ a → a < 9 → τ' a = τ a) (f3 : ∀ k, 9 ≤ k → k < 14 → τ' 0 k = τ 0 k) : IH σ' τ' h := by
  obtain ⟨hC, hM, v0, v1, v2⟩ := hH
  obtain ⟨b1, b2, b3, b4, b5, b6, b7, b8⟩ := hM
  exact ⟨hC.frame v0.1 f1, ⟨(f3 9 (by decide) (by decide)).trans b1, (f3 10 (by decide) (by decide)).trans b2, (f3 11 (by decide) (by decide)).trans b3, (f3 12 (by decide) (by decide)).trans b4, (f3 13 (by decide) (by decide)).trans b5, fun i hi k hk => by rw [f2 (k + 1) (by omega) (by omega)]; exact b6 i hi k hk, fun k hk => by rw [f2 7 (by decide) (by decide)]; exact b7 k hk, fun k hk => by rw [f2 8 (by decide) (by decide)]; exact b8 k hk⟩, v0, v1, v2⟩
theorem IK.frame {σ' τ' : zS} (hK : IK σ τ) (e1 : σ' 37 4 = σ 37 4) (e2 : τ' 0 22 = τ 0 22) (f1 : ∀ a, hr 2 a → σ' a = σ a) (f2 : τ' 14 = τ 14) : IK σ' τ' := by
  rcases hK with ⟨a, b⟩ | ⟨a, b, k, r1, r2, w0, w1, w2⟩
  · exact Or.inl ⟨e1.trans a, e2.trans b⟩
  · exact Or.inr ⟨e1.trans a, e2.trans b, k, r1.frame w0.1 f1, r2.keep w0.1 (fun _ _ => by rw [f2]), w0, w1, w2⟩
theorem row_inv (hI : zInv σ τ) {n : Nat} (hn6 : n ≤ 6) (σ' τ' : zS) (h1 : σ' 37 8 = nI n) (h2 : τ' 0 28 = nI n) (h3 : ∀ k, k < n → ∃ c, c < 1000 ∧ σ' 46 k = nI c ∧ τ' 15 k = nI c) (f1 : ∀ a, a ≠ 37 → a ≠ 46 → σ' a = σ a) (f2 : ∀ k, k ≠ 8 → σ' 37 k = σ 37 k) (f3 : ∀ a, a ≠ 0 → a ≠ 15 → τ' a = τ a) (f4 : ∀ k, k ≠ 28 → τ' 0 k = τ 0 k) : zInv σ' τ' := by
  obtain ⟨⟨h, hH⟩, hK, ⟨m, m1, m2, m3, m4⟩, hR, hF⟩ := hI
  refine ⟨⟨h, hH.frame (fun a ha => f1 a (by unfold hr at ha; omega) (by unfold hr at ha; omega)) (fun a h1 h9 => f3 a (by omega) (by omega)) (fun k h9 h14 => f4 k (by omega))⟩, hK.frame (f2 4 (by decide)) (f4 22 (by decide)) (fun a ha => f1 a (by unfold hr at ha; omega) (by unfold hr at ha; omega)) (f3 14 (by decide) (by decide)), ⟨m, m1, by rw [f1 38 (by decide) (by decide)]; exact m2, by rw [f4 18 (by decide)]; exact m3, fun k hk => by rw [f1 39 (by decide) (by decide), f3 10 (by decide) (by decide)]; exact m4 k hk⟩, ⟨n, hn6, h1, h2, h3⟩, fun k hk => by rw [f1 47 (by decide) (by decide), f3 9 (by decide) (by decide)]; exact hF k hk⟩
theorem st_row (hI : zInv σ τ) (v : Int32) : St (f_X10_row N v σ) (f_X11_row N v τ) := by
  obtain ⟨hH, hK, hL, ⟨n, n6, b1, b2, b3⟩, hF⟩ := id hI
  unfold f_X10_row f_X11_row bf_X10_row_27 bf_X11_row_25
  simp only [z_b_id]
  rcases ou_cases v 0 999 (lo := 0) (hi := 999) rfl rfl (by decide) (by decide) with ⟨c, -, hc, rfl, e⟩ | ⟨hneg, e⟩ | ⟨hpos, hgt, e⟩
  · rw [(e N σ τ).2, z_b_some, if_pos p00, b1, b2, if_pos (show (0 : Int32) ≤ nI c from nI_pos' (by omega)), if_neg (show ¬ (999 : Int32) < nI c from nI_nlt (a := 999) (by omega) (by decide)), li6, t_lt (by omega) (by omega), t_eq (by omega) (by omega)]
    by_cases h6 : n = 6
    · rw [if_neg (by omega), if_pos h6, if_neg (show ¬ (-nI 6 : Int32) = 0 by decide)]
      exact St_r6 hI
    · rw [if_pos (by omega), if_neg h6, if_pos p00, z_in_n (show n < 6 by omega) (by decide), z_g_t, z_g_t, nI_clamp (by omega)]
      refine St.of (ok_m (ok_m (ok_ret (ok_m (ok_m (ok_ret ?_))))))
      have e1 : z_put σ 46 n (nI c) 37 8 + 1 = nI (n + 1) := by rw [z_put_ne _ _ _ (by decide), b1, li1, nI_add]
      have e2 : z_put τ 15 n (nI c) 0 28 + 1 = nI (n + 1) := by rw [z_put_ne _ _ _ (by decide), b2, li1, nI_add]
      rw [e1, e2]
      refine ⟨by rw [z_put_same, pk_us, z_put_same, pk_us], row_inv hI (n := n + 1) (by omega) _ _ (by rw [z_put_same, pk_us]) (by rw [z_put_same, pk_us]) (fun k hk => ?_) (fun a h1 h2 => ?_) (fun k hk => ?_) (fun a h1 h2 => ?_) (fun k hk => ?_)⟩
      · rw [z_put_ne _ _ _ (by decide), z_put_same, z_put_ne _ _ _ (by decide), z_put_same]
        by_cases e : k = n
        · subst e; exact ⟨c, by omega, by rw [pk_us], by rw [pk_us]⟩
        · rw [pk_un e, pk_un e]; exact b3 k (by omega)
      · rw [z_put_ne _ _ _ h1, z_put_ne _ _ _ h2]
      · rw [z_put_same, pk_un hk, z_put_ne _ _ _ (by decide)]
      · rw [z_put_ne _ _ _ h1, z_put_ne _ _ _ h2]
      · rw [z_put_same, pk_un hk, z_put_ne _ _ _ (by decide)]
  · rw [if_neg hneg, (e N σ τ).2, z_b_some, if_neg n40, if_neg n40]
    exact St_r4 hI
  · rw [if_pos hpos, if_pos hgt, (e N σ τ).2, z_b_some, if_neg n60, if_neg n60]
    exact St_r6 hI
theorem st_judge (hN : 7 ≤ N) (hI : zInv σ τ) : St (f_X10_judge N σ) (f_X11_judge N τ) := by
  obtain ⟨⟨h, hH⟩, hK, hL, ⟨n, n6, b1, b2, b3⟩, hF⟩ := id hI
  obtain ⟨hC, hM, v0, v1, v2⟩ := id hH
  have h6 := v0.1
  have hfin : zInv (z_put σ 37 8 0) (z_put τ 0 28 0) := row_inv hI (n := 0) (by decide) _ _ (by rw [z_put_same, pk_us]; rfl) (by rw [z_put_same, pk_us]; rfl) (fun k hk => by omega) (fun a h1 _ => z_put_ne _ _ _ h1) (fun k hk => by rw [z_put_same, pk_un hk]) (fun a h1 _ => z_put_ne _ _ _ h1) (fun k hk => by rw [z_put_same, pk_un hk])
  have key : ∀ m i, i ≤ min n (hn h) → min n (hn h) - i < m → ∃ r : Int32, lf_X10_firstWrong_17 N m (nI (min n (hn h))) (nI i) σ = some (r, σ) ∧ lf_X11_judge_21 N m (nI n) (nI (min n (hn h))) (nI i) (z_put τ 0 28 0) = some (r, z_put τ 0 28 0) := by
    intro m
    induction m with
    | zero => intro i _ hq; omega
    | succ m ih =>
      intro i hi hm
      show ∃ r : Int32, bf_X10_firstWrong_17 N _ _ _ σ = _ ∧ bf_X11_judge_21 N _ _ _ _ _ = _
      unfold bf_X10_firstWrong_17 bf_X11_judge_21
      rw [b1, hC.1, z_put_same, pk_un (by decide), hM.1, t_le (by omega) (by omega), t_le (by omega) (by omega), t_eq (by omega) (by omega), t_eq (by omega) (by omega)]
      by_cases he : min n (hn h) ≤ i
      · rw [if_pos he, if_pos he]
        by_cases e2 : n = hn h
        · rw [if_pos e2, if_pos e2]; exact ⟨_, rfl, rfl⟩
        · rw [if_neg e2, if_neg e2]; exact ⟨_, rfl, rfl⟩
      · have hin : i < n := by omega
        have hih : i < hn h := by omega
        obtain ⟨c, hcl, x1, x2⟩ := b3 i hin
        obtain ⟨c0, c1, c2, c3, c4, c5⟩ := v0.2.1 i hih
        rw [if_neg he, if_neg he, z_in_n (show i < 6 by omega) (by decide)]
        simp only [z_g_t]
        rw [nI_clamp (by omega), x1, z_put_ne _ _ _ (by decide), x2, rc_c hC hih (by decide : 2 < 6), z_put_ne _ _ _ (by decide), (RM.r hM).1 i hih 2 (by decide), t_eq (by omega) (by omega), t_eq (by omega) (by omega), li1, nI_add]
        by_cases e : c = hc h i 2
        · rw [if_pos e, if_pos e]; exact ih (i + 1) (by omega) (by omega)
        · rw [if_neg e, if_neg e]; exact ⟨_, rfl, rfl⟩
  obtain ⟨r, k1, k2⟩ := key N 0 (by omega) (by omega)
  have k1 : lf_X10_firstWrong_17 N N (nI (min n (hn h))) 0 σ = some (r, σ) := k1
  unfold f_X10_judge f_X11_judge f_X10_firstWrong z_n
  dsimp only
  rw [hC.1, b1, b2, i_min (by omega) (by omega), k1, z_b_some]
  refine St.of (ok_m (ok_ret (ok_m ?_)))
  have e9 : z_put τ 0 28 0 0 9 = nI (hn h) := by rw [z_put_same, pk_un (by decide)]; exact hM.1
  rw [e9, e_least (by omega) (by omega), z_b_some]
  exact ⟨r, _, k2, rfl, hfin⟩
end S2
