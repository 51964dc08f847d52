/-! What holds between the class's numbers σ and the reference's τ, call by call. -/
def z_N : Nat := 5000
def IH (σ τ : zS) (h : hS) : Prop := RC σ 0 h ∧ RM τ h ∧ V0 h ∧ V1 h ∧ hm h ≤ 9999
def IK (σ τ : zS) : Prop := (σ 37 4 = 0 ∧ τ 0 22 = 0) ∨ (σ 37 4 = 1 ∧ τ 0 22 = 1 ∧ ∃ k, RC σ 2 k ∧ RK 0 τ k ∧ V0 k ∧ V1 k ∧ hm k ≤ 9999)
def IL (σ τ : zS) : Prop := ∃ n, n ≤ 80 ∧ σ 38 1 = nI n ∧ τ 0 18 = nI n ∧ ∀ k, k < n → ∃ c, c < 256 ∧ σ 39 k = nI c ∧ τ 10 k = nI c
def IR (σ τ : zS) : Prop := ∃ n, n ≤ 6 ∧ σ 37 8 = nI n ∧ τ 0 28 = nI n ∧ ∀ k, k < n → ∃ c, c < 1000 ∧ σ 46 k = nI c ∧ τ 15 k = nI c
def IF (σ τ : zS) : Prop := ∀ k, k < 7 → σ 47 k = τ 9 k
def IQ (σ τ : zS) : Prop := IK σ τ ∧ IL σ τ ∧ IR σ τ ∧ IF σ τ
def zInv (σ τ : zS) : Prop := (∃ h, IH σ τ h) ∧ IQ σ τ
def sC (σ σ' : zS) : Prop := σ' 37 = σ 37 ∧ σ' 38 = σ 38 ∧ σ' 39 = σ 39 ∧ σ' 46 = σ 46 ∧ σ' 47 = σ 47 ∧ ∀ a, hr 2 a → σ' a = σ a
def sM (τ τ' : zS) : Prop := τ' 9 = τ 9 ∧ τ' 10 = τ 10 ∧ τ' 15 = τ 15 ∧ (∀ k, k < 70 → τ' 14 k = τ 14 k) ∧ τ' 0 18 = τ 0 18 ∧ τ' 0 22 = τ 0 22 ∧ τ' 0 28 = τ 0 28
theorem sC.rf {σ : zS} : sC σ σ := ⟨rfl, rfl, rfl, rfl, rfl, fun _ _ => rfl⟩
theorem sM.rf {τ : zS} : sM τ τ := ⟨rfl, rfl, rfl, fun _ _ => rfl, rfl, rfl, rfl⟩
theorem sC.tr {a b c : zS} (h1 : sC a b) (h2 : sC b c) : sC a c := ⟨h2.1.trans h1.1, h2.2.1.trans h1.2.1, h2.2.2.1.trans h1.2.2.1, h2.2.2.2.1.trans h1.2.2.2.1, h2.2.2.2.2.1.trans h1.2.2.2.2.1, fun q hq => (h2.2.2.2.2.2 q hq).trans (h1.2.2.2.2.2 q hq)⟩
theorem sM.tr {a b c : zS} (h1 : sM a b) (h2 : sM b c) : sM a c := ⟨h2.1.trans h1.1, h2.2.1.trans h1.2.1, h2.2.2.1.trans h1.2.2.1, fun k hk => (h2.2.2.2.1 k hk).trans (h1.2.2.2.1 k hk), h2.2.2.2.2.1.trans h1.2.2.2.2.1, h2.2.2.2.2.2.1.trans h1.2.2.2.2.2.1, h2.2.2.2.2.2.2.trans h1.2.2.2.2.2.2⟩
theorem fC.s {j : Nat} {σ σ' : zS} (h : fC j σ σ') (hj : j < 2) : sC σ σ' := by
  have e : ∀ a, (36 ≤ a ∨ hr 2 a) → σ' a = σ a := fun a ha => h a (by unfold hr at *; omega)
  exact ⟨e 37 (by omega), e 38 (by omega), e 39 (by omega), e 46 (by omega), e 47 (by omega), fun a ha => e a (Or.inr ha)⟩
theorem fM.s {τ τ' : zS} (h : fM τ τ') : sM τ τ' := ⟨h.1 9 (by decide), h.1 10 (by decide), h.1 15 (by decide), fun k _ => by rw [h.1 14 (by decide)], h.2 18 (by decide), h.2 22 (by decide), h.2 28 (by decide)⟩
theorem kM.s {τ τ' : zS} (h : kM 1 τ τ') : sM τ τ' := ⟨h.1 9 (by decide) (by decide), h.1 10 (by decide) (by decide), h.1 15 (by decide) (by decide), fun k hk => h.2.2 k (by omega), h.2.1 18 (by decide) (by decide), h.2.1 22 (by decide) (by decide), h.2.1 28 (by decide) (by decide)⟩
theorem bM.s {τ τ' : zS} (h : bM τ τ') : sM τ τ' := ⟨h.1 9 (by decide), h.1 10 (by decide), h.1 15 (by decide), fun k _ => by rw [h.1 14 (by decide)], h.2 18 (by decide) (by decide) (by decide), h.2 22 (by decide) (by decide) (by decide), h.2 28 (by decide) (by decide) (by decide)⟩
theorem RK.keep {τ τ' : zS} {k : hS} (h : RK 0 τ k) (h6 : hn k ≤ 6) (e : ∀ q, q < 70 → τ' 14 q = τ 14 q) : RK 0 τ' k := by
  obtain ⟨r1, r2, r3, r4, r5, r6, r7, r8⟩ := h
  have hs : ∀ k, k < 6 → stt (k + 1) ≤ 30 := by decide
  refine ⟨fun i hi q hq => ?_, fun q hq => ?_, fun q hq => ?_, (e _ (by omega)).trans r4, (e _ (by omega)).trans r5, (e _ (by omega)).trans r6, (e _ (by omega)).trans r7, (e _ (by omega)).trans r8⟩
  · have := hs q hq
    exact (e _ (by omega)).trans (r1 i hi q hq)
  · exact (e _ (by omega)).trans (r2 q hq)
  · exact (e _ (by omega)).trans (r3 q hq)
theorem IQ.keep {σ σ' τ τ' : zS} (h : IQ σ τ) (hs : sC σ σ') (ht : sM τ τ') : IQ σ' τ' := by
  obtain ⟨hK, hL, hR, hF⟩ := h
  obtain ⟨s1, s2, s3, s4, s5, s6⟩ := hs
  obtain ⟨t1, t2, t3, t4, t5, t6, t7⟩ := ht
  refine ⟨?_, ?_, ?_, ?_⟩
  · rcases hK with ⟨a, b⟩ | ⟨a, b, k, r1, r2, v0, v1, v2⟩
    · exact Or.inl ⟨by rw [s1]; exact a, by rw [t6]; exact b⟩
    · exact Or.inr ⟨by rw [s1]; exact a, by rw [t6]; exact b, k, r1.frame v0.1 s6, r2.keep v0.1 t4, v0, v1, v2⟩
  · obtain ⟨n, a, b, c, d⟩ := hL
    exact ⟨n, a, by rw [s2]; exact b, by rw [t5]; exact c, fun k hk => by rw [s3, t2]; exact d k hk⟩
  · obtain ⟨n, a, b, c, d⟩ := hR
    exact ⟨n, a, by rw [s1]; exact b, by rw [t7]; exact c, fun k hk => by rw [s4, t3]; exact d k hk⟩
  · intro k hk
    rw [s5, t1]
    exact hF k hk
/-- one call: both answer the same, and what held holds -/
def St (o1 o2 : zA) : Prop := ∃ (r : Int32) (σ1 τ1 : zS), o1 = some (r, σ1) ∧ o2 = some (r, τ1) ∧ zInv σ1 τ1
theorem St.of {o1 o2 : zA} (h : ok o1 (fun r σ1 => ok o2 (fun q τ1 => q = r ∧ zInv σ1 τ1))) : St o1 o2 := by
  obtain ⟨r, σ1, e1, q, τ1, e2, rfl, h3⟩ := h
  exact ⟨q, σ1, τ1, e1, e2, h3⟩
theorem St.of2 {o1 o2 : zA} {P Q : Int32 → zS → Prop} (h1 : ok o1 P) (h2 : ok o2 Q) (h : ∀ r σ1 q τ1, P r σ1 → Q q τ1 → q = r ∧ zInv σ1 τ1) : St o1 o2 := by
  obtain ⟨r, σ1, e1, p1⟩ := h1
  obtain ⟨q, τ1, e2, p2⟩ := h2
  obtain ⟨rfl, h3⟩ := h r σ1 q τ1 p1 p2
  exact ⟨q, σ1, τ1, e1, e2, h3⟩
theorem St.ret {r : Int32} {σ τ : zS} (h : zInv σ τ) : St (some (r, σ)) (some (r, τ)) := ⟨r, σ, τ, rfl, rfl, h⟩
theorem St.e1 {o1 o2 o : zA} (e : o1 = o) (h : St o o2) : St o1 o2 := e ▸ h
theorem St.e2 {o1 o2 o : zA} (e : o2 = o) (h : St o1 o) : St o1 o2 := e ▸ h
theorem z_b_id (o : zA) : z_b o (fun r t => some (r, t)) = o := by
  unfold z_b
  split
  · rfl
  · rfl
theorem zInv.mk {σ τ : zS} {h : hS} (hh : IH σ τ h) (hq : IQ σ τ) : zInv σ τ := ⟨⟨h, hh⟩, hq⟩
theorem zInv_0 : zInv (fun _ _ => 0) (fun _ _ => 0) := by
  refine ⟨⟨(0, fun _ _ => 0, fun _ => 0, fun _ => 0, 0, 0, 0, 0), ⟨rfl, rfl, rfl, rfl, rfl, fun i hi => absurd hi (Nat.not_lt_zero _), fun _ _ => rfl, fun _ _ => rfl⟩, ⟨rfl, rfl, rfl, rfl, rfl, fun i hi => absurd hi (Nat.not_lt_zero _), fun _ _ => rfl, fun _ _ => rfl⟩, ⟨by decide, fun i hi => absurd hi (Nat.not_lt_zero _), fun _ _ => Nat.zero_lt_succ 9, fun _ _ => Nat.zero_lt_succ 999, fun _ _ => rfl⟩, fun i hi => absurd hi (Nat.not_lt_zero _), by decide⟩, Or.inl ⟨rfl, rfl⟩, ⟨0, by decide, rfl, rfl, fun k hk => absurd hk (Nat.not_lt_zero _)⟩, ⟨0, by decide, rfl, rfl, fun k hk => absurd hk (Nat.not_lt_zero _)⟩, fun _ _ => rfl⟩
section ST
variable {σ τ : zS} {h : hS} {N : Nat}
/-- a refusal -/
theorem e_refuse {v : Int32} {q : Nat} (hv : -v = nI q) (h0 : 0 < q) (h7 : q < 7) : f_X10_refuse N v σ = some (v, z_put σ 47 q (σ 47 q + 1)) := by
  unfold f_X10_refuse z_n z_m
  dsimp only
  rw [hv, li0, t_le (by omega) (by omega), if_neg (by omega), li7, t_le (by omega) (by omega), if_neg (by omega), z_in_n h7 (by decide), z_g_t, z_g_t, nI_clamp (by omega)]
theorem e_no {v : Int32} {q : Nat} (hv : -v = nI q) (h7 : q < 7) : f_X11_no N v τ = some (v, z_put τ 9 q (τ 9 q + 1)) := by
  unfold f_X11_no z_m
  rw [hv, z_in_n h7 (by decide), z_g_t, z_g_t, nI_clamp (by omega)]
theorem e_lower {v : Int32} {q : Nat} (hv : -v = nI q) (h7 : q < 7) : f_X11_lower N v τ = some (1000000000 - v, z_put τ 9 q (τ 9 q + 1)) := by
  unfold f_X11_lower z_m
  rw [hv, z_in_n h7 (by decide), z_g_t, z_g_t, nI_clamp (by omega)]
theorem ref_inv (hI : zInv σ τ) (q : Nat) : zInv (z_put σ 47 q (σ 47 q + 1)) (z_put τ 9 q (τ 9 q + 1)) := by
  obtain ⟨⟨h, hC, hM, v0, v1, v2⟩, hK, hL, hR, hF⟩ := hI
  have e1 : ∀ a, a ≠ 47 → z_put σ 47 q (σ 47 q + 1) a = σ a := fun a ha => z_put_ne _ _ _ ha
  have e2 : ∀ a, a ≠ 9 → z_put τ 9 q (τ 9 q + 1) a = τ a := fun a ha => z_put_ne _ _ _ ha
  refine ⟨⟨h, hC.frame v0.1 (fun a ha => e1 a (by unfold hr at ha; omega)), ?_, v0, v1, v2⟩, ?_, ?_, ?_, ?_⟩
  · obtain ⟨a1, a2, a3, a4, a5, a6, a7, a8⟩ := hM
    refine ⟨?_, ?_, ?_, ?_, ?_, fun i hi k hk => ?_, fun k hk => ?_, fun k hk => ?_⟩
    · rw [e2 0 (by decide)]; exact a1
    · rw [e2 0 (by decide)]; exact a2
    · rw [e2 0 (by decide)]; exact a3
    · rw [e2 0 (by decide)]; exact a4
    · rw [e2 0 (by decide)]; exact a5
    · rw [e2 (k + 1) (by omega)]; exact a6 i hi k hk
    · rw [e2 7 (by decide)]; exact a7 k hk
    · rw [e2 8 (by decide)]; exact a8 k hk
  · rcases hK with ⟨a, b⟩ | ⟨a, b, k, r1, r2, w0, w1, w2⟩
    · exact Or.inl ⟨by rw [e1 37 (by decide)]; exact a, by rw [e2 0 (by decide)]; exact b⟩
    · exact Or.inr ⟨by rw [e1 37 (by decide)]; exact a, by rw [e2 0 (by decide)]; exact b, k, r1.frame w0.1 (fun a ha => e1 a (by unfold hr at ha; omega)), r2.keep w0.1 (fun _ _ => by rw [e2 14 (by decide)]), w0, w1, w2⟩
  · obtain ⟨n, a, b, c, d⟩ := hL
    exact ⟨n, a, by rw [e1 38 (by decide)]; exact b, by rw [e2 0 (by decide)]; exact c, fun k hk => by rw [e1 39 (by decide), e2 10 (by decide)]; exact d k hk⟩
  · obtain ⟨n, a, b, c, d⟩ := hR
    exact ⟨n, a, by rw [e1 37 (by decide)]; exact b, by rw [e2 0 (by decide)]; exact c, fun k hk => by rw [e1 46 (by decide), e2 15 (by decide)]; exact d k hk⟩
  · intro k hk
    rw [z_put_same, z_put_same]
    have h1 := hF k hk
    by_cases e : k = q
    · subst e; rw [pk_us, pk_us, h1]
    · rw [pk_un e, pk_un e]; exact h1
theorem St_ref (hI : zInv σ τ) {v : Int32} (q : Nat) (hv : -v = nI q) (h0 : 0 < q) (h7 : q < 7) : St (f_X10_refuse N v σ) (f_X11_no N v τ) := by
  rw [e_refuse hv h0 h7, e_no hv h7]
  exact St.ret (ref_inv hI q)
theorem St_r1 (hI : zInv σ τ) : St (f_X10_refuse N (-1) σ) (f_X11_no N (-1) τ) := St_ref hI 1 (by decide) (by decide) (by decide)
theorem St_r2 (hI : zInv σ τ) : St (f_X10_refuse N (-2) σ) (f_X11_no N (-2) τ) := St_ref hI 2 (by decide) (by decide) (by decide)
theorem St_r3 (hI : zInv σ τ) : St (f_X10_refuse N (-3) σ) (f_X11_no N (-3) τ) := St_ref hI 3 (by decide) (by decide) (by decide)
theorem St_r4 (hI : zInv σ τ) : St (f_X10_refuse N (-4) σ) (f_X11_no N (-4) τ) := St_ref hI 4 (by decide) (by decide) (by decide)
theorem St_r6 (hI : zInv σ τ) : St (f_X10_refuse N (-6) σ) (f_X11_no N (-6) τ) := St_ref hI 6 (by decide) (by decide) (by decide)
-- arguments
theorem ca_yes (hR : RC σ 0 h) (h6 : hn h ≤ 6) {i : Nat} (hi : i < hn h) : f_X10_isCandle N (nI i) σ = some (1, σ) := by
  unfold f_X10_isCandle
  rw [hR.1, li0, t_lt (by omega) (by omega), if_neg (by omega), t_le (by omega) (by omega), if_neg (by omega)]
theorem ca_no (hR : RC σ 0 h) {v : Int32} (hv : v < 0 ∨ nI (hn h) ≤ v) : f_X10_isCandle N v σ = some (0, σ) := by
  unfold f_X10_isCandle
  by_cases h0 : v < 0
  · rw [if_pos h0]
  · rw [if_neg h0, hR.1, if_pos (hv.resolve_left h0)]
theorem cm_yes (hR : RM τ h) (h6 : hn h ≤ 6) {i : Nat} (hi : i < hn h) : f_X11_isCandle N (nI i) τ = some (1, τ) := by
  unfold f_X11_isCandle
  rw [hR.1, li0, t_lt (by omega) (by omega), if_neg (by omega), t_le (by omega) (by omega), if_neg (by omega)]
theorem cm_no (hR : RM τ h) {v : Int32} (hv : v < 0 ∨ nI (hn h) ≤ v) : f_X11_isCandle N v τ = some (0, τ) := by
  unfold f_X11_isCandle
  by_cases h0 : v < 0
  · rw [if_pos h0]
  · rw [if_neg h0, hR.1, if_pos (hv.resolve_left h0)]
theorem v_cases (v : Int32) {n : Nat} (hn : n < 2 ^ 31) : (v < 0 ∨ nI n ≤ v) ∨ ∃ i, i < n ∧ v = nI i := by
  rcases pk_ix v hn with a | a | a
  · exact Or.inl (Or.inl a)
  · exact Or.inl (Or.inr a)
  · exact Or.inr a
theorem pe_yes {a : Nat} (ha : a < 4) : f_X10_isPerson N (nI a) σ = some (1, σ) := by
  unfold f_X10_isPerson
  rw [li0, t_lt (by omega) (by omega), if_neg (by omega), li4, t_le (by omega) (by omega), if_neg (by omega)]
theorem pe_no {v : Int32} (hv : v < 0 ∨ nI 4 ≤ v) : f_X10_isPerson N v σ = some (0, σ) := by
  unfold f_X10_isPerson
  by_cases h0 : v < 0
  · rw [if_pos h0]
  · rw [if_neg h0, li4, if_pos (hv.resolve_left h0)]
theorem pm_yes {a : Nat} (ha : a < 4) : f_X11_isOne N (nI a) τ = some (1, τ) := by
  unfold f_X11_isOne
  rw [li0, t_lt (by omega) (by omega), if_neg (by omega), li4, t_le (by omega) (by omega), if_neg (by omega)]
theorem pm_no {v : Int32} (hv : v < 0 ∨ nI 4 ≤ v) : f_X11_isOne N v τ = some (0, τ) := by
  unfold f_X11_isOne
  by_cases h0 : v < 0
  · rw [if_pos h0]
  · rw [if_neg h0, li4, if_pos (hv.resolve_left h0)]
theorem tw_cases (v w : Int32) : (∃ a b, a < 4 ∧ b < 4 ∧ a ≠ b ∧ v = nI a ∧ w = nI b) ∨ ∀ (N : Nat) (σ τ : zS), f_X10_areTwo N v w σ = some (0, σ) ∧ f_X11_areTwo N v w τ = some (0, τ) := by
  rcases v_cases v (n := 4) (by decide) with hv | ⟨a, ha, rfl⟩
  · refine Or.inr (fun N σ τ => ⟨?_, ?_⟩)
    · unfold f_X10_areTwo; rw [pe_no hv, z_b_some, if_pos rfl]
    · unfold f_X11_areTwo; rw [pm_no hv, z_b_some, if_pos rfl]
  · rcases v_cases w (n := 4) (by decide) with hw | ⟨b, hb, rfl⟩
    · refine Or.inr (fun N σ τ => ⟨?_, ?_⟩)
      · unfold f_X10_areTwo; rw [pe_yes ha, z_b_some, if_neg (by decide), pe_no hw, z_b_some, if_pos rfl]
      · unfold f_X11_areTwo; rw [pm_yes ha, z_b_some, if_neg (by decide), pm_no hw, z_b_some, if_pos rfl]
    · by_cases e : a = b
      · subst e
        refine Or.inr (fun N σ τ => ⟨?_, ?_⟩)
        · unfold f_X10_areTwo; rw [pe_yes ha, z_b_some, if_neg (by decide), pe_yes ha, z_b_some, if_neg (by decide), if_pos rfl]
        · unfold f_X11_areTwo; rw [pm_yes ha, z_b_some, if_neg (by decide), pm_yes ha, z_b_some, if_neg (by decide), if_pos rfl]
      · exact Or.inl ⟨a, b, ha, hb, e, rfl, rfl⟩
theorem tw_yes {a b : Nat} (ha : a < 4) (hb : b < 4) (e : a ≠ b) : f_X10_areTwo N (nI a) (nI b) σ = some (1, σ) := by
  unfold f_X10_areTwo
  rw [pe_yes ha, z_b_some, if_neg (by decide), pe_yes hb, z_b_some, if_neg (by decide), t_eq (by omega) (by omega), if_neg e]
theorem tm_yes {a b : Nat} (ha : a < 4) (hb : b < 4) (e : a ≠ b) : f_X11_areTwo N (nI a) (nI b) τ = some (1, τ) := by
  unfold f_X11_areTwo
  rw [pm_yes ha, z_b_some, if_neg (by decide), pm_yes hb, z_b_some, if_neg (by decide), t_eq (by omega) (by omega), if_neg e]
/-- a number from lo to hi, or its refusal -/
theorem ou_cases (v : Int32) (l H : Int32) {lo hi : Nat} (el : l = nI lo) (eh : H = nI hi) (hh : hi < 2 ^ 31) (hl : lo ≤ hi) : (∃ a, lo ≤ a ∧ a ≤ hi ∧ v = nI a ∧ ∀ (N : Nat) (σ τ : zS), f_X10_outside N v l H σ = some (0, σ) ∧ f_X11_bound N v l H τ = some (0, τ)) ∨ (¬ l ≤ v ∧ ∀ (N : Nat) (σ τ : zS), f_X10_outside N v l H σ = some (-4, σ) ∧ f_X11_bound N v l H τ = some (-4, τ)) ∨ (l ≤ v ∧ H < v ∧ ∀ (N : Nat) (σ τ : zS), f_X10_outside N v l H σ = some (-6, σ) ∧ f_X11_bound N v l H τ = some (-6, τ)) := by
  by_cases h1 : l ≤ v
  · by_cases h2 : v ≤ H
    · have hnn : ¬ v < 0 := fun q => by
        rw [el] at h1
        have := Int32.lt_of_lt_of_le q (nI_pos' (n := lo) (by omega))
        exact Int32.not_lt.mpr h1 this
      obtain ⟨a, ha, rfl⟩ := nI_of hnn
      refine Or.inl ⟨a, (nI_leI (by omega) ha).mp (el ▸ h1), (nI_leI ha hh).mp (eh ▸ h2), rfl, fun N σ τ => ⟨?_, ?_⟩⟩
      · unfold f_X10_outside; rw [if_pos h1, if_pos h2]
      · unfold f_X11_bound; rw [if_pos h1, if_pos h2]
    · refine Or.inr (Or.inr ⟨h1, Int32.not_le.mp h2, fun N σ τ => ⟨?_, ?_⟩⟩)
      · unfold f_X10_outside; rw [if_pos h1, if_neg h2]
      · unfold f_X11_bound; rw [if_pos h1, if_neg h2]
  · refine Or.inr (Or.inl ⟨h1, fun N σ τ => ⟨?_, ?_⟩⟩)
    · unfold f_X10_outside; rw [if_neg h1]
    · unfold f_X11_bound; rw [if_neg h1]
end ST
