/-! The night's letters: the form, both sides. -/
section T2
variable {σ τ : zS} {N : Nat} {l : Nat → Nat} {n : Nat}
theorem flt : ∀ b, b < 200 → ¬ (0 : Int32) ≤ -1000 - nI b ∧ ¬ (-1000 - nI b : Int32) = 0 := by decide +kernel
theorem e_form_ok (hN : 100 ≤ N) (hL : LC l n σ) {Q : Nat} (h0 : 0 < Q) (h20 : Q ≤ 20) (ho : ∀ j, j < Q → okS l n (plc l n j) = true) (hq : plc l n Q = n) : f_X5_formFault N σ = some (0, σ) := by
  have h80 := hL.1
  unfold f_X5_formFault
  have key : ∀ m q, q < Q → Q - q < m → lf_X5_formFault_4 N m (nI (plc l n q)) (nI q) σ = some (0, σ) := by
    intro m
    induction m with
    | zero => intro q _ h; omega
    | succ m ih =>
      intro q hq' hm
      show bf_X5_formFault_4 N _ _ _ σ = _
      unfold bf_X5_formFault_4
      have h1 := okS_n (ho q hq')
      have hb : bhI l n (plc l n q) = nI (plc l n (q + 1)) := by unfold bhI; rw [ho q hq']; rfl
      have h2 : plc l n (q + 1) ≤ n := h1.2.2.2
      rw [show (80 : Int32) = nI 80 from rfl, t_le (by omega) (by omega), if_neg (by omega), e_behind (by omega) hL (by omega), z_b_some, hb, if_pos (nI_pos' (by omega)), hL.2.1, t_lt (by omega) (by omega), li1, nI_add]
      by_cases e : q + 1 = Q
      · rw [e, if_neg (by omega)]
      · have h3 := okS_n (ho (q + 1) (by omega))
        rw [if_pos h3.1]
        exact ih (q + 1) (by omega) (by omega)
  exact key N 0 h0 (by omega)
theorem e_form_bad (hN : 100 ≤ N) (hL : LC l n σ) {Q : Nat} (h20 : Q ≤ 20) (ho : ∀ j, j < Q → okS l n (plc l n j) = true) (hb : okS l n (plc l n Q) = false) (hQ : 0 < Q → plc l n Q < n) : f_X5_formFault N σ = some (-1000 - nI (bh l n (plc l n Q)), σ) := by
  have h80 := hL.1
  have hpl := plc_4 Q ho
  have hbl := bh_le l n (plc l n Q)
  unfold f_X5_formFault
  have key : ∀ m q, q ≤ Q → Q - q < m → lf_X5_formFault_4 N m (nI (plc l n q)) (nI q) σ = some (-1000 - nI (bh l n (plc l n Q)), σ) := by
    intro m
    induction m with
    | zero => intro q _ h; omega
    | succ m ih =>
      intro q hq' hm
      show bf_X5_formFault_4 N _ _ _ σ = _
      unfold bf_X5_formFault_4
      have hpq := plc_4 q (fun j hj => ho j (by omega))
      rw [show (80 : Int32) = nI 80 from rfl, t_le (by omega) (by omega), if_neg (by omega), e_behind (by omega) hL (by omega), z_b_some]
      by_cases e : q = Q
      · subst e
        have hbI : bhI l n (plc l n q) = -1000 - nI (bh l n (plc l n q)) := by unfold bhI; rw [hb]; rfl
        rw [hbI, if_neg (flt _ (by omega)).1]
      · have h1 := okS_n (ho q (by omega))
        have hbI : bhI l n (plc l n q) = nI (plc l n (q + 1)) := by unfold bhI; rw [ho q (by omega)]; rfl
        have h2 : plc l n (q + 1) ≤ n := h1.2.2.2
        rw [hbI, if_pos (nI_pos' (by omega)), hL.2.1, t_lt (by omega) (by omega), li1, nI_add]
        have h3 : plc l n (q + 1) < n := by
          by_cases e2 : q + 1 = Q
          · rw [e2]; exact hQ (by omega)
          · exact (okS_n (ho (q + 1) (by omega))).1
        rw [if_pos h3]
        exact ih (q + 1) (by omega) (by omega)
  exact key N 0 (by omega) (by omega)
-- the reference
def LM (l : Nat → Nat) (n : Nat) (τ : zS) : Prop := n ≤ 80 ∧ τ 0 18 = nI n ∧ ∀ k, k < n → l k < 256 ∧ τ 10 k = nI (l k)
theorem LM.fr {t : zS} (h : LM l n τ) (h1 : t 0 18 = τ 0 18) (h2 : t 10 = τ 10) : LM l n t := ⟨h.1, h1.trans h.2.1, fun k hk => ⟨(h.2.2 k hk).1, by rw [h2]; exact (h.2.2 k hk).2⟩⟩
theorem e_Mnext (hL : LM l n τ) {p : Nat} (hp : p < 1000) (h19 : τ 0 19 = nI p) : f_X11_next N τ = some (SG l n p, τ) := by
  obtain ⟨h1, h2, h3⟩ := hL
  unfold f_X11_next SG
  rw [h19, h2, t_le (by omega) (by omega)]
  by_cases e : p < n
  · rw [if_neg (by omega), if_pos e, z_in_n (show p < 80 by omega) (by decide), z_g_t, nI_clamp (by omega), (h3 p e).2]
  · rw [if_pos (by omega), if_neg e]
theorem e_Mdig (hl : ∀ k, k < n → l k < 256) (p : Nat) : f_X11_isIn N (SG l n p) 48 57 τ = some (nI (bN (dgt l n p)), τ) := by
  have hi := SG_i (l := l) (n := n) (p := p) hl
  unfold f_X11_isIn
  by_cases h1 : SG l n p < 48
  · rw [if_pos h1, hi.mp (Or.inl h1)]; rfl
  · rw [if_neg h1]
    by_cases h2 : 57 < SG l n p
    · rw [if_pos h2, hi.mp (Or.inr h2)]; rfl
    · rw [if_neg h2]
      cases hd : dgt l n p with
      | false => exact absurd (hi.mpr hd) (fun q => q.elim h1 h2)
      | true => rfl
/-- what reading a number changes -/
def fR (idx : Nat) (τ t : zS) : Prop := (∀ k, k ≠ idx → t 13 k = τ 13 k) ∧ (∀ a, a ≠ 0 → a ≠ 13 → t a = τ a) ∧ ∀ k, k ≠ 19 → t 0 k = τ 0 k
theorem e_reads1 (hN : 10 ≤ N) (hL : LM l n τ) {idx m p : Nat} (hp : p < 500) (hi : idx < 160) (hm3 : m ≤ 3) (h19 : τ 0 19 = nI p) : ok (f_X11_readsNumber N (nI idx) (nI m) τ) (fun r t => (dgt l n p = false ∧ r = 0 ∧ t = τ) ∨ (dgt l n p = true ∧ r = 1 ∧ t 0 19 = nI (p + dcn l n m p) ∧ t 13 idx = nI (nmb l n m p 0) ∧ fR idx τ t)) := by
  have hl : ∀ k, k < n → l k < 256 := fun k hk => (hL.2.2 k hk).1
  unfold f_X11_readsNumber
  rw [e_Mnext hL (by omega) h19, z_b_some, e_Mdig hl, z_b_some]
  cases hd : dgt l n p with
  | false => exact ok_t rfl (ok_ret (Or.inl ⟨rfl, rfl, rfl⟩))
  | true =>
    refine ok_f (by decide) ?_
    have key : ∀ f j acc s, j ≤ m → m - j < f → s 0 19 = nI (p + j) → fR idx τ s → ok (lf_X11_readsNumber_21 N f (nI idx) (nI m) (nI acc) (nI j) s) (fun r t => r = 1 ∧ t 0 19 = nI (p + j + dcn l n (m - j) (p + j)) ∧ t 13 idx = nI (nmb l n (m - j) (p + j) acc) ∧ fR idx τ t) := by
      intro f
      induction f with
      | zero => intro j acc s _ h; omega
      | succ f ih =>
        intro j acc s hj hf hs hF
        have hLs : LM l n s := hL.fr (hF.2.2 18 (by decide)) (hF.2.1 10 (by decide) (by decide))
        have stop : ∀ (c v : Nat), c = 0 → v = acc → ok (bf_X11_readsNumber_70 N (nI idx) (nI acc) s) (fun r t => r = 1 ∧ t 0 19 = nI (p + j + c) ∧ t 13 idx = nI v ∧ fR idx τ t) := by
          intro c v hc hv
          unfold bf_X11_readsNumber_70
          refine ok_g (z_in_n hi (by decide)) (ok_m (ok_ret ⟨rfl, ?_, ?_, fun k hk => ?_, fun a h1 h2 => ?_, fun k hk => ?_⟩))
          · rw [z_put_ne _ _ _ (by decide), hs, hc, Nat.add_zero]
          · rw [nI_clamp (by omega), z_put_same, pk_us, hv]
          · rw [nI_clamp (by omega), z_put_same, pk_un hk]; exact hF.1 k hk
          · rw [z_put_ne _ _ _ h2]; exact hF.2.1 a h1 h2
          · rw [z_put_ne _ _ _ (by decide)]; exact hF.2.2 k hk
        show ok (bf_X11_readsNumber_21 N _ _ _ _ _ s) _
        unfold bf_X11_readsNumber_21
        rw [t_le (by omega) (by omega), e_Mnext hLs (by omega) hs, z_b_some, e_Mdig hl, z_b_some]
        by_cases e : j = m
        · subst e
          rw [Nat.sub_self]
          exact ok_t (Nat.le_refl _) (stop _ _ rfl rfl)
        · refine ok_f (by omega) ?_
          rw [show m - j = (m - (j + 1)) + 1 by omega]
          cases hdj : dgt l n (p + j) with
          | false =>
            refine ok_t rfl (stop _ _ ?_ ?_)
            · exact dcn_off hdj _
            · show (if dgt l n (p + j) = true then _ else acc) = acc
              rw [hdj]; rfl
          | true =>
            obtain ⟨d1, d2, d3⟩ := dgt_t hdj
            refine ok_f (by decide) ?_
            rw [e_Mnext hLs (by omega) hs, z_b_some]
            refine ok_n (ok_m ?_)
            have e1 : (10 : Int32) * nI acc + SG l n (p + j) - 48 = nI (10 * acc + (l (p + j) - 48)) := by
              unfold SG
              rw [if_pos d1, show (10 : Int32) = nI 10 from rfl, pk_mul, nI_add, show (48 : Int32) = nI 48 from rfl, pk_sub (by omega)]
              congr 1
              omega
            rw [e1, hs, li1, nI_add, nI_add]
            refine ok_mono (ih (j + 1) _ _ (by omega) (by omega) (by rw [z_put_same, pk_us]; rfl) ⟨fun k hk => ?_, fun a h1 h2 => ?_, fun k hk => ?_⟩) (fun r t ht => ⟨ht.1, ?_, ?_, ht.2.2.2⟩)
            · rw [z_put_ne _ _ _ (by decide)]; exact hF.1 k hk
            · rw [z_put_ne _ _ _ h1]; exact hF.2.1 a h1 h2
            · rw [z_put_same, pk_un hk]; exact hF.2.2 k hk
            · rw [ht.2.1]
              show _ = nI (p + j + (if dgt l n (p + j) = true then dcn l n (m - (j + 1)) (p + j + 1) + 1 else 0))
              rw [hdj, if_pos rfl]
              congr 1
              show p + (j + 1) + dcn l n (m - (j + 1)) (p + j + 1) = _
              omega
            · rw [ht.2.2.1]
              show _ = nI (if dgt l n (p + j) = true then nmb l n (m - (j + 1)) (p + j + 1) (10 * acc + (l (p + j) - 48)) else acc)
              rw [hdj]; rfl
    exact ok_mono (key N 0 0 τ (Nat.zero_le _) (by omega) h19 ⟨fun _ _ => rfl, fun _ _ _ => rfl, fun _ _ => rfl⟩) (fun r t ht => Or.inr ⟨rfl, ht.1, ht.2.1, ht.2.2.1, ht.2.2.2⟩)
def cnt (s : Nat) : Nat := if s = 99 then 3 else 2
def RS (l : Nat → Nat) (n : Nat) (t : zS) (q p : Nat) : Prop := t 11 q = nI (l p) ∧ t 12 q = nI p ∧ (∀ j, j < cnt (l p) → t 13 (4 * q + j) = nI (l (p + 1 + j) - 48)) ∧ ((l p = 99 ∨ l p = 100) → t 13 (4 * q + cnt (l p)) = nI (nmb l n 3 (p + 1 + cnt (l p)) 0))
def FS (q : Nat) (τ t : zS) : Prop := (∀ a, a ≠ 0 → a ≠ 11 → a ≠ 12 → a ≠ 13 → t a = τ a) ∧ (∀ k, k ≠ 19 → t 0 k = τ 0 k) ∧ (∀ k, k ≠ q → t 11 k = τ 11 k ∧ t 12 k = τ 12 k) ∧ ∀ k, k < 4 * q → t 13 k = τ 13 k
def SP (l : Nat → Nat) (n q p : Nat) (τ : zS) (r : Int32) (t : zS) : Prop := t 0 19 = nI (bh l n p) ∧ FS q τ t ∧ ((okS l n p = true ∧ r = 1 ∧ RS l n t q p) ∨ (okS l n p = false ∧ r = 0))
theorem e_statement (hN : 10 ≤ N) (hL : LM l n τ) {q p : Nat} (hp : p < 400) (hq : q < 40) (h19 : τ 0 19 = nI p) (h20 : τ 0 20 = nI q) : ok (f_X11_statement N τ) (SP l n q p τ) := by
  have hl : ∀ k, k < n → l k < 256 := fun k hk => (hL.2.2 k hk).1
  have hst := stc_le l n p
  unfold f_X11_statement
  rw [e_Mnext hL (by omega) h19, z_b_some]
  have main : 0 < ldg (sg l n p) → p < n → sg l n p = l p → ok (bf_X11_statement_31 N (SG l n p) τ) (SP l n q p τ) := by
    intro h0 hpn hsg
    have hlp := hl p hpn
    have eSG : SG l n p = nI (l p) := if_pos hpn
    rw [eSG]
    have hc4 : l p = 99 ∨ l p = 100 ∨ l p = 112 ∨ l p = 114 := by have := ldg_c h0; rw [hsg] at this; exact this
    have hc3 : cnt (l p) ≤ 3 := by unfold cnt; split <;> omega
    have hld : ldg (l p) = if l p = 99 ∨ l p = 100 then cnt (l p) + 1 else cnt (l p) := by rcases hc4 with e | e | e | e <;> rw [e] <;> decide
    have hmd : mdg (l p) = if l p = 99 ∨ l p = 100 then cnt (l p) + 3 else cnt (l p) := by rcases hc4 with e | e | e | e <;> rw [e] <;> decide
    have est : stc l n p = dcn l n (mdg (l p)) (p + 1) := by unfold stc; rw [hsg]
    rw [hsg] at h0
    have fin : ∀ s, s 0 19 = nI (p + 1 + stc l n p) → ldg (l p) ≤ stc l n p → FS q τ s → RS l n s q p → ok (bf_X11_statement_137 N s) (SP l n q p τ) := by
      intro s h1 h2 h3 h4
      unfold bf_X11_statement_137
      have hLs : LM l n s := hL.fr (h3.2.1 18 (by decide)) (h3.1 10 (by decide) (by decide) (by decide) (by decide))
      rw [e_Mnext hLs (by omega) h1, z_b_some, h1, li1, nI_add]
      refine ok_if (fun he => ok_m (ok_ret ?_)) (fun he => ok_ret ?_)
      · rw [SG_59 hl] at he
        have ho : okS l n p = true := okS_i (by rw [hsg]; exact h0) (by rw [hsg]; exact h2) he
        refine ⟨?_, ⟨fun a a0 a1 a2 a3 => ?_, fun k hk => ?_, fun k hk => ?_, fun k hk => ?_⟩, Or.inl ⟨ho, rfl, ?_, ?_, fun j hj => ?_, fun h9 => ?_⟩⟩
        · rw [z_put_same, pk_us, bh_t ho]
        · rw [z_put_ne _ _ _ a0]; exact h3.1 a a0 a1 a2 a3
        · rw [z_put_same, pk_un hk]; exact h3.2.1 k hk
        · rw [z_put_ne _ _ _ (by decide), z_put_ne _ _ _ (by decide)]; exact h3.2.2.1 k hk
        · rw [z_put_ne _ _ _ (by decide)]; exact h3.2.2.2 k hk
        · rw [z_put_ne _ _ _ (by decide)]; exact h4.1
        · rw [z_put_ne _ _ _ (by decide)]; exact h4.2.1
        · rw [z_put_ne _ _ _ (by decide)]; exact h4.2.2.1 j hj
        · rw [z_put_ne _ _ _ (by decide)]; exact h4.2.2.2 h9
      · rw [SG_59 hl] at he
        have ho : okS l n p = false := okS_f (fun z => he z.2.2)
        exact ⟨by rw [h1, bh_f (by rw [hsg]; exact h0) ho], h3, Or.inr ⟨ho, rfl⟩⟩
    have bad : ∀ s, s 0 19 = nI (p + 1 + stc l n p) → stc l n p < ldg (l p) → FS q τ s → SP l n q p τ 0 s := by
      intro s h1 h2 h3
      have ho : okS l n p = false := okS_f (fun z => by have := z.2.1; rw [hsg] at this; omega)
      exact ⟨by rw [h1, bh_f (by rw [hsg]; exact h0) ho], h3, Or.inr ⟨ho, rfl⟩⟩
    have key : ∀ f j s, j ≤ cnt (l p) → cnt (l p) - j < f → s 0 19 = nI (p + 1 + j) → (∀ i, i < j → dgt l n (p + 1 + i) = true) → (∀ i, i < j → s 13 (4 * q + i) = nI (l (p + 1 + i) - 48)) → FS q τ s → s 11 q = nI (l p) → s 12 q = nI p → ok (lf_X11_statement_86 N f (nI (l p)) (nI (4 * q)) (nI (cnt (l p))) (nI j) s) (SP l n q p τ) := by
      intro f
      induction f with
      | zero => intro j s _ h; omega
      | succ f ih =>
        intro j s hj hf hs hd hv hF h11 h12
        have hLs : LM l n s := hL.fr (hF.2.1 18 (by decide)) (hF.1 10 (by decide) (by decide) (by decide) (by decide))
        show ok (bf_X11_statement_86 N _ _ _ _ _ s) _
        unfold bf_X11_statement_86 bf_X11_statement_124
        rw [t_le (by omega) (by omega)]
        by_cases e : j = cnt (l p)
        · subst e
          refine ok_t (Nat.le_refl _) ?_
          have hat := dcn_at (cnt (l p)) (mdg (l p)) (p + 1) hd (by rw [hmd]; split <;> omega)
          by_cases h9 : l p = 99 ∨ l p = 100
          · rw [if_pos h9] at hld hmd
            have num : ok (z_b (f_X11_readsNumber N (nI (4 * q) + nI (cnt (l p))) 3 s) (fun r_5 t_6 => if r_5 = 0 then some (0, t_6) else bf_X11_statement_137 N t_6)) (SP l n q p τ) := by
              rw [nI_add]
              refine ok_bm (e_reads1 (m := 3) hN hLs (by omega) (by omega) (by omega) hs) (fun r t ht => ?_)
              rcases ht with ⟨hd0, rfl, rfl⟩ | ⟨hd1, rfl, g1, g2, g3⟩
              · refine ok_t rfl (ok_ret (bad t ?_ ?_ hF))
                · rw [est, hat, dcn_off hd0]; exact hs
                · rw [est, hat, dcn_off hd0, hld]; omega
              · have hs1 : stc l n p = cnt (l p) + dcn l n 3 (p + 1 + cnt (l p)) := by rw [est, hat, hmd, show cnt (l p) + 3 - cnt (l p) = 3 by omega]
                have hs2 : 1 ≤ dcn l n 3 (p + 1 + cnt (l p)) := by
                  show 1 ≤ (if dgt l n (p + 1 + cnt (l p)) = true then dcn l n 2 (p + 1 + cnt (l p) + 1) + 1 else 0)
                  rw [hd1, if_pos rfl]; omega
                refine ok_f (by decide) (fin t ?_ (by omega) ⟨fun a a0 a1 a2 a3 => ?_, fun k hk => ?_, fun k hk => ?_, fun k hk => ?_⟩ ⟨?_, ?_, fun i hi => ?_, fun _ => g2⟩)
                · rw [g1, hs1]
                  congr 1
                  omega
                · rw [g3.2.1 a a0 a3]; exact hF.1 a a0 a1 a2 a3
                · rw [g3.2.2 k hk]; exact hF.2.1 k hk
                · rw [g3.2.1 11 (by decide) (by decide), g3.2.1 12 (by decide) (by decide)]; exact hF.2.2.1 k hk
                · rw [g3.1 k (by omega)]; exact hF.2.2.2 k hk
                · rw [g3.2.1 11 (by decide) (by decide)]; exact h11
                · rw [g3.2.1 12 (by decide) (by decide)]; exact h12
                · rw [g3.1 _ (by omega)]; exact hv i hi
            rcases h9 with h9 | h9
            · rw [h9] at num ⊢
              exact ok_t rfl num
            · rw [h9] at num ⊢
              exact ok_f (by decide) (ok_t rfl num)
          · rw [if_neg h9] at hld hmd
            have hs1 : stc l n p = cnt (l p) := by rw [est, hat, hmd, Nat.sub_self]; rfl
            refine ok_f ?_ (ok_f ?_ (fin s (by rw [hs1]; exact hs) (by omega) hF ⟨h11, h12, hv, fun z => absurd z h9⟩))
            · rw [show (99 : Int32) = nI 99 from rfl, i_eq (by omega) (by omega)]; omega
            · rw [show (100 : Int32) = nI 100 from rfl, i_eq (by omega) (by omega)]; omega
        · refine ok_f (by omega) ?_
          rw [nI_add]
          refine ok_bm (e_reads1 (m := 1) hN hLs (by omega) (by omega) (by omega) hs) (fun r t ht => ?_)
          have hat := dcn_at j (mdg (l p)) (p + 1) hd (by rw [hmd]; split <;> omega)
          rcases ht with ⟨hd0, rfl, rfl⟩ | ⟨hd1, rfl, g1, g2, g3⟩
          · refine ok_t rfl (ok_ret (bad t ?_ ?_ hF))
            · rw [est, hat, dcn_off hd0]; exact hs
            · rw [est, hat, dcn_off hd0, hld]; split <;> omega
          · refine ok_f (by decide) ?_
            rw [li1, nI_add]
            refine ih (j + 1) t (by omega) (by omega) ?_ (fun i hi => ?_) (fun i hi => ?_) ⟨fun a a0 a1 a2 a3 => ?_, fun k hk => ?_, fun k hk => ?_, fun k hk => ?_⟩ ?_ ?_
            · rw [g1]
              congr 1
              show p + 1 + j + (if dgt l n (p + 1 + j) = true then 0 + 1 else 0) = _
              rw [hd1, if_pos rfl]
              omega
            · by_cases e2 : i = j
              · subst e2; exact hd1
              · exact hd i (by omega)
            · by_cases e2 : i = j
              · subst e2
                rw [g2]
                congr 1
                show (if dgt l n (p + 1 + i) = true then 10 * 0 + (l (p + 1 + i) - 48) else 0) = _
                rw [hd1, if_pos rfl]
                omega
              · rw [g3.1 _ (by omega)]; exact hv i (by omega)
            · rw [g3.2.1 a a0 a3]; exact hF.1 a a0 a1 a2 a3
            · rw [g3.2.2 k hk]; exact hF.2.1 k hk
            · rw [g3.2.1 11 (by decide) (by decide), g3.2.1 12 (by decide) (by decide)]; exact hF.2.2.1 k hk
            · rw [g3.1 k (by omega)]; exact hF.2.2.2 k hk
            · rw [g3.2.1 11 (by decide) (by decide)]; exact h11
            · rw [g3.2.1 12 (by decide) (by decide)]; exact h12
    unfold bf_X11_statement_31 bf_X11_statement_82
    rw [h20]
    refine ok_g (z_in_n hq (by decide)) (ok_m ?_)
    rw [nI_clamp (by omega), z_put_ne _ _ _ (show (0 : Nat) ≠ 11 by decide), h20, h19]
    refine ok_g (z_in_n hq (by decide)) (ok_m (ok_m (ok_n ?_)))
    rw [nI_clamp (by omega), z_put_ne _ _ _ (show (0 : Nat) ≠ 12 by decide), z_put_ne _ _ _ (show (0 : Nat) ≠ 11 by decide), z_put_same, pk_un (by decide), h19, show (4 : Int32) = nI 4 from rfl]
    rw [z_put_ne _ _ _ (show (0 : Nat) ≠ 12 by decide), z_put_ne _ _ _ (show (0 : Nat) ≠ 11 by decide), h20, pk_mul, li1, nI_add]
    have kk := key N 0 (z_put (z_put (z_put τ 11 q (nI (l p))) 12 q (nI p)) 0 19 (nI (p + 1))) (by omega) (by omega) (by rw [z_put_same, pk_us]) (fun i hi => by omega) (fun i hi => by omega) ⟨fun a a0 a1 a2 a3 => by rw [z_put_ne _ _ _ a0, z_put_ne _ _ _ a2, z_put_ne _ _ _ a1], fun k hk => by rw [z_put_same, pk_un hk, z_put_ne _ _ _ (by decide), z_put_ne _ _ _ (by decide)], fun k hk => ⟨by rw [z_put_ne _ _ _ (by decide), z_put_ne _ _ _ (by decide), z_put_same, pk_un hk], by rw [z_put_ne _ _ _ (by decide), z_put_same, pk_un hk, z_put_ne _ _ _ (by decide)]⟩, fun k hk => by rw [z_put_ne _ _ _ (by decide), z_put_ne _ _ _ (by decide), z_put_ne _ _ _ (by decide)]⟩ (by rw [z_put_ne _ _ _ (by decide), z_put_ne _ _ _ (by decide), z_put_same, pk_us]) (by rw [z_put_ne _ _ _ (by decide), z_put_same, pk_us])
    refine ok_if (fun he => ?_) (fun he => ?_)
    · rw [show (99 : Int32) = nI 99 from rfl, i_eq (by omega) (by omega)] at he
      rw [show cnt (l p) = 3 by rw [he]; rfl] at kk
      exact kk
    · rw [show (99 : Int32) = nI 99 from rfl, i_eq (by omega) (by omega)] at he
      rw [show cnt (l p) = 2 from if_neg he] at kk
      exact kk
  by_cases h0 : ldg (sg l n p) = 0
  · have ho : okS l n p = false := okS_f (by omega)
    have hne : ∀ x, (x = 99 ∨ x = 100 ∨ x = 114 ∨ x = 112) → ¬ SG l n p = nI x := by
      intro x hx he
      unfold SG at he
      by_cases e : p < n
      · have := hl p e
        rw [if_pos e, i_eq (by omega) (by omega)] at he
        unfold sg at h0
        rw [if_pos e, he] at h0
        rcases hx with rfl | rfl | rfl | rfl <;> exact absurd h0 (by decide)
      · rw [if_neg e] at he
        rcases hx with rfl | rfl | rfl | rfl <;> exact absurd he (by decide)
    refine ok_f (hne 99 (by omega)) (ok_f (hne 100 (by omega)) (ok_f (hne 114 (by omega)) (ok_f (hne 112 (by omega)) (ok_ret ⟨?_, ⟨fun _ _ _ _ _ => rfl, fun _ _ => rfl, fun _ _ => ⟨rfl, rfl⟩, fun _ _ => rfl⟩, Or.inr ⟨ho, rfl⟩⟩))))
    rw [h19]
    unfold bh
    rw [if_pos h0]
  · have hc4 := ldg_c (show 0 < ldg (sg l n p) by omega)
    have hs := sg_lt (l := l) (n := n) (p := p) (by omega)
    have m0 := main (by omega) hs.1 hs.2
    refine ok_if (fun _ => m0) (fun h1 => ok_if (fun _ => m0) (fun h2 => ok_if (fun _ => m0) (fun h3 => ok_if (fun _ => m0) (fun h4 => ?_))))
    exfalso
    have eS : SG l n p = nI (l p) := if_pos hs.1
    rw [eS] at h1 h2 h3 h4
    rw [hs.2] at hc4
    rcases hc4 with e | e | e | e <;> rw [e] at h1 h2 h3 h4
    · exact h1 rfl
    · exact h2 rfl
    · exact h4 rfl
    · exact h3 rfl
end T2
