/-! The night: the reference's statement, and the night itself. -/
section T5
variable {σ τ : zS} {N : Nat} {l : Nat → Nat} {n : Nat}
theorem setc_same {g : hS} {a k v : Nat} (h : hc g a k = v) : setc g a k v = g := by
  unfold setc
  have : un (hc g) a (un (hc g a) k v) = hc g := by
    funext i
    by_cases e : i = a
    · subst e
      rw [un_s]
      funext j
      by_cases e2 : j = k
      · subst e2; rw [un_s, h]
      · rw [un_n _ _ e2]
    · rw [un_n _ _ e]
  rw [this]
theorem e_comes {g : hS} (hM : RM τ g) (hV : V0 g) (h1 : V1 g) {p q : Nat} (hok : okS l n p = true) (hlp : l p < 256) (hq : q < 40) (hR : RS l n τ q p) : ok (f_X11_comes N (nI q) τ) (fun r t => fM τ t ∧ RA (ap l n g p) (RM t) r) := by
  obtain ⟨hc4, hd, hp⟩ := okS_d hok
  have h6 := hV.1
  have hl2 : 2 ≤ ldg (l p) := by rcases hc4 with e | e | e | e <;> rw [e] <;> decide
  have hc2 : 2 ≤ cnt (l p) := by unfold cnt; split <;> omega
  have b1' : l (p + 1) ≤ 57 := (dgt_t (hd 0 (by omega))).2.2
  have b2' : l (p + 2) ≤ 57 := (dgt_t (hd 1 (by omega))).2.2
  obtain ⟨r11, -, r13, rnm⟩ := hR
  have r0 : τ 13 (4 * q) = nI (l (p + 1) - 48) := r13 0 (by omega)
  have r1 : τ 13 (4 * q + 1) = nI (l (p + 2) - 48) := r13 1 (by omega)
  unfold f_X11_comes
  refine ok_n (ok_g (z_in_n hq (by decide)) ?_)
  have i0 := z_in_n (show 4 * q < 160 by omega) (by decide)
  have i1 := z_in_n (show 4 * q + 1 < 160 by omega) (by decide)
  have i2 := z_in_n (show 4 * q + 2 < 160 by omega) (by decide)
  have i3 := z_in_n (show 4 * q + 3 < 160 by omega) (by decide)
  have k0 : (nI (4 * q)).toNatClampNeg = 4 * q := nI_clamp (by omega)
  have k1 : (nI (4 * q + 1)).toNatClampNeg = 4 * q + 1 := nI_clamp (by omega)
  have k2 : (nI (4 * q + 2)).toNatClampNeg = 4 * q + 2 := nI_clamp (by omega)
  have k3 : (nI (4 * q + 3)).toNatClampNeg = 4 * q + 3 := nI_clamp (by omega)
  have kn : (nI (hn g)).toNatClampNeg = hn g := nI_clamp (by omega)
  rw [show (4 : Int32) * nI q = nI (4 * q) by rw [li4, pk_mul]]
  simp only [show nI (4 * q) + (1 : Int32) = nI (4 * q + 1) by rw [li1, nI_add], show nI (4 * q) + (2 : Int32) = nI (4 * q + 2) by rw [li2, nI_add], k0, k1, k2, i0, i1, i2, z_g_t, nI_clamp (show q < 2 ^ 31 by omega), r11, r0, r1]
  generalize ha : l (p + 1) - 48 = a at *
  generalize hb' : l (p + 2) - 48 = b at *
  have a10 : a < 10 := by omega
  have b10 : b < 10 := by omega
  unfold ap
  rw [ha, hb']
  by_cases e1 : l p = 99
  · rw [e1] at rnm r13
    have r2 : τ 13 (4 * q + 2) = nI (l (p + 3) - 48) := r13 2 (by decide)
    have r3 : τ 13 (4 * q + 3) = nI (nmb l n 3 (p + 4) 0) := rnm (Or.inl rfl)
    have b3' : l (p + 3) ≤ 57 := (dgt_t (hd 2 (by rw [e1]; decide))).2.2
    rw [e1, if_pos rfl]
    generalize hw : l (p + 3) - 48 = w at *
    generalize nmb l n 3 (p + 4) 0 = v at *
    have w10 : w < 10 := by omega
    refine ok_t rfl (ok_bo ?_)
    have mn : ok (f_X11_comesCandle N (nI (4 * q)) τ) (fun r t => fM τ t ∧ RA (if a < 6 ∧ w < 4 ∧ hn g < 6 then some (addc g a b v w) else none) (RM t) r) := by
      unfold f_X11_comesCandle
      simp only [show nI (4 * q) + (1 : Int32) = nI (4 * q + 1) by rw [li1, nI_add], show nI (4 * q) + (2 : Int32) = nI (4 * q + 2) by rw [li2, nI_add], show nI (4 * q) + (3 : Int32) = nI (4 * q + 3) by rw [li3, nI_add], k0, k1, k2, k3, i0, i1, i2, i3, z_g_t, r0, r2]
      rw [li5, t_lt (by omega) (by omega)]
      by_cases c1 : a < 6
      · refine ok_f (by omega) ?_
        by_cases c2 : w < 4
        · rw [pm_yes c2, z_b_some, hM.1]
          refine ok_f (by decide) ?_
          by_cases c3 : hn g < 6
          · refine ok_f (fun z => ?_) (ok_g (z_in_n c3 (by decide)) (ok_m (ok_g (by simp (disch := decide) only [z_put_ne, hM.1]; exact z_in_n c3 (by decide)) (ok_m (ok_g (by simp (disch := decide) only [z_put_ne, hM.1]; exact z_in_n c3 (by decide)) (ok_m (ok_g (by simp (disch := decide) only [z_put_ne, hM.1]; exact z_in_n c3 (by decide)) (ok_m (ok_g (by simp (disch := decide) only [z_put_ne, hM.1]; exact z_in_n c3 (by decide)) (ok_m (ok_g (by simp (disch := decide) only [z_put_ne, hM.1]; exact z_in_n c3 (by decide)) (ok_m (ok_m (ok_ret ?_))))))))))))))
            · have := (nI_eq (b := 6) (by omega) (by omega)).mp z
              omega
            · simp (disch := decide) only [z_put_ne, hM.1, r0, r1, r2, r3, kn]
              rw [li1, nI_add]
              have := RM_addc hM c3 a b v w _ rfl
              exact ⟨this.2, Or.inr ⟨_, if_pos ⟨c1, c2, c3⟩, rfl, this.1⟩⟩
          · refine ok_t ?_ (ok_ret ⟨fM.rf, Or.inl ⟨rfl, if_neg (fun z => c3 z.2.2)⟩⟩)
            rw [show hn g = 6 by omega]; rfl
        · rw [pm_no' c2 (by omega), z_b_some]
          exact ok_t rfl (ok_ret ⟨fM.rf, Or.inl ⟨rfl, if_neg (fun z => c2 z.2.1)⟩⟩)
      · exact ok_t (by omega) (ok_ret ⟨fM.rf, Or.inl ⟨rfl, if_neg (fun z => c1 z.1)⟩⟩)
    exact ok_mono mn (fun r s hs => ⟨RA_01 hs.2, hs⟩)
  · rw [if_neg e1]
    refine ok_f (by rw [show (99 : Int32) = nI 99 from rfl, i_eq (by omega) (by omega)]; exact e1) ?_
    by_cases e2 : l p = 100
    · rw [e2] at rnm
      have r2 : τ 13 (4 * q + 2) = nI (nmb l n 3 (p + 3) 0) := rnm (Or.inr rfl)
      rw [e2, if_pos rfl]
      refine ok_t rfl ?_
      rcases tw_c a b (by omega) (by omega) with c | ⟨c, hno⟩
      · rw [tm_yes c.1 c.2.1 c.2.2, z_b_some]
        refine ok_f (by decide) ?_
        rw [r0, r1, r2, m_pair]
        refine ok_g (z_in_n (show 4 * a + b < 16 by omega) (by decide)) (ok_m (ok_ret ?_))
        rw [nI_clamp (by omega)]
        exact ⟨fM.put (by decide) (by decide), Or.inr ⟨_, if_pos c, rfl, RM_setb hM⟩⟩
      · rw [(hno N τ τ).2, z_b_some]
        exact ok_t rfl (ok_ret ⟨fM.rf, Or.inl ⟨rfl, if_neg c⟩⟩)
    · rw [if_neg e2]
      refine ok_f (by rw [show (100 : Int32) = nI 100 from rfl, i_eq (by omega) (by omega)]; exact e2) ?_
      by_cases e3 : l p = 114
      · rw [e3, if_pos rfl]
        refine ok_t rfl ?_
        by_cases c : a < 4
        · rw [pm_yes c, z_b_some]
          refine ok_f (by decide) ?_
          rw [r0, r1]
          refine ok_g (z_in_n c (by decide)) (ok_m (ok_ret ?_))
          rw [nI_clamp (by omega)]
          exact ⟨fM.put (by decide) (by decide), Or.inr ⟨_, if_pos c, rfl, RM_setd hM⟩⟩
        · rw [pm_no' c (by omega), z_b_some]
          exact ok_t rfl (ok_ret ⟨fM.rf, Or.inl ⟨rfl, if_neg c⟩⟩)
      · rw [if_neg e3]
        refine ok_f (by rw [show (114 : Int32) = nI 114 from rfl, i_eq (by omega) (by omega)]; exact e3) ?_
        by_cases c1 : a < hn g
        · rw [cm_yes hM h6 c1, z_b_some, r1]
          refine ok_f (by decide) ?_
          by_cases c2 : b < 4
          · rw [pm_yes c2, z_b_some]
            obtain ⟨g0, g1, g2, g3, g4, g5⟩ := hV.2.1 a c1
            refine ok_f (by decide) ?_
            rw [r0, r1]
            refine ok_g (z_in_n (show a < 6 by omega) (by decide)) (ok_m ?_)
            rw [z_put_ne _ _ _ (show (13 : Nat) ≠ 5 by decide), r0, nI_clamp (show a < 2 ^ 31 by omega), z_put_ne _ _ _ (show (3 : Nat) ≠ 5 by decide), (RM.r hM).1 a c1 2 (by decide), li0, t_le (by omega) (by omega)]
            refine ok_g (z_in_n (show a < 6 by omega) (by decide)) ?_
            have r1' : RM (z_put τ 5 a (nI b)) (setc g a 4 b) := RM_setc (k := 4) hM c1 (by decide)
            refine ok_if (fun hz => ok_ret ⟨fM.put (by decide) (by decide), Or.inr ⟨_, if_pos ⟨c1, c2⟩, rfl, ?_⟩⟩) (fun hz => ok_g (z_in_n (show a < 6 by omega) (by decide)) (ok_m (ok_ret ⟨(fM.put (by decide) (by decide)).tr (fM.put (by decide) (by decide)), Or.inr ⟨_, if_pos ⟨c1, c2⟩, rfl, ?_⟩⟩)))
            · unfold plcd
              rw [decide_eq_false (show ¬ 0 < hc g a 2 by omega), setc_same]
              · exact r1'
              · show un (hc g) a (un (hc g a) 4 b) a 5 = 0
                rw [un_s, un_n _ _ (by decide)]
                have := h1 a c1
                omega
            · unfold plcd
              rw [decide_eq_true (show 0 < hc g a 2 by omega)]
              exact RM_setc (k := 5) r1' c1 (by decide)
          · rw [pm_no' c2 (by omega), z_b_some]
            exact ok_t rfl (ok_ret ⟨fM.rf, Or.inl ⟨rfl, if_neg (fun z => c2 z.2)⟩⟩)
        · rw [cm_no hM (Or.inr ((nI_leI (by omega) (by omega)).mpr (by omega))), z_b_some]
          exact ok_t rfl (ok_ret ⟨fM.rf, Or.inl ⟨rfl, if_neg (fun z => c1 z.1)⟩⟩)
/-- after a night -/
def NI (σ t0 : zS) (s t : zS) : Prop := ∃ h', RC s 0 h' ∧ RM t h' ∧ V0 h' ∧ V1 h' ∧ hm h' ≤ 9999 ∧ (∀ a, ¬ hr 0 a → ¬ hr 1 a → s a = σ a) ∧ sM t0 t
theorem night_inv {σ' τ' : zS} {h' : hS} (hQ : IQ σ τ) (hC : RC σ' 0 h') (hM : RM τ' h') (v0 : V0 h') (v1 : V1 h') (v2 : hm h' ≤ 9999) (f1 : ∀ a, ¬ hr 0 a → ¬ hr 1 a → a ≠ 38 → σ' a = σ a) (f2 : σ' 38 1 = 0) (t1 : τ' 0 18 = 0) (t2 : τ' 0 22 = τ 0 22) (t3 : τ' 0 28 = τ 0 28) (t4 : τ' 9 = τ 9) (t5 : τ' 15 = τ 15) (t6 : ∀ k, k < 70 → τ' 14 k = τ 14 k) : zInv σ' τ' := by
  obtain ⟨hK, hL, hR, hF⟩ := hQ
  have e : ∀ a, (36 ≤ a ∨ hr 2 a) → a ≠ 38 → σ' a = σ a := fun a ha h38 => f1 a (by unfold hr at *; omega) (by unfold hr at *; omega) h38
  refine ⟨⟨h', hC, hM, v0, v1, v2⟩, ?_, ⟨0, by decide, f2, t1, fun k hk => by omega⟩, ?_, fun k hk => ?_⟩
  · rcases hK with ⟨a, b⟩ | ⟨a, b, k, r1, r2, w0, w1, w2⟩
    · exact Or.inl ⟨by rw [e 37 (by omega) (by decide)]; exact a, t2.trans b⟩
    · exact Or.inr ⟨by rw [e 37 (by omega) (by decide)]; exact a, t2.trans b, k, r1.frame w0.1 (fun a ha => e a (Or.inr ha) (by unfold hr at ha; omega)), r2.keep w0.1 t6, w0, w1, w2⟩
  · obtain ⟨m, a, b, c, d⟩ := hR
    exact ⟨m, a, by rw [e 37 (by omega) (by decide)]; exact b, t3.trans c, fun k hk => by rw [e 46 (by omega) (by decide), t5]; exact d k hk⟩
  · rw [e 47 (by omega) (by decide), t4]
    exact hF k hk
theorem ok_swap {A B : zA} {R : Int32 → zS → Int32 → zS → Prop} (h : ok A (fun r s => ok B (fun r' t => R r s r' t))) : ok B (fun r' t => ok A (fun r s => R r s r' t)) := by
  obtain ⟨r, s, e1, r', t, e2, h3⟩ := h
  exact ⟨r', t, e2, r, s, e1, h3⟩
theorem St.of1 {o1 o2 : zA} (h : ok o2 (fun q τ1 => ok o1 (fun r σ1 => q = r ∧ zInv σ1 τ1))) : St o1 o2 := by
  obtain ⟨q, τ1, e2, r, σ1, e1, rfl, h3⟩ := h
  exact ⟨q, σ1, τ1, e1, e2, h3⟩
theorem st_night (hN : 2000 ≤ N) (hI : zInv σ τ) : St (f_X10_night N σ) (f_X11_night N τ) := by
  obtain ⟨⟨h, hH⟩, hQ⟩ := id hI
  obtain ⟨hC, hM, v0, v1, v2⟩ := id hH
  have h6 := v0.1
  obtain ⟨n, n80, l1, l2, l3⟩ := hQ.2.1
  have hl3 : ∀ k, k < n → (σ 39 k).toNatClampNeg < 256 ∧ σ 39 k = nI (σ 39 k).toNatClampNeg ∧ τ 10 k = nI (σ 39 k).toNatClampNeg := by
    intro k hk
    obtain ⟨c, c1, c2, c3⟩ := l3 k hk
    have ec : (σ 39 k).toNatClampNeg = c := by rw [c2]; exact nI_clamp (by omega)
    rw [ec]
    exact ⟨c1, c2, c3⟩
  generalize hl : (fun k => (σ 39 k).toNatClampNeg) = l
  have hlk : ∀ k, l k = (σ 39 k).toNatClampNeg := fun k => by rw [← hl]
  have LCσ : LC l n σ := ⟨n80, l1, fun k hk => by rw [hlk]; exact ⟨(hl3 k hk).1, (hl3 k hk).2.1⟩⟩
  have LMτ : LM l n τ := ⟨n80, l2, fun k hk => by rw [hlk]; exact ⟨(hl3 k hk).1, (hl3 k hk).2.2⟩⟩
  have hl256 : ∀ k, k < n → l k < 256 := fun k hk => (LCσ.2.2 k hk).1
  unfold f_X10_night f_X10_readNight
  rcases form_cases l n80 with ⟨Q, q0, q20, ho, hpn, hQn⟩ | ⟨Q, q20, ho, hQ1, hb⟩
  · rw [e_form_ok (by omega) LCσ q0 q20 ho hQn, z_b_some, if_pos p00]
    -- the statements come
    have key : ∀ t0, RK 1 t0 h → (∀ j, j < Q → RS l n t0 j (plc l n j)) → t0 0 20 = nI Q → ∀ k q m1 m2 s t g, q + k = Q → k < m1 → k < m2 → RC s 1 g → RM t g → V0 g → V1 g → hm g = hm h → fC 1 σ s → fM t0 t → ok (lf_X10_readNight_29 N m1 (nI (plc l n q)) (nI q) s) (fun r s' => ok (lf_X11_night_86 N m2 (nI q) t) (fun r' t' => r' = r ∧ NI σ t0 s' t')) := by
      intro t0 hK0 hRS h20 k
      induction k with
      | zero =>
        intro q m1 m2 s t g hqk hm1 hm2 gC gM gV gV1 ghm gf gF
        obtain ⟨m1, rfl⟩ : ∃ x, m1 = x + 1 := ⟨m1 - 1, by omega⟩
        obtain ⟨m2, rfl⟩ : ∃ x, m2 = x + 1 := ⟨m2 - 1, by omega⟩
        have eq : q = Q := by omega
        subst eq
        show ok (bf_X10_readNight_29 N _ _ _ s) _
        unfold bf_X10_readNight_29 bf_X10_readNight_75
        rw [gf 38 (by unfold hr; omega), l1, hQn, t_le (by omega) (by omega)]
        refine ok_t (Nat.le_refl _) (ok_bm (e_become (j := 0) (j1 := 1) (by omega) (by decide) (by decide) (by decide) gC gV) (fun _ s' hs' => ok_ret ?_))
        show ok (bf_X11_night_86 N _ _ t) _
        unfold bf_X11_night_86
        rw [show t 0 20 = nI q from (gF.2 20 (by omega)).trans h20]
        refine ok_t (Int32.le_refl _) (ok_ret ⟨rfl, g, hs'.1, gM, gV, gV1, by omega, fun a a0 a1 => (hs'.2 a a0).trans (gf a a1), gF.s⟩)
      | succ k ih =>
        intro q m1 m2 s t g hqk hm1 hm2 gC gM gV gV1 ghm gf gF
        obtain ⟨m1, rfl⟩ : ∃ x, m1 = x + 1 := ⟨m1 - 1, by omega⟩
        obtain ⟨m2, rfl⟩ : ∃ x, m2 = x + 1 := ⟨m2 - 1, by omega⟩
        have hoq := ho q (by omega)
        have hpq := hpn q (by omega)
        have LCs : ∀ s' : zS, fC 1 σ s' → LC l n s' := fun s' f => ⟨n80, by rw [f 38 (by unfold hr; omega)]; exact l1, fun k hk => by rw [f 39 (by unfold hr; omega)]; exact LCσ.2.2 k hk⟩
        show ok (bf_X10_readNight_29 N _ _ _ s) _
        unfold bf_X10_readNight_29
        rw [gf 38 (by unfold hr; omega), l1, t_le (by omega) (by omega), show (80 : Int32) = nI 80 from rfl, t_le (by omega) (by omega)]
        refine ok_f (by omega) (ok_f (by omega) (ok_bm (e_tell (by omega) (LCs s gf) gC gV hoq) (fun r s' hs' => ?_)))
        obtain ⟨sf, sA⟩ := hs'
        have RSt : RS l n t q (plc l n q) := RS_0 (hRS q (by omega)) (gF.1 11 (by decide)) (gF.1 12 (by decide)) (gF.1 13 (by decide))
        have cm := e_comes (N := N) gM gV gV1 hoq (hl256 _ hpq) (show q < 40 by omega) RSt
        have e20 : t 0 20 = nI Q := (gF.2 20 (by omega)).trans h20
        rcases sA with ⟨rfl, hnone⟩ | ⟨g', hsome, rfl, gC'⟩
        · refine ok_t rfl (ok_ret ?_)
          show ok (bf_X11_night_86 N _ _ t) _
          unfold bf_X11_night_86
          rw [e20, t_le (by omega) (by omega)]
          refine ok_f (by omega) (ok_bm cm (fun r' t' ht' => ?_))
          obtain ⟨tf, tA⟩ := ht'
          rcases tA with ⟨rfl, -⟩ | ⟨g', hs2, -⟩
          · refine ok_t rfl (ok_bm (e_back (w := 1) (by omega) (by decide) (hK0.rows ((gF.tr tf).1 14 (by decide))) h6) (fun _ x hx => ok_g (z_in_n (show q < 40 by omega) (by decide)) (ok_ret ⟨?_, h, hC.other h6 (by decide) (by decide) (by decide) (gf.tr sf), hx.1, v0, v1, v2, fun a a0 a1 => (gf.tr sf) a a1, (gF.tr tf).s.tr hx.2.s⟩)))
            rw [nI_clamp (by omega), hx.2.1 12 (by decide), tf.1 12 (by decide), RSt.2.1]
          · rw [hnone] at hs2; cases hs2
        · have hV' := ap_V hoq gV gV1 hsome
          refine ok_f (by decide) ?_
          have hbI : bhI l n (plc l n q) = nI (plc l n (q + 1)) := by unfold bhI; rw [hoq]; rfl
          rw [e_behind (by omega) (LCs s' (gf.tr sf)) (by omega), z_b_some, hbI, li1, nI_add]
          obtain ⟨tm, em, pM, pF⟩ : ∃ tm : zS, f_X11_comes N (nI q) t = some (1, tm) ∧ RM tm g' ∧ fM t0 tm := by
            obtain ⟨rm, tm, em, tf, tA⟩ := cm
            rcases tA with ⟨-, hn2⟩ | ⟨g2, hs2, rfl, gM'⟩
            · rw [hsome] at hn2; cases hn2
            · rw [hsome] at hs2
              cases hs2
              exact ⟨tm, em, gM', gF.tr tf⟩
          refine ok_mono (ih (q + 1) m1 m2 s' tm g' (by omega) (by omega) (by omega) gC' pM hV'.1 hV'.2.1 (by omega) (gf.tr sf) pF) (fun r s2 h2 => ok_e ?_ h2)
          show bf_X11_night_86 N _ _ t = _
          unfold bf_X11_night_86
          rw [e20, t_le (by omega) (by omega), if_neg (by omega), em, z_b_some, if_neg n10, li1, nI_add]
    obtain ⟨_, s0, e0, hs0⟩ := e_become (N := N) (j := 1) (j1 := 0) (by omega) (by decide) (by decide) (by decide) hC v0
    rw [e0, z_b_some]
    refine St.of1 (p_good (by omega) LMτ q0 q20 ho hQn (fun t ht => ?_))
    obtain ⟨t1, t2, t3, t4, t5⟩ := ht
    unfold bf_X11_night_60
    refine ok_m (ok_f (by decide) ?_)
    have hMt : RM (z_put t 0 18 0) h := by
      obtain ⟨a1, a2, a3, a4, a5, a6, a7, a8⟩ := hM
      have ez : ∀ k, k ≠ 18 → k ≠ 19 → k ≠ 20 → z_put t 0 18 0 0 k = τ 0 k := fun k k1 k2 k3 => by rw [z_put_same, pk_un k1]; exact t5.2 k k1 k2 k3
      have er : ∀ a, a ≠ 0 → a ≠ 11 → a ≠ 12 → a ≠ 13 → z_put t 0 18 0 a = τ a := fun a b0 b1 b2 b3 => by rw [z_put_ne _ _ _ b0]; exact t5.1 a b0 b1 b2 b3
      refine ⟨?_, ?_, ?_, ?_, ?_, fun i hi k hk => ?_, fun k hk => ?_, fun k hk => ?_⟩
      · rw [ez 9 (by decide) (by decide) (by decide)]; exact a1
      · rw [ez 10 (by decide) (by decide) (by decide)]; exact a2
      · rw [ez 11 (by decide) (by decide) (by decide)]; exact a3
      · rw [ez 12 (by decide) (by decide) (by decide)]; exact a4
      · rw [ez 13 (by decide) (by decide) (by decide)]; exact a5
      · rw [er (k + 1) (by omega) (by omega) (by omega) (by omega)]; exact a6 i hi k hk
      · rw [er 7 (by decide) (by decide) (by decide) (by decide)]; exact a7 k hk
      · rw [er 8 (by decide) (by decide) (by decide) (by decide)]; exact a8 k hk
    refine ok_bm (e_keep (w := 1) (by omega) (by decide) hMt h6) (fun _ t0 ht0 => ?_)
    obtain ⟨w1, w2, w3⟩ := ht0
    have f0 : ∀ k, k ≠ 18 → k ≠ 23 → k ≠ 24 → t0 0 k = t 0 k := fun k k1 k2 k3 => by rw [w3.2.1 k k2 k3, z_put_same, pk_un k1]
    have f1 : ∀ a, a ≠ 0 → a ≠ 14 → t0 a = t a := fun a a0 a1 => by rw [w3.1 a a0 a1, z_put_ne _ _ _ a0]
    have kk := key t0 w1 (fun j hj => RS_0 (t4 j hj) (f1 11 (by decide) (by decide)) (f1 12 (by decide) (by decide)) (f1 13 (by decide) (by decide))) ((f0 20 (by decide) (by decide) (by decide)).trans t2) Q 0 N N s0 t0 h (by omega) (by omega) (by omega) hs0.1 w2 v0 v1 rfl hs0.2 fM.rf
    refine ok_mono (ok_swap kk) (fun r' t' hh => ok_b (ok_mono hh (fun r s' hrs => ok_m (ok_ret ⟨hrs.1, ?_⟩))))
    obtain ⟨-, h', x1, x2, x3, x4, x5, x6, x7⟩ := hrs
    refine night_inv (h' := h') hQ (x1.frame x3.1 (fun a ha => z_put_ne _ _ _ (by unfold hr at ha; omega))) x2 x3 x4 x5 (fun a y1 y2 h38 => by rw [z_put_ne _ _ _ h38]; exact x6 a y1 y2) (by rw [z_put_same, pk_us]) ?_ ?_ ?_ ?_ ?_ (fun k hk => ?_)
    · rw [x7.2.2.2.2.1, w3.2.1 18 (by decide) (by decide), z_put_same, pk_us]
    · rw [x7.2.2.2.2.2.1, f0 22 (by decide) (by decide) (by decide)]; exact t5.2 22 (by decide) (by decide) (by decide)
    · rw [x7.2.2.2.2.2.2, f0 28 (by decide) (by decide) (by decide)]; exact t5.2 28 (by decide) (by decide) (by decide)
    · rw [x7.1, f1 9 (by decide) (by decide)]; exact t5.1 9 (by decide) (by decide) (by decide) (by decide)
    · rw [x7.2.2.1, f1 15 (by decide) (by decide)]; exact t5.1 15 (by decide) (by decide) (by decide) (by decide)
    · rw [x7.2.2.2.1 k hk, w3.2.2 k (by omega), z_put_ne _ _ _ (by decide), t5.1 14 (by decide) (by decide) (by decide) (by decide)]
  · rw [e_form_bad (by omega) LCσ q20 ho hb hQ1, z_b_some]
    have hpl := plc_4 Q ho
    have hbl := bh_le l n (plc l n Q)
    rw [if_neg (flt _ (by omega)).2, z_b_some]
    refine St.of (ok_m (ok_ret (ok_mono (p_bad (by omega) LMτ q20 ho hb hQ1) (fun r t ht => ?_))))
    obtain ⟨hr1, hPF, h18⟩ := ht
    refine ⟨hr1, night_inv (h' := h) hQ (hC.frame h6 (fun a ha => z_put_ne _ _ _ (by unfold hr at ha; omega))) ?_ v0 v1 v2 (fun a _ _ h38 => z_put_ne _ _ _ h38) (by rw [z_put_same, pk_us]) h18 (hPF.2 22 (by decide) (by decide) (by decide)) (hPF.2 28 (by decide) (by decide) (by decide)) (hPF.1 9 (by decide) (by decide) (by decide) (by decide)) (hPF.1 15 (by decide) (by decide) (by decide) (by decide)) (fun k _ => by rw [hPF.1 14 (by decide) (by decide) (by decide) (by decide)])⟩
    obtain ⟨a1, a2, a3, a4, a5, a6, a7, a8⟩ := hM
    refine ⟨?_, ?_, ?_, ?_, ?_, fun i hi k hk => ?_, fun k hk => ?_, fun k hk => ?_⟩
    · rw [hPF.2 9 (by decide) (by decide) (by decide)]; exact a1
    · rw [hPF.2 10 (by decide) (by decide) (by decide)]; exact a2
    · rw [hPF.2 11 (by decide) (by decide) (by decide)]; exact a3
    · rw [hPF.2 12 (by decide) (by decide) (by decide)]; exact a4
    · rw [hPF.2 13 (by decide) (by decide) (by decide)]; exact a5
    · rw [hPF.1 (k + 1) (by omega) (by omega) (by omega) (by omega)]; exact a6 i hi k hk
    · rw [hPF.1 7 (by decide) (by decide) (by decide) (by decide)]; exact a7 k hk
    · rw [hPF.1 8 (by decide) (by decide) (by decide) (by decide)]; exact a8 k hk
end T5
