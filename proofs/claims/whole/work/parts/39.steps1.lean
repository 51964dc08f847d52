/-! The calls, one by one: the plain ones. -/
section S1
variable {σ τ : zS} {N : Nat}
theorem n10 : ¬ (1 : Int32) = 0 := by decide
theorem p00 : (0 : Int32) = 0 := rfl
theorem n40 : ¬ (-4 : Int32) = 0 := by decide
theorem n60 : ¬ (-6 : Int32) = 0 := by decide
theorem n1_0 : ¬ (-1 : Int32) = 0 := by decide
theorem st_feed (hI : zInv σ τ) (v : Int32) : St (f_X10_feed N v σ) (f_X11_feed N v τ) := by
  obtain ⟨hH, hK, ⟨n, n80, b1, b2, b3⟩, hR, hF⟩ := id hI
  unfold f_X10_feed f_X11_feed bf_X10_feed_30 bf_X11_feed_25
  simp only [z_b_id]
  rcases ou_cases v 0 255 (lo := 0) (hi := 255) rfl rfl (by decide) (by decide) with ⟨c, -, hc, rfl, e⟩ | ⟨hneg, e⟩ | ⟨hpos, hgt, e⟩
  · rw [(e N σ τ).2, z_b_some, if_pos rfl, b1, b2, if_pos (show (0 : Int32) ≤ nI c from nI_pos' (by omega)), if_neg (show ¬ (255 : Int32) < nI c from nI_nlt (a := 255) (by omega) (by decide)), show (80 : Int32) = nI 80 from rfl, t_lt (by omega) (by omega), t_eq (by omega) (by omega)]
    by_cases h80 : n = 80
    · rw [if_neg (by omega), if_pos h80, if_neg (by decide)]
      exact St_r6 hI
    · rw [if_pos (by omega), if_neg h80, if_pos rfl, z_in_n (show n < 80 by omega) (by decide), z_g_t, z_g_t, nI_clamp (by omega)]
      refine St.of (ok_m (ok_m (ok_ret (ok_m (ok_m (ok_ret ?_))))))
      rw [z_put_same, pk_us, z_put_ne _ _ _ (by decide), b2, z_put_same, pk_us, z_put_ne _ _ _ (by decide), b1]
      refine ⟨rfl, ?_⟩
      rw [li1, nI_add]
      obtain ⟨h, hC, hM, v0, v1, v2⟩ := hH
      refine ⟨⟨h, hC.frame v0.1 (fun a ha => ?_), ?_, v0, v1, v2⟩, ?_, ?_, ?_, ?_⟩
      · unfold hr at ha; rw [z_put_ne _ _ _ (by omega), z_put_ne _ _ _ (by omega)]
      · obtain ⟨a1, a2, a3, a4, a5, a6, a7, a8⟩ := hM
        refine ⟨?_, ?_, ?_, ?_, ?_, fun i hi k hk => ?_, fun k hk => ?_, fun k hk => ?_⟩
        · rw [z_put_same, pk_un (by decide), z_put_ne _ _ _ (by decide)]; exact a1
        · rw [z_put_same, pk_un (by decide), z_put_ne _ _ _ (by decide)]; exact a2
        · rw [z_put_same, pk_un (by decide), z_put_ne _ _ _ (by decide)]; exact a3
        · rw [z_put_same, pk_un (by decide), z_put_ne _ _ _ (by decide)]; exact a4
        · rw [z_put_same, pk_un (by decide), z_put_ne _ _ _ (by decide)]; exact a5
        · rw [z_put_ne _ _ _ (by omega), z_put_ne _ _ _ (by omega)]; exact a6 i hi k hk
        · rw [z_put_ne _ _ _ (by omega), z_put_ne _ _ _ (by omega)]; exact a7 k hk
        · rw [z_put_ne _ _ _ (by omega), z_put_ne _ _ _ (by omega)]; exact a8 k hk
      · rcases hK with ⟨a, b⟩ | ⟨a, b, k, r1, r2, w0, w1, w2⟩
        · exact Or.inl ⟨by rw [z_put_ne _ _ _ (by decide), z_put_ne _ _ _ (by decide)]; exact a, by rw [z_put_same, pk_un (by decide), z_put_ne _ _ _ (by decide)]; exact b⟩
        · refine Or.inr ⟨by rw [z_put_ne _ _ _ (by decide), z_put_ne _ _ _ (by decide)]; exact a, by rw [z_put_same, pk_un (by decide), z_put_ne _ _ _ (by decide)]; exact b, k, r1.frame w0.1 (fun a ha => ?_), r2.keep w0.1 (fun _ _ => ?_), w0, w1, w2⟩
          · unfold hr at ha; rw [z_put_ne _ _ _ (by omega), z_put_ne _ _ _ (by omega)]
          · rw [z_put_ne _ _ _ (by decide), z_put_ne _ _ _ (by decide)]
      · refine ⟨n + 1, by omega, by rw [z_put_same, pk_us], by rw [z_put_same, pk_us], fun k hk => ?_⟩
        rw [z_put_ne _ _ _ (by decide), z_put_same, z_put_ne _ _ _ (by decide), z_put_same]
        by_cases e : k = n
        · subst e; exact ⟨c, by omega, by rw [pk_us], by rw [pk_us]⟩
        · rw [pk_un e, pk_un e]; exact b3 k (by omega)
      · obtain ⟨n', a, b, c', d⟩ := hR
        exact ⟨n', a, by rw [z_put_ne _ _ _ (by decide), z_put_ne _ _ _ (by decide)]; exact b, by rw [z_put_same, pk_un (by decide), z_put_ne _ _ _ (by decide)]; exact c', fun k hk => by rw [z_put_ne _ _ _ (by decide), z_put_ne _ _ _ (by decide), z_put_ne _ _ _ (by decide), z_put_ne _ _ _ (by decide)]; exact d k hk⟩
      · intro k hk
        rw [z_put_ne _ _ _ (by decide), z_put_ne _ _ _ (by decide), z_put_ne _ _ _ (by decide), z_put_ne _ _ _ (by decide)]
        exact hF k hk
  · rw [if_neg hneg, (e N σ τ).2, z_b_some, if_neg (by decide), if_neg (by decide)]
    exact St_r4 hI
  · rw [if_pos hpos, if_pos hgt, (e N σ τ).2, z_b_some, if_neg (by decide), if_neg (by decide)]
    exact St_r6 hI
/-- a candle's field is set on both sides -/
def setc (h : hS) (i k v : Nat) : hS := (hn h, un (hc h) i (un (hc h i) k v), hd h, hb h, hm h, hu h, hp h, hq h)
theorem IH_setc {h : hS} (hH : IH σ τ h) {i k v : Nat} (hi : i < hn h) (hk : k < 6) (hcv : CV (un (hc h i) k v)) (hl : un (hc h i) k v 5 = 1 → 0 < un (hc h i) k v 2) : IH (z_put σ (6 * 0 + i) k (nI v)) (z_put τ (k + 1) i (nI v)) (setc h i k v) := by
  obtain ⟨hC, hM, v0, v1, v2⟩ := hH
  obtain ⟨v01, v02, v03, v04, v05⟩ := id v0
  obtain ⟨a1, a2, a3, a4, a5, a6, a7, a8⟩ := hC
  obtain ⟨b1, b2, b3, b4, b5, b6, b7, b8⟩ := hM
  refine ⟨⟨?_, ?_, ?_, ?_, ?_, fun i' hi' k' hk' => ?_, fun k' hk' => ?_, fun k' hk' => ?_⟩, ⟨?_, ?_, ?_, ?_, ?_, fun i' hi' k' hk' => ?_, fun k' hk' => ?_, fun k' hk' => ?_⟩, ⟨v01, fun i' hi' => ?_, v03, v04, v05⟩, fun i' hi' => ?_, v2⟩
  · rw [z_put_ne _ _ _ (by omega)]; exact a1
  · rw [z_put_ne _ _ _ (by omega)]; exact a2
  · rw [z_put_ne _ _ _ (by omega)]; exact a3
  · rw [z_put_ne _ _ _ (by omega)]; exact a4
  · rw [z_put_ne _ _ _ (by omega)]; exact a5
  · show _ = nI (un (hc h) i (un (hc h i) k v) i' k')
    have hi'' : i' < hn h := hi'
    by_cases e : i' = i
    · subst e; rw [un_s, z_put_same]
      by_cases e2 : k' = k
      · subst e2; rw [un_s, pk_us]
      · rw [un_n _ _ e2, pk_un e2]; exact a6 i' hi k' hk'
    · rw [un_n _ _ e, z_put_ne _ _ _ (by omega)]; exact a6 i' hi'' k' hk'
  · rw [z_put_ne _ _ _ (by omega)]; exact a7 k' hk'
  · rw [z_put_ne _ _ _ (by omega)]; exact a8 k' hk'
  · rw [z_put_ne _ _ _ (by omega)]; exact b1
  · rw [z_put_ne _ _ _ (by omega)]; exact b2
  · rw [z_put_ne _ _ _ (by omega)]; exact b3
  · rw [z_put_ne _ _ _ (by omega)]; exact b4
  · rw [z_put_ne _ _ _ (by omega)]; exact b5
  · show _ = nI (un (hc h) i (un (hc h i) k v) i' k')
    have hi'' : i' < hn h := hi'
    by_cases e2 : k' = k
    · subst e2
      rw [z_put_same]
      by_cases e : i' = i
      · subst e; rw [un_s, un_s, pk_us]
      · rw [un_n _ _ e, pk_un e]; exact b6 i' hi'' k' hk'
    · rw [z_put_ne _ _ _ (by omega)]
      by_cases e : i' = i
      · subst e; rw [un_s, un_n _ _ e2]; exact b6 i' hi'' k' hk'
      · rw [un_n _ _ e]; exact b6 i' hi'' k' hk'
  · rw [z_put_ne _ _ _ (by omega)]; exact b7 k' hk'
  · rw [z_put_ne _ _ _ (by omega)]; exact b8 k' hk'
  · show CV (un (hc h) i (un (hc h i) k v) i')
    have hi'' : i' < hn h := hi'
    by_cases e : i' = i
    · subst e; rw [un_s]; exact hcv
    · rw [un_n _ _ e]; exact v02 i' hi''
  · show un (hc h) i (un (hc h i) k v) i' 5 = 1 → 0 < un (hc h) i (un (hc h i) k v) i' 2
    have hi'' : i' < hn h := hi'
    by_cases e : i' = i
    · subst e; rw [un_s]; exact hl
    · rw [un_n _ _ e]; exact v1 i' hi''
theorem sC_put {a k : Nat} {v : Int32} (h : a < 12 ∨ a = 18 ∨ a = 19 ∨ a = 24 ∨ a = 25 ∨ a = 27 ∨ a = 28) : sC σ (z_put σ a k v) := by
  refine ⟨z_put_ne _ _ _ (by omega), z_put_ne _ _ _ (by omega), z_put_ne _ _ _ (by omega), z_put_ne _ _ _ (by omega), z_put_ne _ _ _ (by omega), fun b hb => z_put_ne _ _ _ ?_⟩
  unfold hr at hb; omega
theorem sM_put {a k : Nat} {v : Int32} (h : 0 < a ∧ a < 9) : sM τ (z_put τ a k v) := ⟨z_put_ne _ _ _ (by omega), z_put_ne _ _ _ (by omega), z_put_ne _ _ _ (by omega), fun _ _ => by rw [z_put_ne _ _ _ (by omega)], by rw [z_put_ne _ _ _ (by omega)], by rw [z_put_ne _ _ _ (by omega)], by rw [z_put_ne _ _ _ (by omega)]⟩
theorem st_put (hI : zInv σ τ) (v w : Int32) : St (f_X10_put N v w σ) (f_X11_put N v w τ) := by
  obtain ⟨⟨h, hH⟩, hQ⟩ := id hI
  obtain ⟨hC, hM, v0, v1, v2⟩ := id hH
  have h6 := v0.1
  unfold f_X10_put f_X11_put bf_X10_put_15 bf_X11_put_15
  simp only [z_b_id]
  rcases v_cases v (n := hn h) (by omega) with hv | ⟨i, hi, rfl⟩
  · rw [ca_no hC hv, cm_no hM hv, z_b_some, z_b_some, if_pos p00, if_pos p00]
    exact St_r1 hI
  · rw [ca_yes hC h6 hi, cm_yes hM h6 hi, z_b_some, z_b_some, if_neg n10, if_neg n10]
    rcases v_cases w (n := 4) (by decide) with hw | ⟨b, hb, rfl⟩
    · rw [pe_no hw, pm_no hw, z_b_some, z_b_some, if_pos p00, if_pos p00]
      exact St_r1 hI
    · rw [pe_yes hb, pm_yes hb, z_b_some, z_b_some, if_neg n10, if_neg n10, z_in_n (show i < 6 by omega) (by decide)]
      simp only [z_g_t]
      rw [nI_clamp (by omega)]
      obtain ⟨c0, c1, c2, c3, c4, c5⟩ := v0.2.1 i hi
      refine St.of (ok_n (ok_m (ok_ret (ok_n (ok_m (ok_ret ⟨?_, ?_⟩))))))
      · rw [rc_c hC hi (by decide : 4 < 6)]; exact (RM.r hM).1 i hi 4 (by decide)
      · refine zInv.mk (IH_setc hH (k := 4) hi (by decide) ?_ ?_) (hQ.keep (sC_put (by omega)) (sM_put (by omega)))
        · exact ⟨by rw [un_n _ _ (by decide)]; exact c0, by rw [un_n _ _ (by decide)]; exact c1, by rw [un_n _ _ (by decide)]; exact c2, by rw [un_n _ _ (by decide)]; exact c3, by rw [un_s]; exact hb, by rw [un_n _ _ (by decide)]; exact c5⟩
        · rw [un_n _ _ (by decide), un_n _ _ (by decide)]; exact v1 i hi
theorem st_light (hI : zInv σ τ) (v w : Int32) (hw : w = 0 ∨ w = 1) : St (f_X10_light N v w σ) (f_X11_light N v w τ) := by
  obtain ⟨⟨h, hH⟩, hQ⟩ := id hI
  obtain ⟨hC, hM, v0, v1, v2⟩ := id hH
  have h6 := v0.1
  unfold f_X10_light f_X11_light bf_X10_light_42 bf_X11_light_34 bf_X11_light_55
  simp only [z_b_id]
  rcases v_cases v (n := hn h) (by omega) with hv | ⟨i, hi, rfl⟩
  · rw [ca_no hC hv, cm_no hM hv, z_b_some, z_b_some, if_pos p00, if_pos p00]
    exact St_r1 hI
  · obtain ⟨c0, c1, c2, c3, c4, c5⟩ := v0.2.1 i hi
    rw [ca_yes hC h6 hi, cm_yes hM h6 hi, z_b_some, z_b_some, if_neg n10, if_neg n10, z_in_n (show i < 6 by omega) (by decide)]
    simp only [z_g_t]
    rw [nI_clamp (by omega), rc_c hC hi (by decide : 5 < 6), rc_c hC hi (by decide : 2 < 6), (RM.r hM).1 i hi 2 (by decide), (RM.r hM).1 i hi 5 (by decide)]
    have fin : ∀ q : Nat, q < 2 → (q = 1 → 0 < hc h i 2) → St (if nI (hc h i 5) = nI q then some (0, σ) else z_g (z_bo (nI q)) (z_m (z_put σ (6 * 0 + i) 5 (nI q)) (fun t => some (1, t)))) (z_n (nI (hc h i 5)) (fun z => z_m (z_put τ 6 i (nI q)) (fun t => if t 6 i = z then some (0, t) else some (1, t)))) := by
      intro q hq hql
      have hset : zInv (z_put σ (6 * 0 + i) 5 (nI q)) (z_put τ 6 i (nI q)) := by
        refine zInv.mk (IH_setc hH (k := 5) hi (by decide) ?_ ?_) (hQ.keep (sC_put (by omega)) (sM_put (by omega)))
        · exact ⟨by rw [un_n _ _ (by decide)]; exact c0, by rw [un_n _ _ (by decide)]; exact c1, by rw [un_n _ _ (by decide)]; exact c2, by rw [un_n _ _ (by decide)]; exact c3, by rw [un_n _ _ (by decide)]; exact c4, by rw [un_s]; exact hq⟩
        · rw [un_s, un_n _ _ (by decide)]; exact hql
      unfold z_n z_m
      dsimp only
      rw [z_put_same, pk_us, t_eq (by omega) (by omega), t_eq (by omega) (by omega), z_bo_n2 hq, z_g_t]
      by_cases e : hc h i 5 = q
      · rw [if_pos e, if_pos e.symm]
        have es : z_put τ 6 i (nI q) = τ := by
          funext a b
          by_cases ea : a = 6
          · subst ea
            rw [z_put_same]
            by_cases eb : b = i
            · subst eb; rw [pk_us, ← e]; exact ((RM.r hM).1 b hi 5 (by decide)).symm
            · rw [pk_un eb]
          · rw [z_put_ne _ _ _ ea]
        rw [es]
        exact St.ret hI
      · rw [if_neg e, if_neg (fun z => e z.symm)]
        exact St.ret hset
    rcases hw with rfl | rfl
    · simp only [if_pos p00]
      exact fin 0 (by decide) (by omega)
    · simp only [if_neg n10]
      by_cases e : hc h i 2 = 0
      · rw [e, if_pos (show nI 0 = (0 : Int32) from rfl), if_pos (show nI 0 = (0 : Int32) from rfl)]; exact St_r3 hI
      · have hne : ¬ nI (hc h i 2) = (0 : Int32) := fun z => e ((nI_eq (b := 0) (by omega) (by omega)).mp z)
        rw [if_neg hne, if_neg hne]
        exact fin 1 (by decide) (by omega)
end S1
