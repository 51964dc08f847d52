/-! The room where it was cheated, what has dripped, the candle to pour. -/
section S5
variable {σ τ : zS} {N : Nat}
theorem or0 (x : Int32) : x ||| 0 = x := by
  apply Int32.toBitVec_inj.mp
  rw [Int32.toBitVec_or]
  exact BitVec.or_zero
theorem i_max0 {a b : Nat} (ha : a < 2 ^ 30) (hb : b < 2 ^ 30) : (if (0 : Int32) < (nI a - nI b) then (nI a - nI b) else (0 : Int32)) = nI (a - b) := by
  by_cases h : b ≤ a
  · rw [pk_sub h, li0, t_lt (by omega) (by omega)]
    by_cases e : 0 < a - b
    · rw [if_pos e]
    · rw [if_neg e, show a - b = 0 by omega]
  · have h1 := pk_sneg (a := a) hb (by omega)
    rw [if_neg (fun q => Int32.lt_asymm q h1), show a - b = 0 by omega]
    rfl
theorem cheat_in {h : hS} (hM : RM τ h) (hV : V0 h) {a f du da n k : Nat} (ha : a < 4) (hf : f < 10) (hdu : du < 1000) (hda : da < 1000) (hn3 : n ≤ 300) (hk : k < 6) (rec91 : Int32 → Int32 → Int32 → Int32 → Int32 → Int32 → Int32 → zS → zA) (mask : Int32) : ∀ m i, i ≤ n → n - i < m → lf_X11_cheat_104 N rec91 m (nI a) (nI f) (nI du) (nI da) (nI n) mask (nI k) (nI (du - i * rate k f (hd h a))) (nI i) τ = if du - n * rate k f (hd h a) = da then rec91 (nI a) (nI f) (nI du) (nI da) (nI n) (mask ||| ((1 : Int32) <<< (nI k &&& 31))) (nI (k + 1)) τ else rec91 (nI a) (nI f) (nI du) (nI da) (nI n) mask (nI (k + 1)) τ := by
  intro m
  induction m with
  | zero => intro i _ h; omega
  | succ m ih =>
    intro i hi hm
    show bf_X11_cheat_104 N _ _ _ _ _ _ _ _ _ _ _ τ = _
    unfold bf_X11_cheat_104 z_n
    rw [t_le (by omega) (by omega)]
    by_cases e : i = n
    · subst e
      rw [if_pos (Nat.le_refl _), t_eq (by omega) (by omega), or0, li1, nI_add]
    · have hdd := hV.2.2.1 a ha
      rw [if_neg (by omega), z_in_n ha (by decide), z_g_t, nI_clamp (by omega), (RM.r hM).2.1 a ha, e_Mburns hk hf (by omega) hdd, z_b_some, pk_sub (by omega), li1, nI_add]
      rw [show du - i * rate k f (hd h a) - min (rate k f (hd h a)) (du - i * rate k f (hd h a)) = du - (i + 1) * rate k f (hd h a) by rw [Nat.succ_mul]; omega]
      exact ih (i + 1) (by omega) (by omega)
theorem st_cheat (hN : 2000 ≤ N) (hI : zInv σ τ) (v w x y z : Int32) : St (f_X10_cheat N v w x y z σ) (f_X11_cheat N v w x y z τ) := by
  obtain ⟨⟨h, hH⟩, hQ⟩ := id hI
  obtain ⟨hC, hM, v0, v1, v2⟩ := id hH
  unfold f_X10_cheat f_X11_cheat bf_X11_cheat_65 bf_X11_cheat_31 bf_X11_cheat_71 bf_X10_cheat_67 bf_X10_cheat_31
  simp only [z_b_id]
  rcases v_cases v (n := 4) (by decide) with hv | ⟨a, ha, rfl⟩
  · rw [pe_no hv, pm_no hv, z_b_some, z_b_some, if_pos p00, if_pos p00]
    exact St_r1 hI
  · rw [pe_yes ha, pm_yes ha, z_b_some, z_b_some, if_neg n10, if_neg n10]
    simp only [if_neg n40, if_neg n60, if_pos p00]
    refine St.ite (fun _ => St_r4 hI) (fun hw => St.ite (fun _ => St_r4 hI) (fun hx => St.ite (fun _ => St_r4 hI) (fun hy => St.ite (fun hz => ?_) (fun _ => St_r4 hI))))
    refine St.ite (fun _ => St_r6 hI) (fun hw9 => St.ite (fun _ => St_r6 hI) (fun hx9 => St.ite (fun _ => St_r6 hI) (fun hy9 => St.ite (fun hz9 => ?_) (fun _ => St_r6 hI))))
    obtain ⟨f, hf, rfl⟩ := nI_of2 (n := 9) (M := 9) (by decide) hw (Int32.not_lt.mp hw9)
    obtain ⟨du, hdu, rfl⟩ := nI_of2 (n := 999) (M := 999) (by decide) hx (Int32.not_lt.mp hx9)
    obtain ⟨da, hda, rfl⟩ := nI_of2 (n := 999) (M := 999) (by decide) hy (Int32.not_lt.mp hy9)
    obtain ⟨n, hn3, rfl⟩ := nI_of2 (n := 300) (M := 300) (by decide) (Int32.not_lt.mpr hz) hz9
    have hdd := v0.2.2.1 a ha
    have key : ∀ m k (mask : Int32), k ≤ 6 → 6 - k < m → ∃ r : Int32, lf_X10_cheat_80 N m (nI a) (nI f) (nI du) (nI da) (nI n) mask (nI k) σ = some (r, σ) ∧ lf_X11_cheat_91 N m (nI a) (nI f) (nI du) (nI da) (nI n) mask (nI k) τ = some (r, τ) := by
      intro m
      induction m with
      | zero => intro k _ _ h; omega
      | succ m ih =>
        intro k mask hk hm
        show ∃ r : Int32, bf_X10_cheat_80 N _ _ _ _ _ _ _ _ σ = _ ∧ bf_X11_cheat_91 N _ _ _ _ _ _ _ _ τ = _
        unfold bf_X10_cheat_80 bf_X11_cheat_91
        rw [li6, t_le (by omega) (by omega), t_le (by omega) (by omega)]
        by_cases e : k = 6
        · rw [if_pos (by omega), if_pos (by omega)]; exact ⟨_, rfl, rfl⟩
        · have hk6 : k < 6 := by omega
          have hr := rate_pos k hk6 f (by omega) _ hdd
          have hnr : n * rate k f (hd h a) ≤ 300 * 15 := Nat.mul_le_mul hn3 hr.2
          have e0 := cheat_in (N := N) hM v0 ha (by omega : f < 10) (by omega : du < 1000) (by omega : da < 1000) hn3 hk6 (lf_X11_cheat_91 N m) mask N 0 (Nat.zero_le _) (by omega)
          rw [Nat.zero_mul, Nat.sub_zero] at e0
          rw [if_neg (by omega), if_neg (by omega), show lf_X11_cheat_104 N (lf_X11_cheat_91 N m) N (nI a) (nI f) (nI du) (nI da) (nI n) mask (nI k) (nI du) 0 τ = _ from e0]
          rw [z_in_n hk6 (by decide), z_in_n ha (by decide), z_g_t, z_g_t, nI_clamp (by omega), nI_clamp (by omega), rc_d hC ha, e_rate N hk6 (by omega) hdd, z_b_some, pk_mul, i_max0 (by omega) (by omega), t_eq (by omega) (by omega)]
          unfold z_n
          rw [li1, nI_add, ← li1]
          by_cases q : du - n * rate k f (hd h a) = da
          · rw [if_pos q, if_pos q]; exact ih (k + 1) _ (by omega) (by omega)
          · rw [if_neg q, if_neg q]; exact ih (k + 1) _ (by omega) (by omega)
    obtain ⟨r, e1, e2⟩ := key N 0 0 (by omega) (by omega)
    rw [show lf_X10_cheat_80 N N (nI a) (nI f) (nI du) (nI da) (nI n) 0 0 σ = _ from e1, show lf_X11_cheat_91 N N (nI a) (nI f) (nI du) (nI da) (nI n) 0 0 τ = _ from e2]
    exact St.ret hI
theorem st_dripped (hN : 2000 ≤ N) (hI : zInv σ τ) (v w x y : Int32) : St (f_X10_dripped N v w x y σ) (f_X11_dripped N v w x y τ) := by
  obtain ⟨⟨h, hH⟩, hQ⟩ := id hI
  obtain ⟨hC, hM, v0, v1, v2⟩ := id hH
  have h6 := v0.1
  unfold f_X10_dripped f_X11_dripped bf_X10_dripped_15 bf_X11_dripped_15 bf_X10_dripped_39
  simp only [z_b_id]
  rcases v_cases v (n := hn h) (by omega) with hv | ⟨i, hi, rfl⟩
  · rw [ca_no hC hv, cm_no hM hv, z_b_some, z_b_some, if_pos p00, if_pos p00]
    exact St_r1 hI
  · rw [ca_yes hC h6 hi, cm_yes hM h6 hi, z_b_some, z_b_some, if_neg n10, if_neg n10]
    rcases v_cases w (n := 4) (by decide) with hw | ⟨b, hb, rfl⟩
    · rw [pe_no hw, pm_no hw, z_b_some, z_b_some, if_pos p00, if_pos p00]
      exact St_r1 hI
    · rw [pe_yes hb, pm_yes hb, z_b_some, z_b_some, if_neg n10, if_neg n10]
      obtain ⟨c0, c1, c2, c3, c4, c5⟩ := v0.2.1 i hi
      have hdd := v0.2.2.1 b hb
      have main : St (if (0 : Int32) ≤ x then z_g (z_in (nI i) 6) (z_g (z_in (nI b) 4) (z_n (σ (24 + 0) (nI b).toNatClampNeg) (fun z_16 => z_n (σ (6 * 0 + (nI i).toNatClampNeg) 2) (fun z_17 => lf_X10_dripped_92 N N x y (6 * 0 + (nI i).toNatClampNeg) z_16 z_17 0 0 (-9) 0 σ)))) else f_X10_refuse N (-4) σ) (if (0 : Int32) ≤ x then z_g (z_in (nI i) 6) (z_n (τ 3 (nI i).toNatClampNeg) (fun z_23 => lf_X11_dripped_70 N N (nI i) (nI b) x y z_23 0 0 (-9) 0 τ)) else f_X11_no N (-4) τ) := by
        refine St.ite (fun _ => ?_) (fun _ => St_r4 hI)
        unfold z_n
        rw [z_in_n (show i < 6 by omega) (by decide), z_in_n hb (by decide), z_g_t, z_g_t, z_g_t, nI_clamp (by omega), nI_clamp (by omega), rc_d hC hb, rc_c hC hi (by decide : 2 < 6), (RM.r hM).1 i hi 2 (by decide)]
        have key : ∀ m k g (s t u : Int32) (q : Nat), k ≤ 100 → 100 - k < m → q ≤ k → t = nI q → g < 1000 → ∃ r : Int32, lf_X10_dripped_92 N m x y (6 * 0 + i) (nI (hd h b)) (nI g) s t u (nI k) σ = some (r, σ) ∧ lf_X11_dripped_70 N m (nI i) (nI b) x y (nI g) s t u (nI k) τ = some (r, τ) := by
          intro m
          induction m with
          | zero => intro k _ _ _ _ _ _ h; omega
          | succ m ih =>
            intro k g s t u q hk hm hq ht hg
            show ∃ r : Int32, bf_X10_dripped_92 N _ _ _ _ _ _ _ _ _ _ σ = _ ∧ bf_X11_dripped_70 N _ _ _ _ _ _ _ _ _ _ τ = _
            unfold bf_X10_dripped_92 bf_X11_dripped_70 bf_X10_dripped_121 bf_X11_dripped_95
            rw [show (99 : Int32) = nI 99 from rfl, show (100 : Int32) = nI 100 from rfl, t_lt (by omega) (by omega), t_le (by omega) (by omega)]
            by_cases e : k = 100
            · rw [if_pos (show 99 < k by omega), if_pos (show 100 ≤ k by omega)]
              by_cases ey : y = 0
              · rw [if_pos ey, if_pos ey]; exact ⟨_, rfl, rfl⟩
              · rw [if_neg ey, if_neg ey]; exact ⟨_, rfl, rfl⟩
            · have hr := rate_pos _ c0 _ c1 _ hdd
              have step : ∀ (t u : Int32) (q : Nat), q ≤ k + 1 → t = nI q → ∃ r : Int32, bf_X10_dripped_123 N (lf_X10_dripped_92 N m) x y (6 * 0 + i) (nI (hd h b)) (nI g) s t u (nI k) σ = some (r, σ) ∧ bf_X11_dripped_100 N (lf_X11_dripped_70 N m) (nI i) (nI b) x y (nI g) s t u (nI k) τ = some (r, τ) := by
                intro t u q hq ht
                unfold bf_X10_dripped_123 bf_X11_dripped_100 z_n
                rw [rc_c hC hi (by decide : 0 < 6), rc_c hC hi (by decide : 1 < 6), z_in_n c0 (by decide), z_g_t, nI_clamp (by omega), e_rate N c0 c1 hdd, z_b_some]
                dsimp only
                rw [i_min (by omega) (by omega), rc_c hC hi (by decide : 0 < 6), rc_c hC hi (by decide : 1 < 6), z_in_n c0 (by decide), z_g_t, nI_clamp (by omega), e_drips N c0 c1 (by omega) hdd, z_b_some, pk_sub (by omega), li1, nI_add]
                rw [z_in_n (show i < 6 by omega) (by decide), z_in_n hb (by decide)]
                simp only [z_g_t]
                rw [nI_clamp (by omega), nI_clamp (by omega), (RM.r hM).1 i hi 0 (by decide), (RM.r hM).1 i hi 1 (by decide), (RM.r hM).2.1 b hb, e_Mburns c0 c1 hg hdd, z_b_some, (RM.r hM).1 i hi 0 (by decide), (RM.r hM).1 i hi 1 (by decide), (RM.r hM).2.1 b hb, e_Mdrips c0 c1 (by omega) hdd, z_b_some, pk_sub (by omega)]
                exact ih (k + 1) _ _ _ _ q (by omega) (by omega) hq ht (by omega)
              rw [if_neg (show ¬ 99 < k by omega), if_neg (show ¬ 100 ≤ k by omega)]
              by_cases es : s = x
              · rw [if_pos es, if_pos es, ht, li1, nI_add, li0, t_eq (by omega) (by omega), t_eq (by omega) (by omega)]
                by_cases eq0 : q = 0
                · rw [if_pos (by omega), if_pos eq0]; exact step _ _ (q + 1) (by omega) rfl
                · rw [if_neg (by omega), if_neg eq0]; exact step _ _ (q + 1) (by omega) rfl
              · rw [if_neg es, if_neg es]; exact step t u q (by omega) ht
        obtain ⟨r, e1, e2⟩ := key N 0 (hc h i 2) 0 0 (-9) 0 (by omega) (by omega) (by omega) rfl c2
        exact ⟨r, σ, τ, e1, e2, hI⟩
      unfold f_X11_isIn
      by_cases y0 : y = 0
      · rw [if_pos y0, if_neg (show ¬ y < 0 by rw [y0]; decide), if_neg (show ¬ 1 < y by rw [y0]; decide), z_b_some, if_neg n10]
        exact main
      · rw [if_neg y0]
        by_cases y1 : y = 1
        · rw [if_pos y1, if_neg (show ¬ y < 0 by rw [y1]; decide), if_neg (show ¬ 1 < y by rw [y1]; decide), z_b_some, if_neg n10]
          exact main
        · rw [if_neg y1]
          by_cases yn : y < 0
          · rw [if_pos yn, z_b_some, if_pos p00]; exact St_r2 hI
          · by_cases yp : 1 < y
            · rw [if_neg yn, if_pos yp, z_b_some, if_pos p00]; exact St_r2 hI
            · exfalso
              obtain ⟨j, hj, e⟩ := nI_of2 (n := 1) (M := 1) (by decide) yn (Int32.not_lt.mp yp)
              rcases (show j = 0 ∨ j = 1 by omega) with rfl | rfl
              · exact y0 e
              · exact y1 e
end S5
