/-! The best rooms: the class. -/
section S9b
variable {σ τ : zS} {N : Nat}
theorem e_worthIn {h : hS} (hN : 30 ≤ N) (hC : RC σ 0 h) (hV : V0 h) {i r n : Nat} (hi : i < hn h) (hr : r < 4) (hn2 : n ≤ 20) : f_X9_worthIn N 0 (nI i) (nI r) (nI n) σ = some (nI (bW h n i r), σ) := by
  have h6 := hV.1
  obtain ⟨c0, c1, c2, c3, c4, c5⟩ := hV.2.1 i hi
  have hdd := hV.2.2.1 r hr
  have hrt := bRt_p hV hi hr
  unfold f_X9_worthIn z_n
  rw [z_in_n (show i < 6 by omega) (by decide), z_g_t, nI_clamp (show i < 2 ^ 31 by omega), rc_c hC hi (by decide : 0 < 6), z_in_n c0 (by decide), z_g_t, z_in_n hr (by decide), z_g_t, nI_clamp (show r < 2 ^ 31 by omega), rc_d hC hr, nI_clamp (show hc h i 0 < 2 ^ 31 by omega), rc_c hC hi (by decide : 1 < 6)]
  dsimp only
  rw [e_rate N c0 c1 hdd, z_b_some, rc_c hC hi (by decide : 2 < 6)]
  have key : ∀ m k, k ≤ n → n - k < m → lf_X9_worthIn_55 N m (nI n) (6 * 0 + i) (hc h i 0) (nI (hd h r)) (nI (bRt h i r)) (nI (hc h i 2 - k * bRt h i r)) (nI (bW h k i r)) (nI k) σ = some (nI (bW h n i r), σ) := by
    intro m
    induction m with
    | zero => intro k _ h; omega
    | succ m ih =>
      intro k hk hm
      show bf_X9_worthIn_55 N _ _ _ _ _ _ _ _ _ σ = _
      unfold bf_X9_worthIn_55 z_n
      rw [t_le (by omega) (by omega)]
      by_cases e : k = n
      · subst e; rw [if_pos (Nat.le_refl _)]
      · rw [if_neg (by omega), li0, t_le (by omega) (by omega)]
        by_cases e2 : hc h i 2 - k * bRt h i r ≤ 0
        · rw [if_pos e2, bW_off (k := k) (by omega) n hk]
        · rw [if_neg e2, i_min (by omega) (by omega), rc_c hC hi (by decide : 1 < 6)]
          dsimp only
          rw [e_worth N c0 c1 (by omega) hdd, z_b_some, pk_sub (by omega), nI_add, li1, nI_add]
          have := ih (k + 1) (by omega) (by omega)
          rw [Nat.succ_mul k] at this
          rw [show hc h i 2 - k * bRt h i r - min (bRt h i r) (hc h i 2 - k * bRt h i r) = hc h i 2 - (k * bRt h i r + bRt h i r) by omega]
          exact this
  have k0 := key N 0 (by omega) (by omega)
  rw [Nat.zero_mul, Nat.sub_zero] at k0
  exact k0
/-- weighed: the candles from i on -/
def WG (h : hS) (n i : Nat) (σ : zS) : Prop := (∀ q, i ≤ q → q < hn h → ∀ r, r < 4 → σ 42 (4 * q + r) = nI (bW h n q r)) ∧ ∀ c, i ≤ c → c ≤ hn h → σ 43 c = nI (bMp h n (hn h - c))
theorem e_weigh {h : hS} (hN : 30 ≤ N) (hC : RC σ 0 h) (hV : V0 h) {i n : Nat} (hi : i < hn h) (hn2 : n ≤ 20) (hW : WG h n (i + 1) σ) : ok (f_X9_weigh N 0 (nI i) (nI n) σ) (fun _ s => WG h n i s ∧ ∀ a, a ≠ 42 → a ≠ 43 → s a = σ a) := by
  have h6 := hV.1
  unfold f_X9_weigh
  have hmx : ∀ r, r ≤ 4 → bMx (bW h n i) r ≤ 640 := fun r hr => bMx_b (fun q hq => by have := bW_le hV hi (show q < 4 by omega) n; omega)
  refine loop_i (W := fun m r s => ok (lf_X9_weigh_6 N m 0 (nI i) (nI n) (nI (bMx (bW h n i) r)) (nI r) s) (fun _ s => WG h n i s ∧ ∀ a, a ≠ 42 → a ≠ 43 → s a = σ a)) (I := fun r s => WG h n (i + 1) s ∧ (∀ q, q < r → s 42 (4 * i + q) = nI (bW h n i q)) ∧ ∀ a, a ≠ 42 → a ≠ 43 → s a = σ a) 4 ?_ ?_ N 0 σ (by omega) (by omega) ⟨hW, fun q hq => by omega, fun _ _ _ => rfl⟩
  · intro m s ⟨p1, p2, p3⟩
    show ok (bf_X9_weigh_6 N _ _ _ _ _ _ s) _
    unfold bf_X9_weigh_6
    refine ok_t (by decide) ?_
    rw [li1, nI_add]
    refine ok_g (z_in_n (show i + 1 < 7 by omega) (by decide)) (ok_g (z_in_n (show i < 7 by omega) (by decide)) ?_)
    rw [nI_clamp (by omega), nI_clamp (by omega), p1.2 (i + 1) (Nat.le_refl _) (by omega), nI_add]
    refine ok_m (ok_ret ⟨⟨fun q h1 h2 r hr => ?_, fun c h1 h2 => ?_⟩, fun a h1 h2 => by rw [z_put_ne _ _ _ h2]; exact p3 a h1 h2⟩)
    · rw [z_put_ne _ _ _ (by decide)]
      by_cases e : q = i
      · subst e; exact p2 r hr
      · exact p1.1 q (by omega) h2 r hr
    · rw [z_put_same]
      by_cases e : c = i
      · subst e
        rw [pk_us, show hn h - c = (hn h - (c + 1)) + 1 by omega]
        show _ = nI (bMp h n (hn h - (c + 1)) + bMx (bW h n (hn h - 1 - (hn h - (c + 1)))) 4)
        rw [show hn h - 1 - (hn h - (c + 1)) = c by omega]
      · rw [pk_un e]; exact p1.2 c (by omega) h2
  · intro m r s hr4 ⟨p1, p2, p3⟩ ih
    show ok (bf_X9_weigh_6 N _ _ _ _ _ _ s) _
    unfold bf_X9_weigh_6
    have hCs : RC s 0 h := hC.frame h6 (fun a ha => p3 a (by unfold hr at ha; omega) (by unfold hr at ha; omega))
    have hw := bW_le hV hi hr4 n
    have hm4 := hmx r (by omega)
    rw [li4, t_le (by omega) (by omega), e_worthIn hN hCs hV hi hr4 hn2, z_b_some, e_pair, z_b_some]
    refine ok_f (by omega) (ok_g (z_in_n (show 4 * i + r < 24 by omega) (by decide)) (ok_m (ok_n ?_)))
    rw [nI_clamp (by omega), i_max (by omega) (by omega), li1, nI_add]
    refine ih _ ⟨⟨fun q h1 h2 r' hr' => ?_, fun c h1 h2 => ?_⟩, fun q hq => ?_, fun a h1 h2 => by rw [z_put_ne _ _ _ h1]; exact p3 a h1 h2⟩
    · rw [z_put_same, pk_un (by omega)]; exact p1.1 q h1 h2 r' hr'
    · rw [z_put_ne _ _ _ (by decide)]; exact p1.2 c h1 h2
    · rw [z_put_same]
      by_cases e : q = r
      · subst e; rw [pk_us]
      · rw [pk_un (by omega)]; exact p2 q (by omega)
theorem i_slt {a b c : Nat} (ha : a < 2 ^ 29) (hb : b < 2 ^ 29) (hc : c < 2 ^ 29) : (nI a - nI b < nI c) = (a < c + b) := by
  apply propext
  rw [Int32.lt_iff_toInt_lt, pk_sub_toInt (by omega) (by omega), nI_toInt (by omega)]
  omega
/-- in the middle of the search: σ0 the numbers before it -/
def TP (h : hS) (n c base L V : Nat) (σ0 σ : zS) : Prop := (∀ a, a ≠ 40 → a ≠ 41 → a ≠ 44 → a ≠ 45 → σ a = σ0 a) ∧ (∀ d, d < 16 → σ 41 d = nI (bD h n c base d)) ∧ (∀ i, i < c → σ 44 i = nI (bDg c base i)) ∧ σ 40 5 = nI L ∧ L ≤ sm (hb h) 16 + 1 ∧ (L ≤ sm (hb h) 16 → ∀ i, i < hn h → σ 45 i = nI (bDg (hn h) V i))
theorem bU_le (h : hS) (n : Nat) (st : Nat × Nat) (v : Nat) : (bU h n st v).1 ≤ st.1 := by
  unfold bU
  split
  · exact Nat.le_of_lt ‹_›
  · exact Nat.le_refl _
theorem e_try {h : hS} {n : Nat} {σ0 : zS} (hN : 30 ≤ N) (hC : RC σ0 0 h) (hV : V0 h) (hn2 : n ≤ 20) (hW : WG h n 0 σ0) : ∀ k dr c base L V σ, c + k = hn h → k < dr → TP h n c base L V σ0 σ → ok (f_X9_tryRooms N dr 0 (nI c) (nI (sm (bD h n c base) 16)) σ) (fun _ s => TP h n c base (bSc h n k base (L, V)).1 (bSc h n k base (L, V)).2 σ0 s) := by
  have h6 := hV.1
  have hC0 : ∀ s : zS, (∀ a, a ≠ 40 → a ≠ 41 → a ≠ 44 → a ≠ 45 → s a = σ0 a) → RC s 0 h := fun s hs => hC.frame h6 (fun a ha => hs a (by unfold hr at ha; omega) (by unfold hr at ha; omega) (by unfold hr at ha; omega) (by unfold hr at ha; omega))
  intro k
  induction k with
  | zero =>
    intro dr c base L V σ hck hdr hT
    obtain ⟨dr, rfl⟩ : ∃ x, dr = x + 1 := ⟨dr - 1, by omega⟩
    obtain ⟨t1, t2, t3, t4, t5, t6⟩ := id hT
    have hcn : c = hn h := by omega
    have hs1 := bSum_lt hV n c base
    have hCs := hC0 σ t1
    show ok (bf_X9_tryRooms_e N _ _ _ _ σ) _
    unfold bf_X9_tryRooms_e
    rw [hCs.1, t_lt (by omega) (by omega), nI_clamp (show c < 2 ^ 31 by omega), t1 43 (by decide) (by decide) (by decide) (by decide), hW.2 c (by omega) (by omega), t4]
    refine ok_f (by omega) (ok_g (z_in_n (show c < 7 by omega) (by decide)) ?_)
    rw [show hn h - c = 0 by omega]
    show ok _ (fun _ s => TP h n c base (bU h n (L, V) base).1 (bU h n (L, V) base).2 σ0 s)
    have hz : bMp h n 0 = 0 := rfl
    have eS : bS h n base = sm (bD h n c base) 16 := by unfold bS; rw [hcn]
    unfold bU
    refine ok_if (fun hlt => ?_) (fun hlt => ?_)
    · rw [hz, i_slt (by omega) (by omega) (by omega)] at hlt
      rw [if_pos (show bS h n base < (L, V).1 by rw [eS]; exact hlt)]
      refine ok_t (by rw [hcn]) (ok_m (ok_m (ok_ret ?_)))
      refine ⟨fun a h1 h2 h3 h4 => ?_, fun d hd => ?_, fun i hi => ?_, ?_, ?_, fun _ i hi => ?_⟩
      · rw [z_row_ne _ _ h4, z_put_ne _ _ _ h1]; exact t1 a h1 h2 h3 h4
      · rw [z_row_ne _ _ (by decide), z_put_ne _ _ _ (by decide)]; exact t2 d hd
      · rw [z_row_ne _ _ (by decide), z_put_ne _ _ _ (by decide)]; exact t3 i hi
      · rw [z_row_ne _ _ (by decide), z_put_same, pk_us, eS]
      · show bS h n base ≤ _; omega
      · rw [z_row_same, z_put_ne _ _ _ (by decide), z_put_ne _ _ _ (by decide)]
        rw [show (0 : Int32).toNatClampNeg = 0 from rfl, show (6 : Int32).toNatClampNeg = 6 from rfl, pk_cpy_in (by omega) (by omega), show 0 + (i - 0) = i by omega]
        show σ 44 i = nI (bDg (hn h) base i)
        rw [t3 i (by omega), hcn]
    · rw [hz, i_slt (by omega) (by omega) (by omega)] at hlt
      rw [if_neg (show ¬ bS h n base < (L, V).1 by rw [eS]; exact hlt)]
      exact ok_ret hT
  | succ k ihk =>
    intro dr c base L V σ hck hdr hT
    obtain ⟨dr, rfl⟩ : ∃ x, dr = x + 1 := ⟨dr - 1, by omega⟩
    obtain ⟨t1, t2, t3, t4, t5, t6⟩ := id hT
    have hcn : c < hn h := by omega
    have hs1 := bSum_lt hV n c base
    have hCs := hC0 σ t1
    have hmp := bMp_b hV n (k + 1) (by omega)
    have hmp2 : (k + 1) * (32 * n) ≤ 6 * (32 * 20) := Nat.mul_le_mul (by omega) (by omega)
    obtain ⟨c0, c1, c2, c3, c4, c5⟩ := hV.2.1 c hcn
    show ok (bf_X9_tryRooms_e N _ _ _ _ σ) _
    unfold bf_X9_tryRooms_e
    rw [hCs.1, t_lt (by omega) (by omega), nI_clamp (show c < 2 ^ 31 by omega), t1 43 (by decide) (by decide) (by decide) (by decide), hW.2 c (by omega) (by omega), t4, t_eq (by omega) (by omega), rc_c hCs hcn (by decide : 3 < 6)]
    refine ok_f (by omega) (ok_g (z_in_n (show c < 7 by omega) (by decide)) ?_)
    rw [show hn h - c = k + 1 by omega]
    refine ok_if (fun hlt => ?_) (fun hlt => ?_)
    · refine ok_f (by omega) (ok_g (z_in_n (show c < 6 by omega) (by decide)) (ok_n ?_))
      -- the rooms
      have step : ∀ r, r < 4 → ∀ m L V s (P : Int32 → zS → Prop), TP h n c base L V σ0 s → (∀ s', TP h n c base (bSc h n k (4 * base + r) (L, V)).1 (bSc h n k (4 * base + r) (L, V)).2 σ0 s' → ok (lf_X9_tryRooms_67 N (f_X9_tryRooms N dr) m 0 (nI c) (nI (sm (bD h n c base) 16)) (nI (hc h c 3)) (nI (r + 1)) s') P) → ok (lf_X9_tryRooms_67 N (f_X9_tryRooms N dr) (m + 1) 0 (nI c) (nI (sm (bD h n c base) 16)) (nI (hc h c 3)) (nI r) s) P := by
        intro r hr4 m L V s P hT hK
        obtain ⟨t1, t2, t3, t4, t5, t6⟩ := id hT
        have hx : 4 * hc h c 3 + r < 16 := by omega
        have hDx := bD_le h n c base (4 * hc h c 3 + r)
        have hBx := hV.2.2.2.1 _ hx
        have hWx := bW_le hV hcn hr4 n
        show ok (bf_X9_tryRooms_67 N _ _ _ _ _ _ _ s) _
        unfold bf_X9_tryRooms_67
        rw [li4, t_le (by omega) (by omega)]
        refine ok_f (by omega) ?_
        simp only [e_pair, z_b_some, z_in_n hx (by decide), z_in_n (show 4 * c + r < 24 by omega) (by decide), z_in_n (show c < 6 by omega) (by decide), z_g_t]
        rw [nI_clamp (show 4 * hc h c 3 + r < 2 ^ 31 by omega), nI_clamp (show 4 * c + r < 2 ^ 31 by omega), nI_clamp (show c < 2 ^ 31 by omega), t2 _ hx, t1 42 (by decide) (by decide) (by decide) (by decide), hW.1 c (by omega) hcn r hr4, i_min (by omega) (by omega)]
        refine ok_n (ok_m (ok_m ?_))
        have hsm := sm_un (f := bD h n c base) (x := 4 * hc h c 3 + r) (v := bD h n c base (4 * hc h c 3 + r) - bW h n c r) 16 hx
        rw [← bD_s hr4] at hsm
        rw [z_put_ne _ _ _ (show (41 : Nat) ≠ 44 by decide), t2 _ hx, pk_sub (by omega), pk_sub (by omega), li1, nI_add, nI_add, show sm (bD h n c base) 16 - min (bD h n c base (4 * hc h c 3 + r)) (bW h n c r) = sm (bD h n (c + 1) (4 * base + r)) 16 by omega]
        have hT1 : TP h n (c + 1) (4 * base + r) L V σ0 (z_put (z_put s 44 c (nI r)) 41 (4 * hc h c 3 + r) (nI (bD h n c base (4 * hc h c 3 + r) - min (bD h n c base (4 * hc h c 3 + r)) (bW h n c r)))) := by
          refine ⟨fun a h1 h2 h3 h4 => ?_, fun d hd => ?_, fun i hi => ?_, ?_, t5, fun hl i hi => ?_⟩
          · rw [z_put_ne _ _ _ h2, z_put_ne _ _ _ h3]; exact t1 a h1 h2 h3 h4
          · rw [z_put_same, bD_s hr4]
            by_cases e : d = 4 * hc h c 3 + r
            · rw [e, pk_us, un_s, show bD h n c base (4 * hc h c 3 + r) - min (bD h n c base (4 * hc h c 3 + r)) (bW h n c r) = bD h n c base (4 * hc h c 3 + r) - bW h n c r by omega]
            · rw [pk_un e, un_n _ _ e, z_put_ne _ _ _ (by decide)]; exact t2 d hd
          · rw [z_put_ne _ _ _ (by decide), z_put_same]
            by_cases e : i = c
            · subst e; rw [pk_us, bDg_l hr4]
            · rw [pk_un e, bDg_s (by omega) hr4]; exact t3 i (by omega)
          · rw [z_put_ne _ _ _ (by decide), z_put_ne _ _ _ (by decide)]; exact t4
          · rw [z_put_ne _ _ _ (by decide), z_put_ne _ _ _ (by decide)]; exact t6 hl i hi
        refine ok_bm (ihk dr (c + 1) (4 * base + r) L V _ (by omega) (by omega) hT1) (fun _ s1 hs1 => ok_m (hK _ ?_))
        obtain ⟨u1, u2, u3, u4, u5, u6⟩ := hs1
        refine ⟨fun a h1 h2 h3 h4 => ?_, fun d hd => ?_, fun i hi => ?_, ?_, u5, fun hl i hi => ?_⟩
        · rw [z_put_ne _ _ _ h2]; exact u1 a h1 h2 h3 h4
        · rw [z_put_same, u2 _ hx, nI_add]
          by_cases e : d = 4 * hc h c 3 + r
          · rw [e, pk_us, bD_s hr4, un_s, show bD h n c base (4 * hc h c 3 + r) - bW h n c r + min (bD h n c base (4 * hc h c 3 + r)) (bW h n c r) = bD h n c base (4 * hc h c 3 + r) by omega]
          · rw [pk_un e, u2 d hd, bD_s hr4, un_n _ _ e]
        · rw [z_put_ne _ _ _ (by decide), u3 i (by omega), bDg_s hi hr4]
        · rw [z_put_ne _ _ _ (by decide)]; exact u4
        · rw [z_put_ne _ _ _ (by decide)]; exact u6 hl i hi
      obtain ⟨M, rfl⟩ : ∃ M, N = M + 30 := ⟨N - 30, by omega⟩
      show ok (lf_X9_tryRooms_67 (M + 30) (f_X9_tryRooms (M + 30) dr) (M + 30) 0 (nI c) (nI (sm (bD h n c base) 16)) (nI (hc h c 3)) (nI 0) σ) _
      refine step 0 (by decide) _ L V σ _ hT (fun s1 T1 => ?_)
      refine step 1 (by decide) _ _ _ s1 _ T1 (fun s2 T2 => ?_)
      refine step 2 (by decide) _ _ _ s2 _ T2 (fun s3 T3 => ?_)
      refine step 3 (by decide) _ _ _ s3 _ T3 (fun s4 T4 => ?_)
      show ok (bf_X9_tryRooms_67 _ _ _ _ _ _ _ _ s4) _
      unfold bf_X9_tryRooms_67
      exact ok_t (by decide) (ok_ret T4)
    · rw [i_slt (by omega) (by omega) (by omega)] at hlt
      rw [bSc_no hV (k + 1) c base L V hck (by omega)]
      exact ok_ret hT
theorem e_find {h : hS} {n : Nat} (hN : 30 ≤ N) (hC : RC σ 0 h) (hV : V0 h) (hn2 : n ≤ 20) : ok (f_X9_find N 0 (nI n) σ) (fun _ s => TP h n 0 0 (bSc h n (hn h) 0 (sm (hb h) 16 + 1, 0)).1 (bSc h n (hn h) 0 (sm (hb h) 16 + 1, 0)).2 s s ∧ ∀ a, (a < 40 ∨ 45 < a) → s a = σ a) := by
  have h6 := hV.1
  have hst := (bSum_lt hV n 0 0).2
  unfold f_X9_find
  refine ok_m ?_
  generalize hs1 : z_row σ 41 (va_cpy (σ (27 + 0)) (σ 41) (0 : Int32).toNatClampNeg (0 : Int32).toNatClampNeg (16 : Int32).toNatClampNeg) = s1
  have f1 : ∀ a, (a < 40 ∨ 45 < a) → s1 a = σ a := fun a ha => by rw [← hs1, z_row_ne _ _ (by omega)]
  have f2 : ∀ d, d < 16 → s1 41 d = nI (hb h d) := fun d hd => by
    rw [← hs1, z_row_same, show (0 : Int32).toNatClampNeg = 0 from rfl, show (16 : Int32).toNatClampNeg = 16 from rfl, pk_cpy_in (by omega) (by omega), show 0 + (d - 0) = d by omega]
    exact rc_b hC hd
  have hC1 : RC s1 0 h := hC.frame h6 (fun a ha => f1 a (by unfold hr at ha; omega))
  rw [hC1.1]
  refine ok_g (z_in_n (show hn h < 7 by omega) (by decide)) (ok_m ?_)
  rw [nI_clamp (by omega)]
  generalize hs2 : z_put s1 43 (hn h) 0 = s2
  have f3 : ∀ a, (a < 40 ∨ 45 < a) → s2 a = σ a := fun a ha => by rw [← hs2, z_put_ne _ _ _ (by omega)]; exact f1 a ha
  have f4 : ∀ d, d < 16 → s2 41 d = nI (hb h d) := fun d hd => by rw [← hs2, z_put_ne _ _ _ (by omega)]; exact f2 d hd
  have hC2 : RC s2 0 h := hC.frame h6 (fun a ha => f3 a (by unfold hr at ha; omega))
  have hW2 : WG h n (hn h) s2 := ⟨fun q h1 h2 => by omega, fun c h1 h2 => by rw [show c = hn h by omega, ← hs2, z_put_same, pk_us, Nat.sub_self]; rfl⟩
  rw [hC2.1]
  refine ok_n ?_
  have key : ∀ i m s, i ≤ hn h → i < m → WG h n i s → (∀ a, (a < 40 ∨ 45 < a) → s a = σ a) → (∀ d, d < 16 → s 41 d = nI (hb h d)) → ok (lf_X9_find_35 N m 0 (nI n) (nI i - 1) s) (fun _ s => TP h n 0 0 (bSc h n (hn h) 0 (sm (hb h) 16 + 1, 0)).1 (bSc h n (hn h) 0 (sm (hb h) 16 + 1, 0)).2 s s ∧ ∀ a, (a < 40 ∨ 45 < a) → s a = σ a) := by
    intro i
    induction i with
    | zero =>
      intro m s hi hm hW hf h41
      obtain ⟨m, rfl⟩ : ∃ x, m = x + 1 := ⟨m - 1, by omega⟩
      show ok (bf_X9_find_35 N _ _ _ _ s) _
      unfold bf_X9_find_35
      have hCs : RC s 0 h := hC.frame h6 (fun a ha => hf a (by unfold hr at ha; omega))
      refine ok_t (by decide) ?_
      rw [e_allDebts (by omega) hCs, z_b_some]
      refine ok_m ?_
      generalize hs3 : z_put s 40 5 (nI (sm (hb h) 16) + 1) = s3
      have e3 : ∀ a, a ≠ 40 → s3 a = s a := fun a ha => by rw [← hs3, z_put_ne _ _ _ ha]
      have hC3 : RC s3 0 h := hCs.frame h6 (fun a ha => e3 a (by unfold hr at ha; omega))
      have hW3 : WG h n 0 s3 := ⟨fun q h1 h2 r hr4 => by rw [e3 42 (by decide)]; exact hW.1 q h1 h2 r hr4, fun c h1 h2 => by rw [e3 43 (by decide)]; exact hW.2 c h1 h2⟩
      have eb : bD h n 0 0 = hb h := by funext d; show hb h d - 0 = _; omega
      have hT : TP h n 0 0 (sm (hb h) 16 + 1) 0 s3 s3 := by
        refine ⟨fun _ _ _ _ _ => rfl, fun d hd => ?_, fun i hi => by omega, ?_, Nat.le_refl _, fun hl => by omega⟩
        · rw [e3 41 (by decide), eb]; exact h41 d hd
        · rw [← hs3, z_put_same, pk_us, li1, nI_add]
      rw [e_allDebts (by omega) hC3, z_b_some]
      have ht := e_try (N := N) hN hC3 hV hn2 hW3 (hn h) 8 0 0 _ 0 s3 (by omega) (by omega) hT
      rw [eb] at ht
      refine ok_bm ht (fun _ s4 T4 => ok_ret ⟨?_, fun a ha => ?_⟩)
      · obtain ⟨-, u2, u3, u4, u5, u6⟩ := T4
        exact ⟨fun _ _ _ _ _ => rfl, u2, u3, u4, u5, u6⟩
      · rw [T4.1 a (by omega) (by omega) (by omega) (by omega), e3 a (by omega)]; exact hf a ha
    | succ i ih =>
      intro m s hi hm hW hf h41
      obtain ⟨m, rfl⟩ : ∃ x, m = x + 1 := ⟨m - 1, by omega⟩
      show ok (bf_X9_find_35 N _ _ _ _ s) _
      unfold bf_X9_find_35
      have hCs : RC s 0 h := hC.frame h6 (fun a ha => hf a (by unfold hr at ha; omega))
      rw [nI_pred]
      refine ok_f (nI_pos (by omega)) (ok_bm (e_weigh hN hCs hV (by omega) hn2 hW) (fun _ s' hs' => ?_))
      rw [show nI i + (-1 : Int32) = nI i - 1 from (Int32.sub_eq_add_neg _ _).symm]
      refine ih m s' (by omega) (by omega) hs'.1 (fun a ha => ?_) (fun d hd => ?_)
      · rw [hs'.2 a (by omega) (by omega)]; exact hf a ha
      · rw [hs'.2 41 (by decide) (by decide)]; exact h41 d hd
  exact key (hn h) N s2 (Nat.le_refl _) (by omega) hW2 f3 f4
end S9b
