/-! The reference's rows put away and back. -/
def stt (s : Nat) : Nat := match s with
  | 0 => 0
  | 1 => 0
  | 2 => 6
  | 3 => 12
  | 4 => 18
  | 5 => 24
  | 6 => 30
  | 7 => 36
  | 8 => 40
  | _ => 56
theorem stt_s : ∀ s, s < 9 → 1 ≤ s → stt (s + 1) = stt s + lenM s := by decide
theorem lenM_le : ∀ s, s < 9 → lenM s ≤ 16 ∧ stt s + lenM s ≤ 56 := by decide
theorem li70 : (70 : Int32) = nI 70 := rfl
def RK (w : Nat) (τ : zS) (h : hS) : Prop := (∀ i, i < hn h → ∀ k, k < 6 → τ 14 (70 * w + stt (k + 1) + i) = nI (hc h i k)) ∧ (∀ k, k < 4 → τ 14 (70 * w + 36 + k) = nI (hd h k)) ∧ (∀ k, k < 16 → τ 14 (70 * w + 40 + k) = nI (hb h k)) ∧ τ 14 (70 * w + 56) = nI (hn h) ∧ τ 14 (70 * w + 57) = nI (hm h) ∧ τ 14 (70 * w + 58) = hu h ∧ τ 14 (70 * w + 59) = hp h ∧ τ 14 (70 * w + 60) = hq h
def kM (w : Nat) (τ τ' : zS) : Prop := (∀ a, a ≠ 0 → a ≠ 14 → τ' a = τ a) ∧ (∀ k, k ≠ 23 → k ≠ 24 → τ' 0 k = τ 0 k) ∧ ∀ k, (k < 70 * w ∨ 70 * w + 70 ≤ k) → τ' 14 k = τ 14 k
section PA
variable {τ : zS} {h : hS} {N w : Nat}
theorem e_passesK (hN : 20 ≤ N) {a c : Nat} (ha : 1 ≤ a ∧ a < 9) (hk : τ 0 23 = nI 1) (hc0 : τ 0 24 = nI c) (hcl : c + lenM a ≤ 140) : ok (f_X11_passes N a τ) (fun _ τ' => (∀ q, q ≠ 0 → q ≠ 14 → τ' q = τ q) ∧ (∀ k, k ≠ 24 → τ' 0 k = τ 0 k) ∧ τ' 0 24 = nI (c + lenM a) ∧ (∀ k, k < lenM a → τ' 14 (c + k) = τ a k) ∧ ∀ k, (k < c ∨ c + lenM a ≤ k) → τ' 14 k = τ 14 k) := by
  have hl := lenM_le a ha.2
  unfold f_X11_passes
  refine cnt_loop (Q := fun o => ok o _) (F := fun n v s => lf_X11_passes_2 N n a v s) (I := fun i s => (∀ q, q ≠ 0 → q ≠ 14 → s q = τ q) ∧ (∀ k, k ≠ 24 → s 0 k = τ 0 k) ∧ s 0 24 = nI (c + i) ∧ (∀ k, k < i → s 14 (c + k) = τ a k) ∧ ∀ k, (k < c ∨ c + i ≤ k) → s 14 k = τ 14 k) (e := lenM a) ?_ ?_ N 0 τ (Nat.zero_le _) (by omega) ⟨fun _ _ _ => rfl, fun _ _ => rfl, hc0, fun k hk => by omega, fun _ _ => rfl⟩
  · intro n s hs
    show ok (bf_X11_passes_2 N _ a _ s) _
    unfold bf_X11_passes_2
    rw [show Int32.ofNat (lenM a) = nI (lenM a) from rfl, t_le (by omega) (by omega)]
    exact ok_t (Nat.le_refl _) (ok_ret hs)
  · intro n i s hi ⟨p1, p2, p3, p4, p5⟩ ih
    show ok (bf_X11_passes_2 N _ a _ s) _
    unfold bf_X11_passes_2
    rw [show Int32.ofNat (lenM a) = nI (lenM a) from rfl, t_le (by omega) (by omega)]
    refine ok_f (by omega) ?_
    rw [p2 23 (by decide), hk, li0, t_eq (by decide) (by decide)]
    refine ok_f (by decide) ?_
    rw [z_in_n hi (by omega), z_g_t, p3, z_in_n (show c + i < 140 by omega) (by decide), z_g_t, nI_clamp (by omega : c + i < 2 ^ 31), nI_clamp (by omega : i < 2 ^ 31)]
    refine ok_m ?_
    unfold bf_X11_passes_42
    refine ok_m ?_
    rw [li1, nI_add]
    refine ih _ ⟨fun q h0 h14 => ?_, fun k hk => ?_, ?_, fun k hk => ?_, fun k hk => ?_⟩
    · rw [z_put_ne _ _ _ h0, z_put_ne _ _ _ h14]; exact p1 q h0 h14
    · rw [z_put_same, pk_un hk, z_put_ne _ _ _ (by decide)]; exact p2 k hk
    · rw [z_put_same, pk_us, z_put_ne _ _ _ (by decide), p3, nI_add]; rfl
    · rw [z_put_ne _ _ _ (by decide), z_put_same]
      by_cases e : k = i
      · subst e; rw [pk_us, p1 a (by omega) (by omega)]
      · rw [pk_un (by omega)]; exact p4 k (by omega)
    · rw [z_put_ne _ _ _ (by decide), z_put_same, pk_un (by omega)]; exact p5 k (by omega)
theorem e_passesR (hN : 20 ≤ N) {a c : Nat} (ha : 1 ≤ a ∧ a < 9) (hk : τ 0 23 = nI 0) (hc0 : τ 0 24 = nI c) (hcl : c + lenM a ≤ 140) : ok (f_X11_passes N a τ) (fun _ τ' => (∀ q, q ≠ 0 → q ≠ a → τ' q = τ q) ∧ (∀ k, k ≠ 24 → τ' 0 k = τ 0 k) ∧ τ' 0 24 = nI (c + lenM a) ∧ ∀ k, k < lenM a → τ' a k = τ 14 (c + k)) := by
  have hl := lenM_le a ha.2
  unfold f_X11_passes
  refine cnt_loop (Q := fun o => ok o _) (F := fun n v s => lf_X11_passes_2 N n a v s) (I := fun i s => (∀ q, q ≠ 0 → q ≠ a → s q = τ q) ∧ (∀ k, k ≠ 24 → s 0 k = τ 0 k) ∧ s 0 24 = nI (c + i) ∧ ∀ k, k < i → s a k = τ 14 (c + k)) (e := lenM a) ?_ ?_ N 0 τ (Nat.zero_le _) (by omega) ⟨fun _ _ _ => rfl, fun _ _ => rfl, hc0, fun k hk => by omega⟩
  · intro n s hs
    show ok (bf_X11_passes_2 N _ a _ s) _
    unfold bf_X11_passes_2
    rw [show Int32.ofNat (lenM a) = nI (lenM a) from rfl, t_le (by omega) (by omega)]
    exact ok_t (Nat.le_refl _) (ok_ret hs)
  · intro n i s hi ⟨p1, p2, p3, p4⟩ ih
    show ok (bf_X11_passes_2 N _ a _ s) _
    unfold bf_X11_passes_2
    rw [show Int32.ofNat (lenM a) = nI (lenM a) from rfl, t_le (by omega) (by omega)]
    refine ok_f (by omega) ?_
    rw [p2 23 (by decide), hk, li0, t_eq (by decide) (by decide)]
    refine ok_t rfl ?_
    rw [p3, z_in_n (show c + i < 140 by omega) (by decide), z_g_t, z_in_n hi (by omega), z_g_t, nI_clamp (by omega : c + i < 2 ^ 31), nI_clamp (by omega : i < 2 ^ 31), p1 14 (by decide) (by omega)]
    refine ok_m ?_
    unfold bf_X11_passes_42
    refine ok_m ?_
    rw [li1, nI_add]
    refine ih _ ⟨fun q h0 h14 => ?_, fun k hk => ?_, ?_, fun k hk => ?_⟩
    · rw [z_put_ne _ _ _ h0, z_put_ne _ _ _ h14]; exact p1 q h0 h14
    · rw [z_put_same, pk_un hk, z_put_ne _ _ _ (by omega)]; exact p2 k hk
    · rw [z_put_same, pk_us, z_put_ne _ _ _ (by omega), p3, nI_add]; rfl
    · rw [z_put_ne _ _ _ (by omega), z_put_same]
      by_cases e : k = i
      · subst e; rw [pk_us]
      · rw [pk_un (by omega)]; exact p4 k (by omega)
theorem e_oneK {c : Nat} (hk : τ 0 23 = nI 1) (hc0 : τ 0 24 = nI c) (hcl : c < 140) (v : Int32) : f_X11_passOne N v τ = some (v, z_put (z_put τ 14 c v) 0 24 (nI (c + 1))) := by
  unfold f_X11_passOne bf_X11_passOne_20 bf_X11_passOne_38 z_m
  rw [hk, if_neg (by decide), if_neg (by decide), hc0, z_in_n hcl (by decide), z_g_t, nI_clamp (by omega)]
  dsimp only
  rw [z_put_ne _ _ _ (by decide), hc0, li1, nI_add]
theorem e_oneR {c : Nat} (hk : τ 0 23 = nI 0) (hc0 : τ 0 24 = nI c) (hcl : c < 140) (v : Int32) : f_X11_passOne N v τ = some (τ 14 c, z_put τ 0 24 (nI (c + 1))) := by
  unfold f_X11_passOne bf_X11_passOne_20 bf_X11_passOne_38 z_m
  rw [hk, if_pos (by decide), if_pos (by decide), hc0, z_in_n hcl (by decide), z_g_t, nI_clamp (by omega)]
  dsimp only
  rw [li1, nI_add]
def PK (w : Nat) (τ : zS) (r : Nat) (s : zS) : Prop := (∀ q, q ≠ 0 → q ≠ 14 → s q = τ q) ∧ (∀ k, k ≠ 23 → k ≠ 24 → s 0 k = τ 0 k) ∧ s 0 23 = nI 1 ∧ s 0 24 = nI (70 * w + stt (r + 1)) ∧ (∀ a, 1 ≤ a → a ≤ r → ∀ k, k < lenM a → s 14 (70 * w + stt a + k) = τ a k) ∧ ∀ k, (k < 70 * w ∨ 70 * w + stt (r + 1) ≤ k) → s 14 k = τ 14 k
theorem stt_mono : ∀ a, a < 10 → ∀ b, b < 10 → 1 ≤ a → a < b → stt a + lenM a ≤ stt b := by decide
theorem PK_step (hN : 20 ≤ N) (hw : w < 2) {r : Nat} (hr : r < 8) {s : zS} (hs : PK w τ r s) : ok (f_X11_passes N (r + 1) s) (fun _ s' => PK w τ (r + 1) s') := by
  obtain ⟨p1, p2, p3, p4, p5, p6⟩ := hs
  have hl := lenM_le (r + 1) (by omega)
  have hst := stt_s (r + 1) (by omega) (by omega)
  refine ok_mono (e_passesK hN (a := r + 1) (c := 70 * w + stt (r + 1)) ⟨by omega, by omega⟩ p3 p4 (by omega)) (fun _ s' hs' => ?_)
  obtain ⟨q1, q2, q3, q4, q5⟩ := hs'
  refine ⟨fun q h0 h14 => (q1 q h0 h14).trans (p1 q h0 h14), fun k h1 h2 => (q2 k h2).trans (p2 k h1 h2), (q2 23 (by decide)).trans p3, by rw [q3, hst, Nat.add_assoc], fun a h1 h2 k hk => ?_, fun k hk => ?_⟩
  · by_cases e : a = r + 1
    · subst e; rw [q4 k hk, p1 _ (by omega) (by omega)]
    · have := stt_mono a (by omega) (r + 1) (by omega) h1 (by omega)
      rw [q5 _ (by omega)]; exact p5 a h1 (by omega) k hk
  · rw [hst] at hk
    rw [q5 k (by omega)]
    exact p6 k (by omega)
theorem e_keep (hN : 20 ≤ N) (hw : w < 2) (hR : RM τ h) (h6 : hn h ≤ 6) : ok (f_X11_passesAll N (nI w) 1 τ) (fun _ τ' => RK w τ' h ∧ RM τ' h ∧ kM w τ τ') := by
  unfold f_X11_passesAll
  rw [li70, pk_mul]
  refine ok_m (ok_g (by decide) (ok_m ?_))
  have s0 : PK w τ 0 (z_put (z_put τ 0 24 (nI (70 * w))) 0 23 1) := by
    refine ⟨fun q h0 _ => by rw [z_put_ne _ _ _ h0, z_put_ne _ _ _ h0], fun k h1 h2 => by rw [z_put_same, pk_un h1, z_put_same, pk_un h2], by rw [z_put_same, pk_us]; rfl, by rw [z_put_same, pk_un (by decide), z_put_same, pk_us]; rfl, fun a h1 h2 => by omega, fun k _ => by rw [z_put_ne _ _ _ (by decide), z_put_ne _ _ _ (by decide)]⟩
  refine ok_bm (PK_step hN hw (r := 0) (by decide) s0) (fun _ s1 h1 => ?_)
  refine ok_bm (PK_step hN hw (r := 1) (by decide) h1) (fun _ s2 h2 => ?_)
  refine ok_bm (PK_step hN hw (r := 2) (by decide) h2) (fun _ s3 h3 => ?_)
  refine ok_bm (PK_step hN hw (r := 3) (by decide) h3) (fun _ s4 h4 => ?_)
  refine ok_bm (PK_step hN hw (r := 4) (by decide) h4) (fun _ s5 h5 => ?_)
  refine ok_bm (PK_step hN hw (r := 5) (by decide) h5) (fun _ s6 h6' => ?_)
  refine ok_bm (PK_step hN hw (r := 6) (by decide) h6') (fun _ s7 h7 => ?_)
  refine ok_bm (PK_step hN hw (r := 7) (by decide) h7) (fun _ s8 h8 => ?_)
  obtain ⟨p1, p2, p3, p4, p5, p6⟩ := h8
  have p4' : s8 0 24 = nI (70 * w + 56) := p4
  clear h1 h2 h3 h4 h5 h6' h7 s0 s1 s2 s3 s4 s5 s6 s7
  refine ok_be (e_oneK p3 p4' (by omega) _) (ok_m ?_)
  refine ok_be (e_oneK (c := 70 * w + 57) (by simp (disch := decide) only [z_put_same, z_put_ne, pk_un, p3]) (by simp (disch := decide) only [z_put_same, z_put_ne, pk_un, pk_us]) (by omega) _) (ok_m ?_)
  refine ok_be (e_oneK (c := 70 * w + 58) (by simp (disch := decide) only [z_put_same, z_put_ne, pk_un, p3]) (by simp (disch := decide) only [z_put_same, z_put_ne, pk_un, pk_us]) (by omega) _) (ok_m ?_)
  refine ok_be (e_oneK (c := 70 * w + 59) (by simp (disch := decide) only [z_put_same, z_put_ne, pk_un, p3]) (by simp (disch := decide) only [z_put_same, z_put_ne, pk_un, pk_us]) (by omega) _) (ok_m ?_)
  refine ok_be (e_oneK (c := 70 * w + 60) (by simp (disch := decide) only [z_put_same, z_put_ne, pk_un, p3]) (by simp (disch := decide) only [z_put_same, z_put_ne, pk_un, pk_us]) (by omega) _) (ok_m (ok_ret ?_))
  obtain ⟨a1, a2, a3, a4, a5, a6, a7, a8⟩ := id hR
  have b9 : s8 0 9 = nI (hn h) := (p2 9 (by decide) (by decide)).trans a1
  have b10 : s8 0 10 = nI (hm h) := (p2 10 (by decide) (by decide)).trans a2
  have b11 : s8 0 11 = hu h := (p2 11 (by decide) (by decide)).trans a3
  have b12 : s8 0 12 = hp h := (p2 12 (by decide) (by decide)).trans a4
  have b13 : s8 0 13 = hq h := (p2 13 (by decide) (by decide)).trans a5
  refine ⟨⟨fun i hi k hk => ?_, fun k hk => ?_, fun k hk => ?_, ?_, ?_, ?_, ?_, ?_⟩, ⟨?_, ?_, ?_, ?_, ?_, fun i hi k hk => ?_, fun k hk => ?_, fun k hk => ?_⟩, fun a h0 h14 => ?_, fun k h23 h24 => ?_, fun k hk => ?_⟩
  · have hs : ∀ k, k < 6 → stt (k + 1) ≤ 30 ∧ lenM (k + 1) = 6 := by decide
    have := hs k hk
    simp (disch := first | decide | omega) only [z_put_same, z_put_ne, pk_un]
    rw [p5 (k + 1) (by omega) (by omega) i (by omega)]
    exact a6 i hi k hk
  · simp (disch := first | decide | omega) only [z_put_same, z_put_ne, pk_un]
    exact (p5 7 (by decide) (by decide) k hk).trans (a7 k hk)
  · simp (disch := first | decide | omega) only [z_put_same, z_put_ne, pk_un]
    exact (p5 8 (by decide) (by decide) k hk).trans (a8 k hk)
  · simp (disch := first | decide | omega) only [z_put_same, z_put_ne, pk_un, pk_us]; exact b9
  · simp (disch := first | decide | omega) only [z_put_same, z_put_ne, pk_un, pk_us]; exact b10
  · simp (disch := first | decide | omega) only [z_put_same, z_put_ne, pk_un, pk_us]; exact b11
  · simp (disch := first | decide | omega) only [z_put_same, z_put_ne, pk_un, pk_us]; exact b12
  · simp (disch := first | decide | omega) only [z_put_same, z_put_ne, pk_un, pk_us]; exact b13
  · simp (disch := first | decide | omega) only [z_put_same, z_put_ne, pk_un, pk_us]; exact b9
  · simp (disch := first | decide | omega) only [z_put_same, z_put_ne, pk_un, pk_us]; exact b10
  · simp (disch := first | decide | omega) only [z_put_same, z_put_ne, pk_un, pk_us]; exact b11
  · simp (disch := first | decide | omega) only [z_put_same, z_put_ne, pk_un, pk_us]; exact b12
  · simp (disch := first | decide | omega) only [z_put_same, z_put_ne, pk_un, pk_us]; exact b13
  · simp (disch := first | decide | omega) only [z_put_ne]
    rw [p1 (k + 1) (by omega) (by omega)]; exact a6 i hi k hk
  · simp (disch := first | decide | omega) only [z_put_ne]
    rw [p1 7 (by decide) (by decide)]; exact a7 k hk
  · simp (disch := first | decide | omega) only [z_put_ne]
    rw [p1 8 (by decide) (by decide)]; exact a8 k hk
  · simp (disch := first | decide | omega) only [z_put_ne]
    exact p1 a h0 h14
  · simp (disch := first | decide | omega) only [z_put_same, z_put_ne, pk_un, pk_us]
    simp only [upd]
    repeat' split
    all_goals first | (subst_vars; simp at *; done) | (subst_vars; exact p2 _ (by decide) (by decide)) | exact p2 k h23 h24
  · simp (disch := first | decide | omega) only [z_put_same, z_put_ne, pk_un]
    exact p6 k (by have : stt (7 + 1 + 1) = 56 := rfl; omega)
def PR (w : Nat) (τ : zS) (r : Nat) (s : zS) : Prop := (∀ q, q ≠ 0 → (q = 0 ∨ r < q) → s q = τ q) ∧ (∀ k, k ≠ 23 → k ≠ 24 → s 0 k = τ 0 k) ∧ s 0 23 = nI 0 ∧ s 0 24 = nI (70 * w + stt (r + 1)) ∧ ∀ a, 1 ≤ a → a ≤ r → ∀ k, k < lenM a → s a k = τ 14 (70 * w + stt a + k)
theorem PR_step (hN : 20 ≤ N) (hw : w < 2) {r : Nat} (hr : r < 8) {s : zS} (hs : PR w τ r s) : ok (f_X11_passes N (r + 1) s) (fun _ s' => PR w τ (r + 1) s') := by
  obtain ⟨p1, p2, p3, p4, p5⟩ := hs
  have hl := lenM_le (r + 1) (by omega)
  have hst := stt_s (r + 1) (by omega) (by omega)
  refine ok_mono (e_passesR hN (a := r + 1) (c := 70 * w + stt (r + 1)) ⟨by omega, by omega⟩ p3 p4 (by omega)) (fun _ s' hs' => ?_)
  obtain ⟨q1, q2, q3, q4⟩ := hs'
  refine ⟨fun q h0 hq => (q1 q h0 (by omega)).trans (p1 q h0 (by omega)), fun k h1 h2 => (q2 k h2).trans (p2 k h1 h2), (q2 23 (by decide)).trans p3, by rw [q3, hst, Nat.add_assoc], fun a h1 h2 k hk => ?_⟩
  by_cases e : a = r + 1
  · subst e; rw [q4 k hk, p1 14 (by decide) (by omega)]
  · rw [q1 a (by omega) e]; exact p5 a h1 (by omega) k hk
/-- behind passesAll(w, false) -/
def bM (τ τ' : zS) : Prop := (∀ a, 9 ≤ a → τ' a = τ a) ∧ ∀ k, (k < 9 ∨ 13 < k) → k ≠ 23 → k ≠ 24 → τ' 0 k = τ 0 k
theorem e_back (hN : 20 ≤ N) (hw : w < 2) (hR : RK w τ h) (h6 : hn h ≤ 6) : ok (f_X11_passesAll N (nI w) 0 τ) (fun _ τ' => RM τ' h ∧ bM τ τ') := by
  unfold f_X11_passesAll
  rw [li70, pk_mul]
  refine ok_m (ok_g (by decide) (ok_m ?_))
  have s0 : PR w τ 0 (z_put (z_put τ 0 24 (nI (70 * w))) 0 23 0) := by
    refine ⟨fun q h0 _ => by rw [z_put_ne _ _ _ h0, z_put_ne _ _ _ h0], fun k h1 h2 => by rw [z_put_same, pk_un h1, z_put_same, pk_un h2], by rw [z_put_same, pk_us]; rfl, by rw [z_put_same, pk_un (by decide), z_put_same, pk_us]; rfl, fun a h1 h2 => by omega⟩
  refine ok_bm (PR_step hN hw (r := 0) (by decide) s0) (fun _ s1 h1 => ?_)
  refine ok_bm (PR_step hN hw (r := 1) (by decide) h1) (fun _ s2 h2 => ?_)
  refine ok_bm (PR_step hN hw (r := 2) (by decide) h2) (fun _ s3 h3 => ?_)
  refine ok_bm (PR_step hN hw (r := 3) (by decide) h3) (fun _ s4 h4 => ?_)
  refine ok_bm (PR_step hN hw (r := 4) (by decide) h4) (fun _ s5 h5 => ?_)
  refine ok_bm (PR_step hN hw (r := 5) (by decide) h5) (fun _ s6 h6' => ?_)
  refine ok_bm (PR_step hN hw (r := 6) (by decide) h6') (fun _ s7 h7 => ?_)
  refine ok_bm (PR_step hN hw (r := 7) (by decide) h7) (fun _ s8 h8 => ?_)
  obtain ⟨p1, p2, p3, p4, p5⟩ := h8
  have p4' : s8 0 24 = nI (70 * w + 56) := p4
  clear h1 h2 h3 h4 h5 h6' h7 s0 s1 s2 s3 s4 s5 s6 s7
  refine ok_be (e_oneR p3 p4' (by omega) _) (ok_m ?_)
  refine ok_be (e_oneR (c := 70 * w + 57) (by simp (disch := decide) only [z_put_same, z_put_ne, pk_un, p3]) (by simp (disch := decide) only [z_put_same, z_put_ne, pk_un, pk_us]) (by omega) _) (ok_m ?_)
  refine ok_be (e_oneR (c := 70 * w + 58) (by simp (disch := decide) only [z_put_same, z_put_ne, pk_un, p3]) (by simp (disch := decide) only [z_put_same, z_put_ne, pk_un, pk_us]) (by omega) _) (ok_m ?_)
  refine ok_be (e_oneR (c := 70 * w + 59) (by simp (disch := decide) only [z_put_same, z_put_ne, pk_un, p3]) (by simp (disch := decide) only [z_put_same, z_put_ne, pk_un, pk_us]) (by omega) _) (ok_m ?_)
  refine ok_be (e_oneR (c := 70 * w + 60) (by simp (disch := decide) only [z_put_same, z_put_ne, pk_un, p3]) (by simp (disch := decide) only [z_put_same, z_put_ne, pk_un, pk_us]) (by omega) _) (ok_m (ok_ret ?_))
  obtain ⟨r1, r2, r3, r4, r5, r6, r7, r8⟩ := id hR
  have e14 : s8 14 = τ 14 := p1 14 (by decide) (by decide)
  refine ⟨⟨?_, ?_, ?_, ?_, ?_, fun i hi k hk => ?_, fun k hk => ?_, fun k hk => ?_⟩, fun a ha => ?_, fun k hk h23 h24 => ?_⟩
  · simp (disch := first | decide | omega) only [z_put_same, z_put_ne, pk_un, pk_us]; rw [e14]; exact r4
  · simp (disch := first | decide | omega) only [z_put_same, z_put_ne, pk_un, pk_us]; rw [e14]; exact r5
  · simp (disch := first | decide | omega) only [z_put_same, z_put_ne, pk_un, pk_us]; rw [e14]; exact r6
  · simp (disch := first | decide | omega) only [z_put_same, z_put_ne, pk_un, pk_us]; rw [e14]; exact r7
  · simp (disch := first | decide | omega) only [z_put_same, z_put_ne, pk_un, pk_us]; rw [e14]; exact r8
  · have hs : ∀ k, k < 6 → lenM (k + 1) = 6 := by decide
    have := hs k hk
    simp (disch := first | decide | omega) only [z_put_ne]
    rw [p5 (k + 1) (by omega) (by omega) i (by omega)]; exact r1 i hi k hk
  · simp (disch := first | decide | omega) only [z_put_ne]
    exact (p5 7 (by decide) (by decide) k hk).trans (r2 k hk)
  · simp (disch := first | decide | omega) only [z_put_ne]
    exact (p5 8 (by decide) (by decide) k hk).trans (r3 k hk)
  · simp (disch := first | decide | omega) only [z_put_ne]
    exact p1 a (by omega) (by omega)
  · simp (disch := first | decide | omega) only [z_put_same, z_put_ne, pk_un]
    exact p2 k h23 h24
end PA
