theorem wl_P {D : va_G} {n : Nat} {ad : Nat → Nat} {cf : zS → Nat → va_E} {σ : zS} {H : Heap} (h : ∀ i, i < n → va_at D vwCl (ad i, cf σ i) H) : va_P D vwCl (z_wl n ad cf σ) H := by
  intro k q hq
  have hk : k < n := by
    have := (List.getElem?_eq_some_iff.mp hq).1
    simpa [z_wl] using this
  rw [z_wl_get hk] at hq
  cases hq
  exact h k hk
theorem arrV_congr {cA : ClassId} {n : Nat} {f g : Nat → Value} (h : ∀ j, j < n → f j = g j) : arrV cA n f = arrV cA n g := by
  unfold arrV
  have e : (fun j : Fin n => f j.val) = fun j : Fin n => g j.val := funext fun j => h j.val j.isLt
  rw [e]
theorem lw_known {args : Array Value} {s : State} (hgd : ∀ w ∈ lw_gd, w.before args s = true) : ∃ (dC : Nat → ClassId) (dI : Nat → Nat → Nat), ∀ (k : Nat) (q : vw_C), vwCl[k]? = some q → u_Kn s q.1 q.2.1 q.2.2 (dC k) (dI k) := by
  obtain ⟨c0, i0, hk0⟩ := u_known (C := RX0) (T := TX0) (N := 0) (n := 0) hgd inX0 (hgd _ q_67)
  obtain ⟨c1, i1, hk1⟩ := u_known (C := RX1) (T := TX1) (N := 6) (n := 6) hgd inX1 (hgd _ q_109)
  obtain ⟨c2, i2, hk2⟩ := u_known (C := RX2) (T := TX2) (N := 0) (n := 0) hgd inX2 (hgd _ q_74)
  obtain ⟨c3, i3, hk3⟩ := u_known (C := RX3) (T := TX3) (N := 0) (n := 0) hgd inX3 (hgd _ q_95)
  obtain ⟨c4, i4, hk4⟩ := u_known (C := RX4) (T := TX4) (N := 9) (n := 9) hgd inX4 (hgd _ q_102)
  obtain ⟨c5, i5, hk5⟩ := u_known (C := RX5) (T := TX5) (N := 2) (n := 2) hgd inX5 (hgd _ q_192)
  obtain ⟨c6, i6, hk6⟩ := u_known (C := RX6) (T := TX6) (N := 0) (n := 0) hgd inX6 (hgd _ q_88)
  obtain ⟨c7, i7, hk7⟩ := u_known (C := RX7) (T := TX7) (N := 0) (n := 0) hgd inX7 (hgd _ q_81)
  obtain ⟨c8, i8, hk8⟩ := u_known (C := RX8) (T := TX8) (N := 0) (n := 0) hgd inX8 (hgd _ q_60)
  obtain ⟨c9, i9, hk9⟩ := u_known (C := RX9) (T := TX9) (N := 6) (n := 6) hgd inX9 (hgd _ q_207)
  obtain ⟨c10, i10, hk10⟩ := u_known (C := RX10) (T := TX10) (N := 10) (n := 10) hgd inX10 (hgd _ q_51)
  obtain ⟨c11, i11, hk11⟩ := u_known (C := RX11) (T := TX11) (N := 29) (n := 29) hgd inX11 (hgd _ q_647)
  refine ⟨fun k => [c0, c1, c2, c3, c4, c5, c6, c7, c8, c9, c10, c11].getD k c0, fun k => [i0, i1, i2, i3, i4, i5, i6, i7, i8, i9, i10, i11].getD k i0, ?_⟩
  intro k q hq
  have hk : k < 12 := (List.getElem?_eq_some_iff.mp hq).1
  rcases (show k = 0 ∨ k = 1 ∨ k = 2 ∨ k = 3 ∨ k = 4 ∨ k = 5 ∨ k = 6 ∨ k = 7 ∨ k = 8 ∨ k = 9 ∨ k = 10 ∨ k = 11 by omega) with rfl | rfl | rfl | rfl | rfl | rfl | rfl | rfl | rfl | rfl | rfl | rfl
  · cases hq; exact hk0
  · cases hq; exact hk1
  · cases hq; exact hk2
  · cases hq; exact hk3
  · cases hq; exact hk4
  · cases hq; exact hk5
  · cases hq; exact hk6
  · cases hq; exact hk7
  · cases hq; exact hk8
  · cases hq; exact hk9
  · cases hq; exact hk10
  · cases hq; exact hk11
theorem lw_over {args : Array Value} {s : State} {C : String} (h : va_AO C s) : ∃ cA : ClassId, ArrOfT s cA (.object C) ∧ va_RA s cA (.object C) := by
  obtain ⟨comp, cA, kA, f1, -, f2, f3, f4⟩ := Cond.arrayOver_spec h
  exact ⟨cA, fun N z => ⟨(fun k h => by cases h), kA, f2, comp, f3⟩, kA, comp, f2, f3, f1, f4⟩
theorem lw_t {w : Cond} (i : Nat) (h : lw_tbl[i]? = some w) : w ∈ lw_tbl := List.mem_of_getElem? h
theorem lw_types {args : Array Value} {s : State} (hts : ∀ w ∈ lw_tbl, w.before args s = true) : ∃ cI cC cW : ClassId, ∀ (k : Nat) (q : ClassId × FieldType), (z_ty cI cC cW)[k]? = some q → ArrOfT s q.1 q.2 ∧ va_RA s q.1 q.2 := by
  obtain ⟨cI, kI, comp, h1, h2, h3⟩ := Cond.arrayClass_spec (hts (.arrayClass .int) (lw_t 190 (by decide +kernel)))
  obtain ⟨cC, h4, h5⟩ := lw_over (args := args) (va_AO.of (hts (.arrayOver (.object "PaidInLight$Candle")) (lw_t 108 (by decide +kernel))))
  obtain ⟨cW, h6, h7⟩ := lw_over (args := args) (va_AO.of (hts (.arrayOver (.object "PaidInLight$Wax")) (lw_t 59 (by decide +kernel))))
  refine ⟨cI, cC, cW, fun k q hk => ?_⟩
  have hl : k < 3 := (List.getElem?_eq_some_iff.mp hk).1
  rcases (show k = 0 ∨ k = 1 ∨ k = 2 by omega) with rfl | rfl | rfl
  · cases hk; exact ⟨fun N z => ⟨(fun k h => by cases h), kI, h2, comp, h3⟩, h1⟩
  · cases hk; exact ⟨h4, h5⟩
  · cases hk; exact ⟨h6, h7⟩
theorem lw_zE {args : Array Value} {s : State} (hts : ∀ w ∈ lw_tbl, w.before args s = true) : zE s := by
  refine ⟨fun q hq => ?_, va_AO.of (hts (.arrayOver (.object "PaidInLight$Candle")) (lw_t 108 (by decide +kernel))), va_AO.of (hts (.arrayOver (.object "PaidInLight$Wax")) (lw_t 59 (by decide +kernel))), va_Nw.of rfl (hts _ (lw_t 985 (by decide +kernel))), va_Nw.of rfl (hts _ (lw_t 986 (by decide +kernel))), va_Nw.of rfl (hts _ (lw_t 987 (by decide +kernel))), va_Nw.of rfl (hts _ (lw_t 988 (by decide +kernel))), va_Nw.of rfl (hts _ (lw_t 989 (by decide +kernel)))⟩
  obtain ⟨i, hi⟩ := List.getElem?_of_mem hq
  have hl : i < 19 := (List.getElem?_eq_some_iff.mp hi).1
  rcases (show i = 0 ∨ i = 1 ∨ i = 2 ∨ i = 3 ∨ i = 4 ∨ i = 5 ∨ i = 6 ∨ i = 7 ∨ i = 8 ∨ i = 9 ∨ i = 10 ∨ i = 11 ∨ i = 12 ∨ i = 13 ∨ i = 14 ∨ i = 15 ∨ i = 16 ∨ i = 17 ∨ i = 18 by omega) with rfl | rfl | rfl | rfl | rfl | rfl | rfl | rfl | rfl | rfl | rfl | rfl | rfl | rfl | rfl | rfl | rfl | rfl | rfl
  · cases hi; exact va_Nw.of rfl (hts _ (lw_t 61 (by decide +kernel)))
  · cases hi; exact va_Nw.of rfl (hts _ (lw_t 68 (by decide +kernel)))
  · cases hi; exact va_Nw.of rfl (hts _ (lw_t 71 (by decide +kernel)))
  · cases hi; exact va_Nw.of rfl (hts _ (lw_t 75 (by decide +kernel)))
  · cases hi; exact va_Nw.of rfl (hts _ (lw_t 78 (by decide +kernel)))
  · cases hi; exact va_Nw.of rfl (hts _ (lw_t 82 (by decide +kernel)))
  · cases hi; exact va_Nw.of rfl (hts _ (lw_t 85 (by decide +kernel)))
  · cases hi; exact va_Nw.of rfl (hts _ (lw_t 89 (by decide +kernel)))
  · cases hi; exact va_Nw.of rfl (hts _ (lw_t 92 (by decide +kernel)))
  · cases hi; exact va_Nw.of rfl (hts _ (lw_t 96 (by decide +kernel)))
  · cases hi; exact va_Nw.of rfl (hts _ (lw_t 99 (by decide +kernel)))
  · cases hi; exact va_Nw.of rfl (hts _ (lw_t 110 (by decide +kernel)))
  · cases hi; exact va_Nw.of rfl (hts _ (lw_t 193 (by decide +kernel)))
  · cases hi; exact va_Nw.of rfl (hts _ (lw_t 208 (by decide +kernel)))
  · cases hi; exact va_Nw.of rfl (hts _ (lw_t 331 (by decide +kernel)))
  · cases hi; exact va_Nw.of rfl (hts _ (lw_t 334 (by decide +kernel)))
  · cases hi; exact va_Nw.of rfl (hts _ (lw_t 341 (by decide +kernel)))
  · cases hi; exact va_Nw.of rfl (hts _ (lw_t 345 (by decide +kernel)))
  · cases hi; exact va_Nw.of rfl (hts _ (lw_t 560 (by decide +kernel)))
