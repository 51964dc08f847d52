/-! THE CLAIM OUT OF ONE WALK OF THE LAW'S BODY. Your part is whole_start (and what it stands on); all else here is the same for every law, but numbers. -/
def R_law : String := "PaidInLightLaw"
def lw_P (b : Addr) (xs : List Int32) (args : Array Value) (s : State) : Prop := args = #[.ref b] ∧ s.IntsAt b xs ∧ xs.length ≤ 3072 ∧ (Jvm.Cond.and given_1 narrow_1).before args s = true
def lw_Q (_ : Array Value) (s : State) (o : Outcome) (t : State) : Prop := o = .returned (some (.int 1)) ∧ Framed s o t [] 600000 7302250
def lw_Z (below : List Frame) (a : Array Value) (s : State) : State → Prop := fun t => ∃ o, t.status = .running ∧ Ended t below o ∧ lw_Q a s o t
/-- the law's own end, with 1 on the stack, nothing written that was there before, its room as the claim has it -/
theorem lw_ret {p : Program} {l : Launch} {e : Env} {s : State} {m : MethodId} {below : List Frame} {meth : Method} {c : Code} {b : Nat} (hx : p.tables.exec = Jvm.exec) (hb : c.code = code) (hr : meth.sig.returnType = ret) (hlocks : meth.locks = false) {pc : Nat} {H : Heap} {ls : Array Slot} (hdg : decode code pc = .ok (.ireturn, 1)) : W p l e room_1 s m #[Value.ref b] below meth c H [] 600000 7302250 (lw_Z below #[Value.ref b] s) (F0 m pc ls [.int 1]) := by
  intro T hT X
  obtain ⟨fs, hret, hrun, hended, hW, hframe⟩ := X.leave (v := some (.int 1)) (hlocks := hlocks) (fun h => by rw [hr] at h; cases h)
  have hmeth' : T.vm.method? m = some meth := X.method'
  refine ⟨T.setFrames fs, ?_, .returned (some (.int 1)), hrun, hended, rfl, ⟨_, rfl⟩, hW, hframe⟩
  jvm_step X.here [X.here.top, hx, hb, hdg, hmeth', hr, ret, narrow_b1]
  (try refine ⟨rfl, ?_⟩); (try refine ⟨rfl, ?_⟩)
  first | (intro acts; rw [hret _ acts rfl rfl rfl]) | rw [hret _ _ rfl rfl rfl]
  exact Steps.refl _
/-- what holds at the law's entry: the machine, the code, the tables' words (any of lw_tbl by 'hts w (by decide +kernel)'), the script of L ints xs at the cell b, what the Statement gives of the start (any of its parts by flat_of_before) -/
def lw_At (p : Program) (s : State) (m : MethodId) (meth : Method) (c : Code) (b L : Nat) (xs : Nat → Int32) : Prop :=
  p.tables.exec = Jvm.exec ∧ c.code = code ∧ meth.sig.returnType = ret ∧ c.maxLocals = 4 ∧ s.vm.findClass R_law = some m.cls ∧ (∀ w ∈ lw_tbl, w.before #[Value.ref b] s = true) ∧ va_X b L xs s s.heap ∧ b < s.heap.size ∧ meth.locks = false ∧ (Jvm.Cond.and given_1 narrow_1).before #[Value.ref b] s = true
def zAc (n : Nat) (ad : Nat → Nat) : Nat → Prop := fun q => ∃ i, i < n ∧ q = ad i
def zV (dC : Nat → ClassId) (dI : Nat → Nat → Nat) (A : Nat → Prop) (s : State) (ac am : Nat → Nat) (cI cC cW : ClassId) (σ τ : zS) : Heap → List Loc → Prop := fun H locs => va_P (dC, dI) vwCl (z_wl 48 ac (cfC ac cI cC cW) σ) H ∧ va_P (dC, dI) vwCl (z_wl 16 am (cfM am cI) τ) H ∧ va_S A s.heap H locs
/-- what stands fast in the law: the script, the tables, the cells apart -/
def zB (G : zG) (dC : Nat → ClassId) (dI : Nat → Nat → Nat) (A : Nat → Prop) (ac am : Nat → Nat) (cI cC cW : ClassId) (b Ln : Nat) (xs : Nat → Int32) : Prop :=
  gF G code 4 RL ∧ va_K (dC, dI) vwCl (z_ty cI cC cW) (gS G) ∧ zN (gS G) ∧ gR G = room_1 ∧ va_X b Ln xs (gS G) (gS G).heap ∧ b < (gS G).heap.size ∧ ¬ A b ∧ (∀ i, i < 48 → A (ac i)) ∧ (∀ i, i < 16 → A (am i)) ∧ (∀ i j, i < 48 → j < 48 → ac i = ac j → i = j) ∧ (∀ i j, i < 16 → j < 16 → am i = am j → i = j) ∧ (∀ i j, i < 48 → j < 16 → ac i ≠ am j)
section LR
variable {G : zG} {cells slots : Nat} {Q : State → Prop} {pc : Nat} {L L1 : List (Nat × Value)} {st : List Value} {x y v : Int32} {dC : Nat → ClassId} {dI : Nat → Nat → Nat} {A : Nat → Prop} {ac am : Nat → Nat} {cI cC cW : ClassId} {b Ln : Nat} {xs : Nat → Int32} {σ τ : zS}
theorem zB.C (B : zB G dC dI A ac am cI cC cW b Ln xs) : gF G code 4 RL := B.1
theorem zB.hOC (B : zB G dC dI A ac am cI cC cW b Ln xs) : zO (zAc 48 ac) 48 ac (cfC ac cI cC cW) := zO_C (fun i h => ⟨i, h, rfl⟩) B.2.2.2.2.2.2.2.2.2.1
theorem zB.hOM (B : zB G dC dI A ac am cI cC cW b Ln xs) : zO (zAc 16 am) 16 am (cfM am cI) := zO_M (fun i h => ⟨i, h, rfl⟩) B.2.2.2.2.2.2.2.2.2.2.1
theorem yx_sld (B : zB G dC dI A ac am cI cC cW b Ln xs) (hin : vp_in x Ln) (hd : decode code pc = .ok (.iaload, 1)) (kk : gW G 4 (zV dC dI A (gS G) ac am cI cC cW σ τ) cells slots Q (pc + 1) L (.int (xs x.toNatClampNeg) :: st)) : gW G 4 (zV dC dI A (gS G) ac am cI cC cW σ τ) cells slots Q pc L (.int x :: .ref b :: st) := fun H locs ls hJ hl =>
  va_sld B.1.1 B.1.2.1 B.2.2.2.2.1 B.2.2.2.2.2.1 B.2.2.2.2.2.2.1 hJ.2.2 hin hd (kk H locs ls hJ hl)
theorem yx_slen (B : zB G dC dI A ac am cI cC cW b Ln xs) (hd : decode code pc = .ok (.arraylength, 1)) (kk : gW G 4 (zV dC dI A (gS G) ac am cI cC cW σ τ) cells slots Q (pc + 1) L (.int (Int32.ofNat Ln) :: st)) : gW G 4 (zV dC dI A (gS G) ac am cI cC cW σ τ) cells slots Q pc L (.ref b :: st) := fun H locs ls hJ hl =>
  va_slen B.1.1 B.1.2.1 B.2.2.2.2.1 B.2.2.2.2.2.1 B.2.2.2.2.2.2.1 hJ.2.2 hd (kk H locs ls hJ hl)
theorem yx_if_eq (B : zB G dC dI A ac am cI cC cW b Ln xs) {off : Int} {tgt : Nat} (hd : decode code pc = .ok (.ifCond .eq off, 3)) (ht : (pc : Int) + off = (tgt : Int)) (kt : x = 0 → gW G 4 (zV dC dI A (gS G) ac am cI cC cW σ τ) cells slots Q tgt L st) (kf : ¬ x = 0 → gW G 4 (zV dC dI A (gS G) ac am cI cC cW σ τ) cells slots Q (pc + 3) L st) : gW G 4 (zV dC dI A (gS G) ac am cI cC cW σ τ) cells slots Q pc L (.int x :: st) := fun H locs ls hJ hl =>
  lv_if_eq B.1.1 B.1.2.1 hd ht (fun h => kt h H locs ls hJ hl) (fun h => kf h H locs ls hJ hl)
theorem zAc_kept {n n2 : Nat} {ac am : Nat → Nat} {cf : zS → Nat → va_E} {H H1 : Heap} (hap : ∀ i j, i < n → j < n2 → ac i ≠ am j) (hP : va_P (dC, dI) vwCl (z_wl n2 am cf τ) H) (hk : ∀ q : Nat, q < H.size → ¬ zAc n ac q → H1[q]? = H[q]?) : va_P (dC, dI) vwCl (z_wl n2 am cf τ) H1 := by
  refine hP.kept (fun k q hq => ?_)
  have hkn : k < n2 := by
    have := (List.getElem?_eq_some_iff.mp hq).1
    simpa [z_wl] using this
  have hlt := (hP k q hq).lt
  rw [z_wl_get hkn] at hq
  cases hq
  exact hk _ hlt (fun ⟨i, h1, h2⟩ => hap i k h1 hkn h2.symm)
theorem yx_callC (B : zB G dC dI A ac am cI cC cW b Ln xs) {yn : MethodName} {bytes : ByteArray} {nL1 d1 np index : Nat} {stk As : List Value} {o : zA} {r : Int32} {σ1 : zS} (hcs : cells ≤ room_1.cells) (hss : slots ≤ room_1.slots) (hM : zM (gL G) dC dI (zAc 48 ac) 48 ac (cfC ac cI cC cW) (z_ty cI cC cW) true yn bytes nL1 (some .int) d1 (.ref (ac 37) :: As) σ o) (ho : o = some (r, σ1)) (hY : zY yn bytes nL1 (some .int) np) (hw : Cond.methodLink RL index yn ∈ lw_gd) (hin : Cond.instanceMethod yn ∈ lw_gd) (hse : Cond.selects RX10 yn yn ∈ lw_gd) (hd1 : d1 ≤ 100) (hn : As.length = np) (hs : stk = As.reverse ++ .ref (ac 37) :: st) (hrm : (st.map fun v => v.category).sum ≤ 8) (hd : decode code pc = .ok (.invokevirtual index, 3)) (kk : gW G 4 (zV dC dI A (gS G) ac am cI cC cW σ1 τ) cells slots Q (pc + 3) L (.int r :: st)) : gW G 4 (zV dC dI A (gS G) ac am cI cC cW σ τ) cells slots Q pc L stk := fun H locs ls hJ hl => by
  have hR := B.2.2.2.1
  have hrun := va_runV (R := gR G) (cells := cells) (slots := slots) (locs := locs) (H := H) (e := gE G) (below := gB G) (meth := gH G) (C := RX10) (b := ac 37) (g := F0 (gM G) pc ls stk) (As := As) (rest := st) B.1 (hM r σ1 ho) ⟨callB_of np B.1.2.2.2.2 hY.good rfl rfl rfl (B.1.2.2.2.2 _ hY.2.1) (B.1.2.2.2.2 _ hw) hY.2.2.1 ⟨by rw [hR]; show d1 + 1 ≤ 2048; omega, by rw [hR]; have := hY.2.2.2.1; show _ + 100 * d1 ≤ 84000; omega⟩, B.1.2.2.2.2 _ hin, B.1.2.2.2.2 _ hse⟩ ⟨zP_blind, va_recv B.2.1 hJ.1 (ci := 10) (q0 := 37) rfl (z_wl_at (by decide) rfl), fun U hU hW => ⟨rfl, by rw [hU]; exact hJ.1, va_K.moved hW.alike B.2.1, B.2.2.1.warm hW⟩⟩ rfl hn hl.1 hs (lv_room hrm) hd (by rw [hR]; exact ⟨hcs, hss⟩)
  have hAA : ∀ q, zAc 48 ac q → A q := fun q ⟨i, h1, h2⟩ => h2 ▸ B.2.2.2.2.2.2.2.1 i h1
  refine va_calli (a := (Value.ref (ac 37) :: As).toArray) hrun hJ.2.2 (fun q _ h => hAA q h) hAA (fun r2 u t H1 locs1 ht _ hw2 hB _ hk1 hS1 => ?_)
  subst hw2
  rw [ht] at hB
  exact kk H1 locs1 ls ⟨hB, zAc_kept B.2.2.2.2.2.2.2.2.2.2.2 hJ.2.1 hk1, hS1⟩ hl
theorem yx_callM (B : zB G dC dI A ac am cI cC cW b Ln xs) {yn : MethodName} {bytes : ByteArray} {nL1 d1 np index : Nat} {stk As : List Value} {o : zA} {r : Int32} {τ1 : zS} (hcs : cells ≤ room_1.cells) (hss : slots ≤ room_1.slots) (hM : zM (gL G) dC dI (zAc 16 am) 16 am (cfM am cI) (z_ty cI cC cW) true yn bytes nL1 (some .int) d1 (.ref (am 0) :: As) τ o) (ho : o = some (r, τ1)) (hY : zY yn bytes nL1 (some .int) np) (hw : Cond.methodLink RL index yn ∈ lw_gd) (hin : Cond.instanceMethod yn ∈ lw_gd) (hse : Cond.selects RX11 yn yn ∈ lw_gd) (hd1 : d1 ≤ 100) (hn : As.length = np) (hs : stk = As.reverse ++ .ref (am 0) :: st) (hrm : (st.map fun v => v.category).sum ≤ 8) (hd : decode code pc = .ok (.invokevirtual index, 3)) (kk : gW G 4 (zV dC dI A (gS G) ac am cI cC cW σ τ1) cells slots Q (pc + 3) L (.int r :: st)) : gW G 4 (zV dC dI A (gS G) ac am cI cC cW σ τ) cells slots Q pc L stk := fun H locs ls hJ hl => by
  have hR := B.2.2.2.1
  have hrun := va_runV (R := gR G) (cells := cells) (slots := slots) (locs := locs) (H := H) (e := gE G) (below := gB G) (meth := gH G) (C := RX11) (b := am 0) (g := F0 (gM G) pc ls stk) (As := As) (rest := st) B.1 (hM r τ1 ho) ⟨callB_of np B.1.2.2.2.2 hY.good rfl rfl rfl (B.1.2.2.2.2 _ hY.2.1) (B.1.2.2.2.2 _ hw) hY.2.2.1 ⟨by rw [hR]; show d1 + 1 ≤ 2048; omega, by rw [hR]; have := hY.2.2.2.1; show _ + 100 * d1 ≤ 84000; omega⟩, B.1.2.2.2.2 _ hin, B.1.2.2.2.2 _ hse⟩ ⟨zP_blind, va_recv B.2.1 hJ.2.1 (ci := 11) (q0 := 0) rfl (z_wl_at (by decide) rfl), fun U hU hW => ⟨rfl, by rw [hU]; exact hJ.2.1, va_K.moved hW.alike B.2.1, B.2.2.1.warm hW⟩⟩ rfl hn hl.1 hs (lv_room hrm) hd (by rw [hR]; exact ⟨hcs, hss⟩)
  have hAA : ∀ q, zAc 16 am q → A q := fun q ⟨i, h1, h2⟩ => h2 ▸ B.2.2.2.2.2.2.2.2.1 i h1
  refine va_calli (a := (Value.ref (am 0) :: As).toArray) hrun hJ.2.2 (fun q _ h => hAA q h) hAA (fun r2 u t H1 locs1 ht _ hw2 hB _ hk1 hS1 => ?_)
  subst hw2
  rw [ht] at hB
  exact kk H1 locs1 ls ⟨zAc_kept (fun i j h1 h2 h3 => B.2.2.2.2.2.2.2.2.2.2.2 j i h2 h1 h3.symm) hJ.1 hk1, hB, hS1⟩ hl
end LR
set_option maxHeartbeats 4000000 in
set_option maxRecDepth 100000 in
theorem law_c0 {G : zG} {dC : Nat → ClassId} {dI : Nat → Nat → Nat} {A : Nat → Prop} {ac am : Nat → Nat} {cI cC cW : ClassId} {b Ln : Nat} {xs : Nat → Int32} {σ τ : zS} {Q : State → Prop} {x3 : Int32} (B : zB G dC dI A ac am cI cC cW b Ln xs) (hin : ∀ j : Nat, j < 6 → vp_in (x3 + nI j) Ln) (hI : zInv σ τ) (hnext : ∀ σ τ, zInv σ τ → gW G 4 (zV dC dI A (gS G) ac am cI cC cW σ τ) 600000 7302250 Q 963 [(0, .ref b), (1, .ref (ac 37)), (2, .ref (am 0)), (3, .int x3)] []) : gW G 4 (zV dC dI A (gS G) ac am cI cC cW σ τ) 600000 7302250 Q 156 [(0, .ref b), (1, .ref (ac 37)), (2, .ref (am 0)), (3, .int x3)] [] := by
  refine gx_aload_n B.C 1 dL_law_156 rfl rfl ?_
  refine gx_aload_n B.C 0 dL_law_157 rfl rfl ?_
  refine gx_iload_n B.C 3 dL_law_158 rfl rfl ?_
  refine gx_iconst (v := 1) B.C dL_law_159 (by decide) ?_
  refine gx_iadd B.C dL_law_160 ?_
  refine yx_sld B (hin 1 (by decide)) dL_law_161 ?_
  obtain ⟨r, σ1, τ1, h1, h2, hI1⟩ := s_feed hI (xs (x3 + 1).toNatClampNeg)
  refine yx_callC (As := [.int (xs (x3 + 1).toNatClampNeg)]) (st := []) B (Nat.le_refl _) (Nat.le_refl _) (k_X10_feed B.hOC z_N (xs (x3 + 1).toNatClampNeg) σ) h1 yk_X10_feed q_264 q_265 q_266 (by decide) rfl rfl (Nat.le_of_ble_eq_true rfl) dL_law_162 ?_
  refine gx_aload_n B.C 2 dL_law_165 rfl rfl ?_
  refine gx_aload_n B.C 0 dL_law_166 rfl rfl ?_
  refine gx_iload_n B.C 3 dL_law_167 rfl rfl ?_
  refine gx_iconst (v := 1) B.C dL_law_168 (by decide) ?_
  refine gx_iadd B.C dL_law_169 ?_
  refine yx_sld B (hin 1 (by decide)) dL_law_170 ?_
  refine yx_callM (As := [.int (xs (x3 + 1).toNatClampNeg)]) (st := [.int r]) B (Nat.le_refl _) (Nat.le_refl _) (k_X11_feed B.hOM z_N (xs (x3 + 1).toNatClampNeg) τ) h2 yk_X11_feed q_740 q_741 q_742 (by decide) rfl rfl (Nat.le_of_ble_eq_true rfl) dL_law_171 ?_
  exact gx_icmp_eq (tgt := 963) B.C dL_law_174 (by decide) (fun _ => hnext σ1 τ1 hI1) (fun h => absurd rfl h)
set_option maxHeartbeats 4000000 in
set_option maxRecDepth 100000 in
theorem law_c1 {G : zG} {dC : Nat → ClassId} {dI : Nat → Nat → Nat} {A : Nat → Prop} {ac am : Nat → Nat} {cI cC cW : ClassId} {b Ln : Nat} {xs : Nat → Int32} {σ τ : zS} {Q : State → Prop} {x3 : Int32} (B : zB G dC dI A ac am cI cC cW b Ln xs) (hin : ∀ j : Nat, j < 6 → vp_in (x3 + nI j) Ln) (hI : zInv σ τ) (hnext : ∀ σ τ, zInv σ τ → gW G 4 (zV dC dI A (gS G) ac am cI cC cW σ τ) 600000 7302250 Q 963 [(0, .ref b), (1, .ref (ac 37)), (2, .ref (am 0)), (3, .int x3)] []) : gW G 4 (zV dC dI A (gS G) ac am cI cC cW σ τ) 600000 7302250 Q 179 [(0, .ref b), (1, .ref (ac 37)), (2, .ref (am 0)), (3, .int x3)] [] := by
  refine gx_aload_n B.C 1 dL_law_179 rfl rfl ?_
  obtain ⟨r, σ1, τ1, h1, h2, hI1⟩ := s_night hI
  refine yx_callC (As := []) (st := []) B (Nat.le_refl _) (Nat.le_refl _) (k_X10_night B.hOC z_N σ) h1 yk_X10_night q_272 q_273 q_274 (by decide) rfl rfl (Nat.le_of_ble_eq_true rfl) dL_law_180 ?_
  refine gx_aload_n B.C 2 dL_law_183 rfl rfl ?_
  refine yx_callM (As := []) (st := [.int r]) B (Nat.le_refl _) (Nat.le_refl _) (k_X11_night B.hOM z_N τ) h2 yk_X11_night q_751 q_752 q_753 (by decide) rfl rfl (Nat.le_of_ble_eq_true rfl) dL_law_184 ?_
  exact gx_icmp_eq (tgt := 963) B.C dL_law_187 (by decide) (fun _ => hnext σ1 τ1 hI1) (fun h => absurd rfl h)
set_option maxHeartbeats 4000000 in
set_option maxRecDepth 100000 in
theorem law_c2 {G : zG} {dC : Nat → ClassId} {dI : Nat → Nat → Nat} {A : Nat → Prop} {ac am : Nat → Nat} {cI cC cW : ClassId} {b Ln : Nat} {xs : Nat → Int32} {σ τ : zS} {Q : State → Prop} {x3 : Int32} (B : zB G dC dI A ac am cI cC cW b Ln xs) (hin : ∀ j : Nat, j < 6 → vp_in (x3 + nI j) Ln) (hI : zInv σ τ) (hnext : ∀ σ τ, zInv σ τ → gW G 4 (zV dC dI A (gS G) ac am cI cC cW σ τ) 600000 7302250 Q 963 [(0, .ref b), (1, .ref (ac 37)), (2, .ref (am 0)), (3, .int x3)] []) : gW G 4 (zV dC dI A (gS G) ac am cI cC cW σ τ) 600000 7302250 Q 192 [(0, .ref b), (1, .ref (ac 37)), (2, .ref (am 0)), (3, .int x3)] [] := by
  refine gx_aload_n B.C 1 dL_law_192 rfl rfl ?_
  refine gx_aload_n B.C 0 dL_law_193 rfl rfl ?_
  refine gx_iload_n B.C 3 dL_law_194 rfl rfl ?_
  refine gx_iconst (v := 1) B.C dL_law_195 (by decide) ?_
  refine gx_iadd B.C dL_law_196 ?_
  refine yx_sld B (hin 1 (by decide)) dL_law_197 ?_
  refine gx_aload_n B.C 0 dL_law_198 rfl rfl ?_
  refine gx_iload_n B.C 3 dL_law_199 rfl rfl ?_
  refine gx_iconst (v := 2) B.C dL_law_200 (by decide) ?_
  refine gx_iadd B.C dL_law_201 ?_
  refine yx_sld B (hin 2 (by decide)) dL_law_202 ?_
  obtain ⟨r, σ1, τ1, h1, h2, hI1⟩ := s_candle hI (xs (x3 + 1).toNatClampNeg) (xs (x3 + 2).toNatClampNeg)
  refine yx_callC (As := [.int (xs (x3 + 1).toNatClampNeg), .int (xs (x3 + 2).toNatClampNeg)]) (st := []) B (Nat.le_refl _) (Nat.le_refl _) (k_X10_candle B.hOC z_N (xs (x3 + 1).toNatClampNeg) (xs (x3 + 2).toNatClampNeg) σ) h1 yk_X10_candle q_357 q_358 q_359 (by decide) rfl rfl (Nat.le_of_ble_eq_true rfl) dL_law_203 ?_
  refine gx_aload_n B.C 2 dL_law_206 rfl rfl ?_
  refine gx_aload_n B.C 0 dL_law_207 rfl rfl ?_
  refine gx_iload_n B.C 3 dL_law_208 rfl rfl ?_
  refine gx_iconst (v := 1) B.C dL_law_209 (by decide) ?_
  refine gx_iadd B.C dL_law_210 ?_
  refine yx_sld B (hin 1 (by decide)) dL_law_211 ?_
  refine gx_aload_n B.C 0 dL_law_212 rfl rfl ?_
  refine gx_iload_n B.C 3 dL_law_213 rfl rfl ?_
  refine gx_iconst (v := 2) B.C dL_law_214 (by decide) ?_
  refine gx_iadd B.C dL_law_215 ?_
  refine yx_sld B (hin 2 (by decide)) dL_law_216 ?_
  refine yx_callM (As := [.int (xs (x3 + 1).toNatClampNeg), .int (xs (x3 + 2).toNatClampNeg)]) (st := [.int r]) B (Nat.le_refl _) (Nat.le_refl _) (k_X11_candle B.hOM z_N (xs (x3 + 1).toNatClampNeg) (xs (x3 + 2).toNatClampNeg) τ) h2 yk_X11_candle q_808 q_809 q_810 (by decide) rfl rfl (Nat.le_of_ble_eq_true rfl) dL_law_217 ?_
  exact gx_icmp_eq (tgt := 963) B.C dL_law_220 (by decide) (fun _ => hnext σ1 τ1 hI1) (fun h => absurd rfl h)
set_option maxHeartbeats 4000000 in
set_option maxRecDepth 100000 in
theorem law_c3 {G : zG} {dC : Nat → ClassId} {dI : Nat → Nat → Nat} {A : Nat → Prop} {ac am : Nat → Nat} {cI cC cW : ClassId} {b Ln : Nat} {xs : Nat → Int32} {σ τ : zS} {Q : State → Prop} {x3 : Int32} (B : zB G dC dI A ac am cI cC cW b Ln xs) (hin : ∀ j : Nat, j < 6 → vp_in (x3 + nI j) Ln) (hI : zInv σ τ) (hnext : ∀ σ τ, zInv σ τ → gW G 4 (zV dC dI A (gS G) ac am cI cC cW σ τ) 600000 7302250 Q 963 [(0, .ref b), (1, .ref (ac 37)), (2, .ref (am 0)), (3, .int x3)] []) : gW G 4 (zV dC dI A (gS G) ac am cI cC cW σ τ) 600000 7302250 Q 225 [(0, .ref b), (1, .ref (ac 37)), (2, .ref (am 0)), (3, .int x3)] [] := by
  refine gx_aload_n B.C 1 dL_law_225 rfl rfl ?_
  refine gx_aload_n B.C 0 dL_law_226 rfl rfl ?_
  refine gx_iload_n B.C 3 dL_law_227 rfl rfl ?_
  refine gx_iconst (v := 1) B.C dL_law_228 (by decide) ?_
  refine gx_iadd B.C dL_law_229 ?_
  refine yx_sld B (hin 1 (by decide)) dL_law_230 ?_
  refine gx_aload_n B.C 0 dL_law_231 rfl rfl ?_
  refine gx_iload_n B.C 3 dL_law_232 rfl rfl ?_
  refine gx_iconst (v := 2) B.C dL_law_233 (by decide) ?_
  refine gx_iadd B.C dL_law_234 ?_
  refine yx_sld B (hin 2 (by decide)) dL_law_235 ?_
  obtain ⟨r, σ1, τ1, h1, h2, hI1⟩ := s_put hI (xs (x3 + 1).toNatClampNeg) (xs (x3 + 2).toNatClampNeg)
  refine yx_callC (As := [.int (xs (x3 + 1).toNatClampNeg), .int (xs (x3 + 2).toNatClampNeg)]) (st := []) B (Nat.le_refl _) (Nat.le_refl _) (k_X10_put B.hOC z_N (xs (x3 + 1).toNatClampNeg) (xs (x3 + 2).toNatClampNeg) σ) h1 yk_X10_put q_455 q_456 q_457 (by decide) rfl rfl (Nat.le_of_ble_eq_true rfl) dL_law_236 ?_
  refine gx_aload_n B.C 2 dL_law_239 rfl rfl ?_
  refine gx_aload_n B.C 0 dL_law_240 rfl rfl ?_
  refine gx_iload_n B.C 3 dL_law_241 rfl rfl ?_
  refine gx_iconst (v := 1) B.C dL_law_242 (by decide) ?_
  refine gx_iadd B.C dL_law_243 ?_
  refine yx_sld B (hin 1 (by decide)) dL_law_244 ?_
  refine gx_aload_n B.C 0 dL_law_245 rfl rfl ?_
  refine gx_iload_n B.C 3 dL_law_246 rfl rfl ?_
  refine gx_iconst (v := 2) B.C dL_law_247 (by decide) ?_
  refine gx_iadd B.C dL_law_248 ?_
  refine yx_sld B (hin 2 (by decide)) dL_law_249 ?_
  refine yx_callM (As := [.int (xs (x3 + 1).toNatClampNeg), .int (xs (x3 + 2).toNatClampNeg)]) (st := [.int r]) B (Nat.le_refl _) (Nat.le_refl _) (k_X11_put B.hOM z_N (xs (x3 + 1).toNatClampNeg) (xs (x3 + 2).toNatClampNeg) τ) h2 yk_X11_put q_836 q_837 q_838 (by decide) rfl rfl (Nat.le_of_ble_eq_true rfl) dL_law_250 ?_
  exact gx_icmp_eq (tgt := 963) B.C dL_law_253 (by decide) (fun _ => hnext σ1 τ1 hI1) (fun h => absurd rfl h)
set_option maxHeartbeats 4000000 in
set_option maxRecDepth 100000 in
theorem law_c4 {G : zG} {dC : Nat → ClassId} {dI : Nat → Nat → Nat} {A : Nat → Prop} {ac am : Nat → Nat} {cI cC cW : ClassId} {b Ln : Nat} {xs : Nat → Int32} {σ τ : zS} {Q : State → Prop} {x3 : Int32} (B : zB G dC dI A ac am cI cC cW b Ln xs) (hin : ∀ j : Nat, j < 6 → vp_in (x3 + nI j) Ln) (hI : zInv σ τ) (hnext : ∀ σ τ, zInv σ τ → gW G 4 (zV dC dI A (gS G) ac am cI cC cW σ τ) 600000 7302250 Q 963 [(0, .ref b), (1, .ref (ac 37)), (2, .ref (am 0)), (3, .int x3)] []) : gW G 4 (zV dC dI A (gS G) ac am cI cC cW σ τ) 600000 7302250 Q 258 [(0, .ref b), (1, .ref (ac 37)), (2, .ref (am 0)), (3, .int x3)] [] := by
  refine gx_aload_n B.C 1 dL_law_258 rfl rfl ?_
  refine gx_aload_n B.C 0 dL_law_259 rfl rfl ?_
  refine gx_iload_n B.C 3 dL_law_260 rfl rfl ?_
  refine gx_iconst (v := 1) B.C dL_law_261 (by decide) ?_
  refine gx_iadd B.C dL_law_262 ?_
  refine yx_sld B (hin 1 (by decide)) dL_law_263 ?_
  refine gx_aload_n B.C 0 dL_law_264 rfl rfl ?_
  refine gx_iload_n B.C 3 dL_law_265 rfl rfl ?_
  refine gx_iconst (v := 2) B.C dL_law_266 (by decide) ?_
  refine gx_iadd B.C dL_law_267 ?_
  refine yx_sld B (hin 2 (by decide)) dL_law_268 ?_
  refine yx_if_eq (tgt := 276) B dL_law_269 (by decide) (fun hz => ?_) (fun hz => ?_)
  · refine gx_iconst (v := 0) B.C dL_law_276 (by decide) ?_
    obtain ⟨r, σ1, τ1, h1, h2, hI1⟩ := s_light hI (xs (x3 + 1).toNatClampNeg) 0 (by decide)
    refine yx_callC (As := [.int (xs (x3 + 1).toNatClampNeg), .int 0]) (st := []) B (Nat.le_refl _) (Nat.le_refl _) (k_X10_light B.hOC z_N (xs (x3 + 1).toNatClampNeg) 0 σ) h1 yk_X10_light q_459 q_460 q_461 (by decide) rfl rfl (Nat.le_of_ble_eq_true rfl) dL_law_277 ?_
    refine gx_aload_n B.C 2 dL_law_280 rfl rfl ?_
    refine gx_aload_n B.C 0 dL_law_281 rfl rfl ?_
    refine gx_iload_n B.C 3 dL_law_282 rfl rfl ?_
    refine gx_iconst (v := 1) B.C dL_law_283 (by decide) ?_
    refine gx_iadd B.C dL_law_284 ?_
    refine yx_sld B (hin 1 (by decide)) dL_law_285 ?_
    refine gx_aload_n B.C 0 dL_law_286 rfl rfl ?_
    refine gx_iload_n B.C 3 dL_law_287 rfl rfl ?_
    refine gx_iconst (v := 2) B.C dL_law_288 (by decide) ?_
    refine gx_iadd B.C dL_law_289 ?_
    refine yx_sld B (hin 2 (by decide)) dL_law_290 ?_
    refine yx_if_eq (tgt := 298) B dL_law_291 (by decide) (fun _ => ?_) (fun h => absurd hz h)
    refine gx_iconst (v := 0) B.C dL_law_298 (by decide) ?_
    refine yx_callM (As := [.int (xs (x3 + 1).toNatClampNeg), .int 0]) (st := [.int r]) B (Nat.le_refl _) (Nat.le_refl _) (k_X11_light B.hOM z_N (xs (x3 + 1).toNatClampNeg) 0 τ) h2 yk_X11_light q_840 q_841 q_842 (by decide) rfl rfl (Nat.le_of_ble_eq_true rfl) dL_law_299 ?_
    exact gx_icmp_eq (tgt := 963) B.C dL_law_302 (by decide) (fun _ => hnext σ1 τ1 hI1) (fun h => absurd rfl h)
  · refine gx_iconst (v := 1) B.C dL_law_272 (by decide) ?_
    refine gx_goto (tgt := 277) B.C dL_law_273 (by decide) ?_
    obtain ⟨r, σ1, τ1, h1, h2, hI1⟩ := s_light hI (xs (x3 + 1).toNatClampNeg) 1 (by decide)
    refine yx_callC (As := [.int (xs (x3 + 1).toNatClampNeg), .int 1]) (st := []) B (Nat.le_refl _) (Nat.le_refl _) (k_X10_light B.hOC z_N (xs (x3 + 1).toNatClampNeg) 1 σ) h1 yk_X10_light q_459 q_460 q_461 (by decide) rfl rfl (Nat.le_of_ble_eq_true rfl) dL_law_277 ?_
    refine gx_aload_n B.C 2 dL_law_280 rfl rfl ?_
    refine gx_aload_n B.C 0 dL_law_281 rfl rfl ?_
    refine gx_iload_n B.C 3 dL_law_282 rfl rfl ?_
    refine gx_iconst (v := 1) B.C dL_law_283 (by decide) ?_
    refine gx_iadd B.C dL_law_284 ?_
    refine yx_sld B (hin 1 (by decide)) dL_law_285 ?_
    refine gx_aload_n B.C 0 dL_law_286 rfl rfl ?_
    refine gx_iload_n B.C 3 dL_law_287 rfl rfl ?_
    refine gx_iconst (v := 2) B.C dL_law_288 (by decide) ?_
    refine gx_iadd B.C dL_law_289 ?_
    refine yx_sld B (hin 2 (by decide)) dL_law_290 ?_
    refine yx_if_eq (tgt := 298) B dL_law_291 (by decide) (fun h => absurd h hz) (fun _ => ?_)
    refine gx_iconst (v := 1) B.C dL_law_294 (by decide) ?_
    refine gx_goto (tgt := 299) B.C dL_law_295 (by decide) ?_
    refine yx_callM (As := [.int (xs (x3 + 1).toNatClampNeg), .int 1]) (st := [.int r]) B (Nat.le_refl _) (Nat.le_refl _) (k_X11_light B.hOM z_N (xs (x3 + 1).toNatClampNeg) 1 τ) h2 yk_X11_light q_840 q_841 q_842 (by decide) rfl rfl (Nat.le_of_ble_eq_true rfl) dL_law_299 ?_
    exact gx_icmp_eq (tgt := 963) B.C dL_law_302 (by decide) (fun _ => hnext σ1 τ1 hI1) (fun h => absurd rfl h)
set_option maxHeartbeats 4000000 in
set_option maxRecDepth 100000 in
theorem law_c5 {G : zG} {dC : Nat → ClassId} {dI : Nat → Nat → Nat} {A : Nat → Prop} {ac am : Nat → Nat} {cI cC cW : ClassId} {b Ln : Nat} {xs : Nat → Int32} {σ τ : zS} {Q : State → Prop} {x3 : Int32} (B : zB G dC dI A ac am cI cC cW b Ln xs) (hin : ∀ j : Nat, j < 6 → vp_in (x3 + nI j) Ln) (hI : zInv σ τ) (hnext : ∀ σ τ, zInv σ τ → gW G 4 (zV dC dI A (gS G) ac am cI cC cW σ τ) 600000 7302250 Q 963 [(0, .ref b), (1, .ref (ac 37)), (2, .ref (am 0)), (3, .int x3)] []) : gW G 4 (zV dC dI A (gS G) ac am cI cC cW σ τ) 600000 7302250 Q 307 [(0, .ref b), (1, .ref (ac 37)), (2, .ref (am 0)), (3, .int x3)] [] := by
  refine gx_aload_n B.C 1 dL_law_307 rfl rfl ?_
  refine gx_aload_n B.C 0 dL_law_308 rfl rfl ?_
  refine gx_iload_n B.C 3 dL_law_309 rfl rfl ?_
  refine gx_iconst (v := 1) B.C dL_law_310 (by decide) ?_
  refine gx_iadd B.C dL_law_311 ?_
  refine yx_sld B (hin 1 (by decide)) dL_law_312 ?_
  refine gx_aload_n B.C 0 dL_law_313 rfl rfl ?_
  refine gx_iload_n B.C 3 dL_law_314 rfl rfl ?_
  refine gx_iconst (v := 2) B.C dL_law_315 (by decide) ?_
  refine gx_iadd B.C dL_law_316 ?_
  refine yx_sld B (hin 2 (by decide)) dL_law_317 ?_
  obtain ⟨r, σ1, τ1, h1, h2, hI1⟩ := s_draught hI (xs (x3 + 1).toNatClampNeg) (xs (x3 + 2).toNatClampNeg)
  refine yx_callC (As := [.int (xs (x3 + 1).toNatClampNeg), .int (xs (x3 + 2).toNatClampNeg)]) (st := []) B (Nat.le_refl _) (Nat.le_refl _) (k_X10_draught B.hOC z_N (xs (x3 + 1).toNatClampNeg) (xs (x3 + 2).toNatClampNeg) σ) h1 yk_X10_draught q_463 q_464 q_465 (by decide) rfl rfl (Nat.le_of_ble_eq_true rfl) dL_law_318 ?_
  refine gx_aload_n B.C 2 dL_law_321 rfl rfl ?_
  refine gx_aload_n B.C 0 dL_law_322 rfl rfl ?_
  refine gx_iload_n B.C 3 dL_law_323 rfl rfl ?_
  refine gx_iconst (v := 1) B.C dL_law_324 (by decide) ?_
  refine gx_iadd B.C dL_law_325 ?_
  refine yx_sld B (hin 1 (by decide)) dL_law_326 ?_
  refine gx_aload_n B.C 0 dL_law_327 rfl rfl ?_
  refine gx_iload_n B.C 3 dL_law_328 rfl rfl ?_
  refine gx_iconst (v := 2) B.C dL_law_329 (by decide) ?_
  refine gx_iadd B.C dL_law_330 ?_
  refine yx_sld B (hin 2 (by decide)) dL_law_331 ?_
  refine yx_callM (As := [.int (xs (x3 + 1).toNatClampNeg), .int (xs (x3 + 2).toNatClampNeg)]) (st := [.int r]) B (Nat.le_refl _) (Nat.le_refl _) (k_X11_draught B.hOM z_N (xs (x3 + 1).toNatClampNeg) (xs (x3 + 2).toNatClampNeg) τ) h2 yk_X11_draught q_844 q_845 q_846 (by decide) rfl rfl (Nat.le_of_ble_eq_true rfl) dL_law_332 ?_
  exact gx_icmp_eq (tgt := 963) B.C dL_law_335 (by decide) (fun _ => hnext σ1 τ1 hI1) (fun h => absurd rfl h)
set_option maxHeartbeats 4000000 in
set_option maxRecDepth 100000 in
theorem law_c6 {G : zG} {dC : Nat → ClassId} {dI : Nat → Nat → Nat} {A : Nat → Prop} {ac am : Nat → Nat} {cI cC cW : ClassId} {b Ln : Nat} {xs : Nat → Int32} {σ τ : zS} {Q : State → Prop} {x3 : Int32} (B : zB G dC dI A ac am cI cC cW b Ln xs) (hin : ∀ j : Nat, j < 6 → vp_in (x3 + nI j) Ln) (hI : zInv σ τ) (hnext : ∀ σ τ, zInv σ τ → gW G 4 (zV dC dI A (gS G) ac am cI cC cW σ τ) 600000 7302250 Q 963 [(0, .ref b), (1, .ref (ac 37)), (2, .ref (am 0)), (3, .int x3)] []) : gW G 4 (zV dC dI A (gS G) ac am cI cC cW σ τ) 600000 7302250 Q 340 [(0, .ref b), (1, .ref (ac 37)), (2, .ref (am 0)), (3, .int x3)] [] := by
  refine gx_aload_n B.C 1 dL_law_340 rfl rfl ?_
  refine gx_aload_n B.C 0 dL_law_341 rfl rfl ?_
  refine gx_iload_n B.C 3 dL_law_342 rfl rfl ?_
  refine gx_iconst (v := 1) B.C dL_law_343 (by decide) ?_
  refine gx_iadd B.C dL_law_344 ?_
  refine yx_sld B (hin 1 (by decide)) dL_law_345 ?_
  refine gx_aload_n B.C 0 dL_law_346 rfl rfl ?_
  refine gx_iload_n B.C 3 dL_law_347 rfl rfl ?_
  refine gx_iconst (v := 2) B.C dL_law_348 (by decide) ?_
  refine gx_iadd B.C dL_law_349 ?_
  refine yx_sld B (hin 2 (by decide)) dL_law_350 ?_
  refine gx_aload_n B.C 0 dL_law_351 rfl rfl ?_
  refine gx_iload_n B.C 3 dL_law_352 rfl rfl ?_
  refine gx_iconst (v := 3) B.C dL_law_353 (by decide) ?_
  refine gx_iadd B.C dL_law_354 ?_
  refine yx_sld B (hin 3 (by decide)) dL_law_355 ?_
  obtain ⟨r, σ1, τ1, h1, h2, hI1⟩ := s_owe hI (xs (x3 + 1).toNatClampNeg) (xs (x3 + 2).toNatClampNeg) (xs (x3 + 3).toNatClampNeg)
  refine yx_callC (As := [.int (xs (x3 + 1).toNatClampNeg), .int (xs (x3 + 2).toNatClampNeg), .int (xs (x3 + 3).toNatClampNeg)]) (st := []) B (Nat.le_refl _) (Nat.le_refl _) (k_X10_owe B.hOC z_N (xs (x3 + 1).toNatClampNeg) (xs (x3 + 2).toNatClampNeg) (xs (x3 + 3).toNatClampNeg) σ) h1 yk_X10_owe q_470 q_471 q_472 (by decide) rfl rfl (Nat.le_of_ble_eq_true rfl) dL_law_356 ?_
  refine gx_aload_n B.C 2 dL_law_359 rfl rfl ?_
  refine gx_aload_n B.C 0 dL_law_360 rfl rfl ?_
  refine gx_iload_n B.C 3 dL_law_361 rfl rfl ?_
  refine gx_iconst (v := 1) B.C dL_law_362 (by decide) ?_
  refine gx_iadd B.C dL_law_363 ?_
  refine yx_sld B (hin 1 (by decide)) dL_law_364 ?_
  refine gx_aload_n B.C 0 dL_law_365 rfl rfl ?_
  refine gx_iload_n B.C 3 dL_law_366 rfl rfl ?_
  refine gx_iconst (v := 2) B.C dL_law_367 (by decide) ?_
  refine gx_iadd B.C dL_law_368 ?_
  refine yx_sld B (hin 2 (by decide)) dL_law_369 ?_
  refine gx_aload_n B.C 0 dL_law_370 rfl rfl ?_
  refine gx_iload_n B.C 3 dL_law_371 rfl rfl ?_
  refine gx_iconst (v := 3) B.C dL_law_372 (by decide) ?_
  refine gx_iadd B.C dL_law_373 ?_
  refine yx_sld B (hin 3 (by decide)) dL_law_374 ?_
  refine yx_callM (As := [.int (xs (x3 + 1).toNatClampNeg), .int (xs (x3 + 2).toNatClampNeg), .int (xs (x3 + 3).toNatClampNeg)]) (st := [.int r]) B (Nat.le_refl _) (Nat.le_refl _) (k_X11_owe B.hOM z_N (xs (x3 + 1).toNatClampNeg) (xs (x3 + 2).toNatClampNeg) (xs (x3 + 3).toNatClampNeg) τ) h2 yk_X11_owe q_848 q_849 q_850 (by decide) rfl rfl (Nat.le_of_ble_eq_true rfl) dL_law_375 ?_
  exact gx_icmp_eq (tgt := 963) B.C dL_law_378 (by decide) (fun _ => hnext σ1 τ1 hI1) (fun h => absurd rfl h)
set_option maxHeartbeats 4000000 in
set_option maxRecDepth 100000 in
theorem law_c7 {G : zG} {dC : Nat → ClassId} {dI : Nat → Nat → Nat} {A : Nat → Prop} {ac am : Nat → Nat} {cI cC cW : ClassId} {b Ln : Nat} {xs : Nat → Int32} {σ τ : zS} {Q : State → Prop} {x3 : Int32} (B : zB G dC dI A ac am cI cC cW b Ln xs) (hin : ∀ j : Nat, j < 6 → vp_in (x3 + nI j) Ln) (hI : zInv σ τ) (hnext : ∀ σ τ, zInv σ τ → gW G 4 (zV dC dI A (gS G) ac am cI cC cW σ τ) 600000 7302250 Q 963 [(0, .ref b), (1, .ref (ac 37)), (2, .ref (am 0)), (3, .int x3)] []) : gW G 4 (zV dC dI A (gS G) ac am cI cC cW σ τ) 600000 7302250 Q 383 [(0, .ref b), (1, .ref (ac 37)), (2, .ref (am 0)), (3, .int x3)] [] := by
  refine gx_aload_n B.C 1 dL_law_383 rfl rfl ?_
  refine gx_aload_n B.C 0 dL_law_384 rfl rfl ?_
  refine gx_iload_n B.C 3 dL_law_385 rfl rfl ?_
  refine gx_iconst (v := 1) B.C dL_law_386 (by decide) ?_
  refine gx_iadd B.C dL_law_387 ?_
  refine yx_sld B (hin 1 (by decide)) dL_law_388 ?_
  refine gx_aload_n B.C 0 dL_law_389 rfl rfl ?_
  refine gx_iload_n B.C 3 dL_law_390 rfl rfl ?_
  refine gx_iconst (v := 2) B.C dL_law_391 (by decide) ?_
  refine gx_iadd B.C dL_law_392 ?_
  refine yx_sld B (hin 2 (by decide)) dL_law_393 ?_
  obtain ⟨r, σ1, τ1, h1, h2, hI1⟩ := s_debt hI (xs (x3 + 1).toNatClampNeg) (xs (x3 + 2).toNatClampNeg)
  refine yx_callC (As := [.int (xs (x3 + 1).toNatClampNeg), .int (xs (x3 + 2).toNatClampNeg)]) (st := []) B (Nat.le_refl _) (Nat.le_refl _) (k_X10_debt B.hOC z_N (xs (x3 + 1).toNatClampNeg) (xs (x3 + 2).toNatClampNeg) σ) h1 yk_X10_debt q_476 q_477 q_478 (by decide) rfl rfl (Nat.le_of_ble_eq_true rfl) dL_law_394 ?_
  refine gx_aload_n B.C 2 dL_law_397 rfl rfl ?_
  refine gx_aload_n B.C 0 dL_law_398 rfl rfl ?_
  refine gx_iload_n B.C 3 dL_law_399 rfl rfl ?_
  refine gx_iconst (v := 1) B.C dL_law_400 (by decide) ?_
  refine gx_iadd B.C dL_law_401 ?_
  refine yx_sld B (hin 1 (by decide)) dL_law_402 ?_
  refine gx_aload_n B.C 0 dL_law_403 rfl rfl ?_
  refine gx_iload_n B.C 3 dL_law_404 rfl rfl ?_
  refine gx_iconst (v := 2) B.C dL_law_405 (by decide) ?_
  refine gx_iadd B.C dL_law_406 ?_
  refine yx_sld B (hin 2 (by decide)) dL_law_407 ?_
  refine yx_callM (As := [.int (xs (x3 + 1).toNatClampNeg), .int (xs (x3 + 2).toNatClampNeg)]) (st := [.int r]) B (Nat.le_refl _) (Nat.le_refl _) (k_X11_debt B.hOM z_N (xs (x3 + 1).toNatClampNeg) (xs (x3 + 2).toNatClampNeg) τ) h2 yk_X11_debt q_852 q_853 q_854 (by decide) rfl rfl (Nat.le_of_ble_eq_true rfl) dL_law_408 ?_
  exact gx_icmp_eq (tgt := 963) B.C dL_law_411 (by decide) (fun _ => hnext σ1 τ1 hI1) (fun h => absurd rfl h)
set_option maxHeartbeats 4000000 in
set_option maxRecDepth 100000 in
theorem law_c8 {G : zG} {dC : Nat → ClassId} {dI : Nat → Nat → Nat} {A : Nat → Prop} {ac am : Nat → Nat} {cI cC cW : ClassId} {b Ln : Nat} {xs : Nat → Int32} {σ τ : zS} {Q : State → Prop} {x3 : Int32} (B : zB G dC dI A ac am cI cC cW b Ln xs) (hin : ∀ j : Nat, j < 6 → vp_in (x3 + nI j) Ln) (hI : zInv σ τ) (hnext : ∀ σ τ, zInv σ τ → gW G 4 (zV dC dI A (gS G) ac am cI cC cW σ τ) 600000 7302250 Q 963 [(0, .ref b), (1, .ref (ac 37)), (2, .ref (am 0)), (3, .int x3)] []) : gW G 4 (zV dC dI A (gS G) ac am cI cC cW σ τ) 600000 7302250 Q 416 [(0, .ref b), (1, .ref (ac 37)), (2, .ref (am 0)), (3, .int x3)] [] := by
  refine gx_aload_n B.C 1 dL_law_416 rfl rfl ?_
  refine gx_aload_n B.C 0 dL_law_417 rfl rfl ?_
  refine gx_iload_n B.C 3 dL_law_418 rfl rfl ?_
  refine gx_iconst (v := 1) B.C dL_law_419 (by decide) ?_
  refine gx_iadd B.C dL_law_420 ?_
  refine yx_sld B (hin 1 (by decide)) dL_law_421 ?_
  obtain ⟨r, σ1, τ1, h1, h2, hI1⟩ := s_go hI (xs (x3 + 1).toNatClampNeg)
  refine yx_callC (As := [.int (xs (x3 + 1).toNatClampNeg)]) (st := []) B (Nat.le_refl _) (Nat.le_refl _) (k_X10_go B.hOC z_N (xs (x3 + 1).toNatClampNeg) σ) h1 yk_X10_go q_480 q_481 q_482 (by decide) rfl rfl (Nat.le_of_ble_eq_true rfl) dL_law_422 ?_
  refine gx_aload_n B.C 2 dL_law_425 rfl rfl ?_
  refine gx_aload_n B.C 0 dL_law_426 rfl rfl ?_
  refine gx_iload_n B.C 3 dL_law_427 rfl rfl ?_
  refine gx_iconst (v := 1) B.C dL_law_428 (by decide) ?_
  refine gx_iadd B.C dL_law_429 ?_
  refine yx_sld B (hin 1 (by decide)) dL_law_430 ?_
  refine yx_callM (As := [.int (xs (x3 + 1).toNatClampNeg)]) (st := [.int r]) B (Nat.le_refl _) (Nat.le_refl _) (k_X11_go B.hOM z_N (xs (x3 + 1).toNatClampNeg) τ) h2 yk_X11_go q_856 q_857 q_858 (by decide) rfl rfl (Nat.le_of_ble_eq_true rfl) dL_law_431 ?_
  exact gx_icmp_eq (tgt := 963) B.C dL_law_434 (by decide) (fun _ => hnext σ1 τ1 hI1) (fun h => absurd rfl h)
set_option maxHeartbeats 4000000 in
set_option maxRecDepth 100000 in
theorem law_c9 {G : zG} {dC : Nat → ClassId} {dI : Nat → Nat → Nat} {A : Nat → Prop} {ac am : Nat → Nat} {cI cC cW : ClassId} {b Ln : Nat} {xs : Nat → Int32} {σ τ : zS} {Q : State → Prop} {x3 : Int32} (B : zB G dC dI A ac am cI cC cW b Ln xs) (hin : ∀ j : Nat, j < 6 → vp_in (x3 + nI j) Ln) (hI : zInv σ τ) (hnext : ∀ σ τ, zInv σ τ → gW G 4 (zV dC dI A (gS G) ac am cI cC cW σ τ) 600000 7302250 Q 963 [(0, .ref b), (1, .ref (ac 37)), (2, .ref (am 0)), (3, .int x3)] []) : gW G 4 (zV dC dI A (gS G) ac am cI cC cW σ τ) 600000 7302250 Q 439 [(0, .ref b), (1, .ref (ac 37)), (2, .ref (am 0)), (3, .int x3)] [] := by
  refine gx_aload_n B.C 1 dL_law_439 rfl rfl ?_
  refine gx_aload_n B.C 0 dL_law_440 rfl rfl ?_
  refine gx_iload_n B.C 3 dL_law_441 rfl rfl ?_
  refine gx_iconst (v := 1) B.C dL_law_442 (by decide) ?_
  refine gx_iadd B.C dL_law_443 ?_
  refine yx_sld B (hin 1 (by decide)) dL_law_444 ?_
  refine gx_aload_n B.C 0 dL_law_445 rfl rfl ?_
  refine gx_iload_n B.C 3 dL_law_446 rfl rfl ?_
  refine gx_iconst (v := 2) B.C dL_law_447 (by decide) ?_
  refine gx_iadd B.C dL_law_448 ?_
  refine yx_sld B (hin 2 (by decide)) dL_law_449 ?_
  obtain ⟨r, σ1, τ1, h1, h2, hI1⟩ := s_behind hI (xs (x3 + 1).toNatClampNeg) (xs (x3 + 2).toNatClampNeg)
  refine yx_callC (As := [.int (xs (x3 + 1).toNatClampNeg), .int (xs (x3 + 2).toNatClampNeg)]) (st := []) B (Nat.le_refl _) (Nat.le_refl _) (k_X10_behind B.hOC z_N (xs (x3 + 1).toNatClampNeg) (xs (x3 + 2).toNatClampNeg) σ) h1 yk_X10_behind q_497 q_498 q_499 (by decide) rfl rfl (Nat.le_of_ble_eq_true rfl) dL_law_450 ?_
  refine gx_aload_n B.C 2 dL_law_453 rfl rfl ?_
  refine gx_aload_n B.C 0 dL_law_454 rfl rfl ?_
  refine gx_iload_n B.C 3 dL_law_455 rfl rfl ?_
  refine gx_iconst (v := 1) B.C dL_law_456 (by decide) ?_
  refine gx_iadd B.C dL_law_457 ?_
  refine yx_sld B (hin 1 (by decide)) dL_law_458 ?_
  refine gx_aload_n B.C 0 dL_law_459 rfl rfl ?_
  refine gx_iload_n B.C 3 dL_law_460 rfl rfl ?_
  refine gx_iconst (v := 2) B.C dL_law_461 (by decide) ?_
  refine gx_iadd B.C dL_law_462 ?_
  refine yx_sld B (hin 2 (by decide)) dL_law_463 ?_
  refine yx_callM (As := [.int (xs (x3 + 1).toNatClampNeg), .int (xs (x3 + 2).toNatClampNeg)]) (st := [.int r]) B (Nat.le_refl _) (Nat.le_refl _) (k_X11_behind B.hOM z_N (xs (x3 + 1).toNatClampNeg) (xs (x3 + 2).toNatClampNeg) τ) h2 yk_X11_behind q_872 q_873 q_874 (by decide) rfl rfl (Nat.le_of_ble_eq_true rfl) dL_law_464 ?_
  exact gx_icmp_eq (tgt := 963) B.C dL_law_467 (by decide) (fun _ => hnext σ1 τ1 hI1) (fun h => absurd rfl h)
set_option maxHeartbeats 4000000 in
set_option maxRecDepth 100000 in
theorem law_c10 {G : zG} {dC : Nat → ClassId} {dI : Nat → Nat → Nat} {A : Nat → Prop} {ac am : Nat → Nat} {cI cC cW : ClassId} {b Ln : Nat} {xs : Nat → Int32} {σ τ : zS} {Q : State → Prop} {x3 : Int32} (B : zB G dC dI A ac am cI cC cW b Ln xs) (hin : ∀ j : Nat, j < 6 → vp_in (x3 + nI j) Ln) (hI : zInv σ τ) (hnext : ∀ σ τ, zInv σ τ → gW G 4 (zV dC dI A (gS G) ac am cI cC cW σ τ) 600000 7302250 Q 963 [(0, .ref b), (1, .ref (ac 37)), (2, .ref (am 0)), (3, .int x3)] []) : gW G 4 (zV dC dI A (gS G) ac am cI cC cW σ τ) 600000 7302250 Q 472 [(0, .ref b), (1, .ref (ac 37)), (2, .ref (am 0)), (3, .int x3)] [] := by
  refine gx_aload_n B.C 1 dL_law_472 rfl rfl ?_
  refine gx_aload_n B.C 0 dL_law_473 rfl rfl ?_
  refine gx_iload_n B.C 3 dL_law_474 rfl rfl ?_
  refine gx_iconst (v := 1) B.C dL_law_475 (by decide) ?_
  refine gx_iadd B.C dL_law_476 ?_
  refine yx_sld B (hin 1 (by decide)) dL_law_477 ?_
  refine gx_aload_n B.C 0 dL_law_478 rfl rfl ?_
  refine gx_iload_n B.C 3 dL_law_479 rfl rfl ?_
  refine gx_iconst (v := 2) B.C dL_law_480 (by decide) ?_
  refine gx_iadd B.C dL_law_481 ?_
  refine yx_sld B (hin 2 (by decide)) dL_law_482 ?_
  refine gx_aload_n B.C 0 dL_law_483 rfl rfl ?_
  refine gx_iload_n B.C 3 dL_law_484 rfl rfl ?_
  refine gx_iconst (v := 3) B.C dL_law_485 (by decide) ?_
  refine gx_iadd B.C dL_law_486 ?_
  refine yx_sld B (hin 3 (by decide)) dL_law_487 ?_
  obtain ⟨r, σ1, τ1, h1, h2, hI1⟩ := s_owes hI (xs (x3 + 1).toNatClampNeg) (xs (x3 + 2).toNatClampNeg) (xs (x3 + 3).toNatClampNeg)
  refine yx_callC (As := [.int (xs (x3 + 1).toNatClampNeg), .int (xs (x3 + 2).toNatClampNeg), .int (xs (x3 + 3).toNatClampNeg)]) (st := []) B (Nat.le_refl _) (Nat.le_refl _) (k_X10_owes B.hOC z_N (xs (x3 + 1).toNatClampNeg) (xs (x3 + 2).toNatClampNeg) (xs (x3 + 3).toNatClampNeg) σ) h1 yk_X10_owes q_509 q_510 q_511 (by decide) rfl rfl (Nat.le_of_ble_eq_true rfl) dL_law_488 ?_
  refine gx_aload_n B.C 2 dL_law_491 rfl rfl ?_
  refine gx_aload_n B.C 0 dL_law_492 rfl rfl ?_
  refine gx_iload_n B.C 3 dL_law_493 rfl rfl ?_
  refine gx_iconst (v := 1) B.C dL_law_494 (by decide) ?_
  refine gx_iadd B.C dL_law_495 ?_
  refine yx_sld B (hin 1 (by decide)) dL_law_496 ?_
  refine gx_aload_n B.C 0 dL_law_497 rfl rfl ?_
  refine gx_iload_n B.C 3 dL_law_498 rfl rfl ?_
  refine gx_iconst (v := 2) B.C dL_law_499 (by decide) ?_
  refine gx_iadd B.C dL_law_500 ?_
  refine yx_sld B (hin 2 (by decide)) dL_law_501 ?_
  refine gx_aload_n B.C 0 dL_law_502 rfl rfl ?_
  refine gx_iload_n B.C 3 dL_law_503 rfl rfl ?_
  refine gx_iconst (v := 3) B.C dL_law_504 (by decide) ?_
  refine gx_iadd B.C dL_law_505 ?_
  refine yx_sld B (hin 3 (by decide)) dL_law_506 ?_
  refine yx_callM (As := [.int (xs (x3 + 1).toNatClampNeg), .int (xs (x3 + 2).toNatClampNeg), .int (xs (x3 + 3).toNatClampNeg)]) (st := [.int r]) B (Nat.le_refl _) (Nat.le_refl _) (k_X11_owes B.hOM z_N (xs (x3 + 1).toNatClampNeg) (xs (x3 + 2).toNatClampNeg) (xs (x3 + 3).toNatClampNeg) τ) h2 yk_X11_owes q_876 q_877 q_878 (by decide) rfl rfl (Nat.le_of_ble_eq_true rfl) dL_law_507 ?_
  exact gx_icmp_eq (tgt := 963) B.C dL_law_510 (by decide) (fun _ => hnext σ1 τ1 hI1) (fun h => absurd rfl h)
set_option maxHeartbeats 4000000 in
set_option maxRecDepth 100000 in
theorem law_c11 {G : zG} {dC : Nat → ClassId} {dI : Nat → Nat → Nat} {A : Nat → Prop} {ac am : Nat → Nat} {cI cC cW : ClassId} {b Ln : Nat} {xs : Nat → Int32} {σ τ : zS} {Q : State → Prop} {x3 : Int32} (B : zB G dC dI A ac am cI cC cW b Ln xs) (hin : ∀ j : Nat, j < 6 → vp_in (x3 + nI j) Ln) (hI : zInv σ τ) (hnext : ∀ σ τ, zInv σ τ → gW G 4 (zV dC dI A (gS G) ac am cI cC cW σ τ) 600000 7302250 Q 963 [(0, .ref b), (1, .ref (ac 37)), (2, .ref (am 0)), (3, .int x3)] []) : gW G 4 (zV dC dI A (gS G) ac am cI cC cW σ τ) 600000 7302250 Q 515 [(0, .ref b), (1, .ref (ac 37)), (2, .ref (am 0)), (3, .int x3)] [] := by
  refine gx_aload_n B.C 1 dL_law_515 rfl rfl ?_
  refine gx_aload_n B.C 0 dL_law_516 rfl rfl ?_
  refine gx_iload_n B.C 3 dL_law_517 rfl rfl ?_
  refine gx_iconst (v := 1) B.C dL_law_518 (by decide) ?_
  refine gx_iadd B.C dL_law_519 ?_
  refine yx_sld B (hin 1 (by decide)) dL_law_520 ?_
  refine gx_aload_n B.C 0 dL_law_521 rfl rfl ?_
  refine gx_iload_n B.C 3 dL_law_522 rfl rfl ?_
  refine gx_iconst (v := 2) B.C dL_law_523 (by decide) ?_
  refine gx_iadd B.C dL_law_524 ?_
  refine yx_sld B (hin 2 (by decide)) dL_law_525 ?_
  obtain ⟨r, σ1, τ1, h1, h2, hI1⟩ := s_reads hI (xs (x3 + 1).toNatClampNeg) (xs (x3 + 2).toNatClampNeg)
  refine yx_callC (As := [.int (xs (x3 + 1).toNatClampNeg), .int (xs (x3 + 2).toNatClampNeg)]) (st := []) B (Nat.le_refl _) (Nat.le_refl _) (k_X10_reads B.hOC z_N (xs (x3 + 1).toNatClampNeg) (xs (x3 + 2).toNatClampNeg) σ) h1 yk_X10_reads q_513 q_514 q_515 (by decide) rfl rfl (Nat.le_of_ble_eq_true rfl) dL_law_526 ?_
  refine gx_aload_n B.C 2 dL_law_529 rfl rfl ?_
  refine gx_aload_n B.C 0 dL_law_530 rfl rfl ?_
  refine gx_iload_n B.C 3 dL_law_531 rfl rfl ?_
  refine gx_iconst (v := 1) B.C dL_law_532 (by decide) ?_
  refine gx_iadd B.C dL_law_533 ?_
  refine yx_sld B (hin 1 (by decide)) dL_law_534 ?_
  refine gx_aload_n B.C 0 dL_law_535 rfl rfl ?_
  refine gx_iload_n B.C 3 dL_law_536 rfl rfl ?_
  refine gx_iconst (v := 2) B.C dL_law_537 (by decide) ?_
  refine gx_iadd B.C dL_law_538 ?_
  refine yx_sld B (hin 2 (by decide)) dL_law_539 ?_
  refine yx_callM (As := [.int (xs (x3 + 1).toNatClampNeg), .int (xs (x3 + 2).toNatClampNeg)]) (st := [.int r]) B (Nat.le_refl _) (Nat.le_refl _) (k_X11_reads B.hOM z_N (xs (x3 + 1).toNatClampNeg) (xs (x3 + 2).toNatClampNeg) τ) h2 yk_X11_reads q_880 q_881 q_882 (by decide) rfl rfl (Nat.le_of_ble_eq_true rfl) dL_law_540 ?_
  exact gx_icmp_eq (tgt := 963) B.C dL_law_543 (by decide) (fun _ => hnext σ1 τ1 hI1) (fun h => absurd rfl h)
set_option maxHeartbeats 4000000 in
set_option maxRecDepth 100000 in
theorem law_c12 {G : zG} {dC : Nat → ClassId} {dI : Nat → Nat → Nat} {A : Nat → Prop} {ac am : Nat → Nat} {cI cC cW : ClassId} {b Ln : Nat} {xs : Nat → Int32} {σ τ : zS} {Q : State → Prop} {x3 : Int32} (B : zB G dC dI A ac am cI cC cW b Ln xs) (hin : ∀ j : Nat, j < 6 → vp_in (x3 + nI j) Ln) (hI : zInv σ τ) (hnext : ∀ σ τ, zInv σ τ → gW G 4 (zV dC dI A (gS G) ac am cI cC cW σ τ) 600000 7302250 Q 963 [(0, .ref b), (1, .ref (ac 37)), (2, .ref (am 0)), (3, .int x3)] []) : gW G 4 (zV dC dI A (gS G) ac am cI cC cW σ τ) 600000 7302250 Q 548 [(0, .ref b), (1, .ref (ac 37)), (2, .ref (am 0)), (3, .int x3)] [] := by
  refine gx_aload_n B.C 1 dL_law_548 rfl rfl ?_
  refine gx_aload_n B.C 0 dL_law_549 rfl rfl ?_
  refine gx_iload_n B.C 3 dL_law_550 rfl rfl ?_
  refine gx_iconst (v := 1) B.C dL_law_551 (by decide) ?_
  refine gx_iadd B.C dL_law_552 ?_
  refine yx_sld B (hin 1 (by decide)) dL_law_553 ?_
  obtain ⟨r, σ1, τ1, h1, h2, hI1⟩ := s_ends hI (xs (x3 + 1).toNatClampNeg)
  refine yx_callC (As := [.int (xs (x3 + 1).toNatClampNeg)]) (st := []) B (Nat.le_refl _) (Nat.le_refl _) (k_X10_ends B.hOC z_N (xs (x3 + 1).toNatClampNeg) σ) h1 yk_X10_ends q_521 q_522 q_523 (by decide) rfl rfl (Nat.le_of_ble_eq_true rfl) dL_law_554 ?_
  refine gx_aload_n B.C 2 dL_law_557 rfl rfl ?_
  refine gx_aload_n B.C 0 dL_law_558 rfl rfl ?_
  refine gx_iload_n B.C 3 dL_law_559 rfl rfl ?_
  refine gx_iconst (v := 1) B.C dL_law_560 (by decide) ?_
  refine gx_iadd B.C dL_law_561 ?_
  refine yx_sld B (hin 1 (by decide)) dL_law_562 ?_
  refine yx_callM (As := [.int (xs (x3 + 1).toNatClampNeg)]) (st := [.int r]) B (Nat.le_refl _) (Nat.le_refl _) (k_X11_ends B.hOM z_N (xs (x3 + 1).toNatClampNeg) τ) h2 yk_X11_ends q_888 q_889 q_890 (by decide) rfl rfl (Nat.le_of_ble_eq_true rfl) dL_law_563 ?_
  exact gx_icmp_eq (tgt := 963) B.C dL_law_566 (by decide) (fun _ => hnext σ1 τ1 hI1) (fun h => absurd rfl h)
set_option maxHeartbeats 4000000 in
set_option maxRecDepth 100000 in
theorem law_c13 {G : zG} {dC : Nat → ClassId} {dI : Nat → Nat → Nat} {A : Nat → Prop} {ac am : Nat → Nat} {cI cC cW : ClassId} {b Ln : Nat} {xs : Nat → Int32} {σ τ : zS} {Q : State → Prop} {x3 : Int32} (B : zB G dC dI A ac am cI cC cW b Ln xs) (hin : ∀ j : Nat, j < 6 → vp_in (x3 + nI j) Ln) (hI : zInv σ τ) (hnext : ∀ σ τ, zInv σ τ → gW G 4 (zV dC dI A (gS G) ac am cI cC cW σ τ) 600000 7302250 Q 963 [(0, .ref b), (1, .ref (ac 37)), (2, .ref (am 0)), (3, .int x3)] []) : gW G 4 (zV dC dI A (gS G) ac am cI cC cW σ τ) 600000 7302250 Q 571 [(0, .ref b), (1, .ref (ac 37)), (2, .ref (am 0)), (3, .int x3)] [] := by
  refine gx_aload_n B.C 1 dL_law_571 rfl rfl ?_
  obtain ⟨r, σ1, τ1, h1, h2, hI1⟩ := s_clearBy hI
  refine yx_callC (As := []) (st := []) B (Nat.le_refl _) (Nat.le_refl _) (k_X10_clearBy B.hOC z_N σ) h1 yk_X10_clearBy q_525 q_526 q_527 (by decide) rfl rfl (Nat.le_of_ble_eq_true rfl) dL_law_572 ?_
  refine gx_aload_n B.C 2 dL_law_575 rfl rfl ?_
  refine yx_callM (As := []) (st := [.int r]) B (Nat.le_refl _) (Nat.le_refl _) (k_X11_clearBy B.hOM z_N τ) h2 yk_X11_clearBy q_892 q_893 q_894 (by decide) rfl rfl (Nat.le_of_ble_eq_true rfl) dL_law_576 ?_
  exact gx_icmp_eq (tgt := 963) B.C dL_law_579 (by decide) (fun _ => hnext σ1 τ1 hI1) (fun h => absurd rfl h)
set_option maxHeartbeats 4000000 in
set_option maxRecDepth 100000 in
theorem law_c14 {G : zG} {dC : Nat → ClassId} {dI : Nat → Nat → Nat} {A : Nat → Prop} {ac am : Nat → Nat} {cI cC cW : ClassId} {b Ln : Nat} {xs : Nat → Int32} {σ τ : zS} {Q : State → Prop} {x3 : Int32} (B : zB G dC dI A ac am cI cC cW b Ln xs) (hin : ∀ j : Nat, j < 6 → vp_in (x3 + nI j) Ln) (hI : zInv σ τ) (hnext : ∀ σ τ, zInv σ τ → gW G 4 (zV dC dI A (gS G) ac am cI cC cW σ τ) 600000 7302250 Q 963 [(0, .ref b), (1, .ref (ac 37)), (2, .ref (am 0)), (3, .int x3)] []) : gW G 4 (zV dC dI A (gS G) ac am cI cC cW σ τ) 600000 7302250 Q 584 [(0, .ref b), (1, .ref (ac 37)), (2, .ref (am 0)), (3, .int x3)] [] := by
  refine gx_aload_n B.C 1 dL_law_584 rfl rfl ?_
  refine gx_aload_n B.C 0 dL_law_585 rfl rfl ?_
  refine gx_iload_n B.C 3 dL_law_586 rfl rfl ?_
  refine gx_iconst (v := 1) B.C dL_law_587 (by decide) ?_
  refine gx_iadd B.C dL_law_588 ?_
  refine yx_sld B (hin 1 (by decide)) dL_law_589 ?_
  obtain ⟨r, σ1, τ1, h1, h2, hI1⟩ := s_dark hI (xs (x3 + 1).toNatClampNeg)
  refine yx_callC (As := [.int (xs (x3 + 1).toNatClampNeg)]) (st := []) B (Nat.le_refl _) (Nat.le_refl _) (k_X10_dark B.hOC z_N (xs (x3 + 1).toNatClampNeg) σ) h1 yk_X10_dark q_533 q_534 q_535 (by decide) rfl rfl (Nat.le_of_ble_eq_true rfl) dL_law_590 ?_
  refine gx_aload_n B.C 2 dL_law_593 rfl rfl ?_
  refine gx_aload_n B.C 0 dL_law_594 rfl rfl ?_
  refine gx_iload_n B.C 3 dL_law_595 rfl rfl ?_
  refine gx_iconst (v := 1) B.C dL_law_596 (by decide) ?_
  refine gx_iadd B.C dL_law_597 ?_
  refine yx_sld B (hin 1 (by decide)) dL_law_598 ?_
  refine yx_callM (As := [.int (xs (x3 + 1).toNatClampNeg)]) (st := [.int r]) B (Nat.le_refl _) (Nat.le_refl _) (k_X11_dark B.hOM z_N (xs (x3 + 1).toNatClampNeg) τ) h2 yk_X11_dark q_900 q_901 q_902 (by decide) rfl rfl (Nat.le_of_ble_eq_true rfl) dL_law_599 ?_
  exact gx_icmp_eq (tgt := 963) B.C dL_law_602 (by decide) (fun _ => hnext σ1 τ1 hI1) (fun h => absurd rfl h)
set_option maxHeartbeats 4000000 in
set_option maxRecDepth 100000 in
theorem law_c15 {G : zG} {dC : Nat → ClassId} {dI : Nat → Nat → Nat} {A : Nat → Prop} {ac am : Nat → Nat} {cI cC cW : ClassId} {b Ln : Nat} {xs : Nat → Int32} {σ τ : zS} {Q : State → Prop} {x3 : Int32} (B : zB G dC dI A ac am cI cC cW b Ln xs) (hin : ∀ j : Nat, j < 6 → vp_in (x3 + nI j) Ln) (hI : zInv σ τ) (hnext : ∀ σ τ, zInv σ τ → gW G 4 (zV dC dI A (gS G) ac am cI cC cW σ τ) 600000 7302250 Q 963 [(0, .ref b), (1, .ref (ac 37)), (2, .ref (am 0)), (3, .int x3)] []) : gW G 4 (zV dC dI A (gS G) ac am cI cC cW σ τ) 600000 7302250 Q 607 [(0, .ref b), (1, .ref (ac 37)), (2, .ref (am 0)), (3, .int x3)] [] := by
  refine gx_aload_n B.C 1 dL_law_607 rfl rfl ?_
  refine gx_aload_n B.C 0 dL_law_608 rfl rfl ?_
  refine gx_iload_n B.C 3 dL_law_609 rfl rfl ?_
  refine gx_iconst (v := 1) B.C dL_law_610 (by decide) ?_
  refine gx_iadd B.C dL_law_611 ?_
  refine yx_sld B (hin 1 (by decide)) dL_law_612 ?_
  refine gx_aload_n B.C 0 dL_law_613 rfl rfl ?_
  refine gx_iload_n B.C 3 dL_law_614 rfl rfl ?_
  refine gx_iconst (v := 2) B.C dL_law_615 (by decide) ?_
  refine gx_iadd B.C dL_law_616 ?_
  refine yx_sld B (hin 2 (by decide)) dL_law_617 ?_
  obtain ⟨r, σ1, τ1, h1, h2, hI1⟩ := s_best hI (xs (x3 + 1).toNatClampNeg) (xs (x3 + 2).toNatClampNeg)
  refine yx_callC (As := [.int (xs (x3 + 1).toNatClampNeg), .int (xs (x3 + 2).toNatClampNeg)]) (st := []) B (Nat.le_refl _) (Nat.le_refl _) (k_X10_best B.hOC z_N (xs (x3 + 1).toNatClampNeg) (xs (x3 + 2).toNatClampNeg) σ) h1 yk_X10_best q_541 q_542 q_543 (by decide) rfl rfl (Nat.le_of_ble_eq_true rfl) dL_law_618 ?_
  refine gx_aload_n B.C 2 dL_law_621 rfl rfl ?_
  refine gx_aload_n B.C 0 dL_law_622 rfl rfl ?_
  refine gx_iload_n B.C 3 dL_law_623 rfl rfl ?_
  refine gx_iconst (v := 1) B.C dL_law_624 (by decide) ?_
  refine gx_iadd B.C dL_law_625 ?_
  refine yx_sld B (hin 1 (by decide)) dL_law_626 ?_
  refine gx_aload_n B.C 0 dL_law_627 rfl rfl ?_
  refine gx_iload_n B.C 3 dL_law_628 rfl rfl ?_
  refine gx_iconst (v := 2) B.C dL_law_629 (by decide) ?_
  refine gx_iadd B.C dL_law_630 ?_
  refine yx_sld B (hin 2 (by decide)) dL_law_631 ?_
  refine yx_callM (As := [.int (xs (x3 + 1).toNatClampNeg), .int (xs (x3 + 2).toNatClampNeg)]) (st := [.int r]) B (Nat.le_refl _) (Nat.le_refl _) (k_X11_best B.hOM z_N (xs (x3 + 1).toNatClampNeg) (xs (x3 + 2).toNatClampNeg) τ) h2 yk_X11_best q_904 q_905 q_906 (by decide) rfl rfl (Nat.le_of_ble_eq_true rfl) dL_law_632 ?_
  exact gx_icmp_eq (tgt := 963) B.C dL_law_635 (by decide) (fun _ => hnext σ1 τ1 hI1) (fun h => absurd rfl h)
set_option maxHeartbeats 4000000 in
set_option maxRecDepth 100000 in
theorem law_c16 {G : zG} {dC : Nat → ClassId} {dI : Nat → Nat → Nat} {A : Nat → Prop} {ac am : Nat → Nat} {cI cC cW : ClassId} {b Ln : Nat} {xs : Nat → Int32} {σ τ : zS} {Q : State → Prop} {x3 : Int32} (B : zB G dC dI A ac am cI cC cW b Ln xs) (hin : ∀ j : Nat, j < 6 → vp_in (x3 + nI j) Ln) (hI : zInv σ τ) (hnext : ∀ σ τ, zInv σ τ → gW G 4 (zV dC dI A (gS G) ac am cI cC cW σ τ) 600000 7302250 Q 963 [(0, .ref b), (1, .ref (ac 37)), (2, .ref (am 0)), (3, .int x3)] []) : gW G 4 (zV dC dI A (gS G) ac am cI cC cW σ τ) 600000 7302250 Q 640 [(0, .ref b), (1, .ref (ac 37)), (2, .ref (am 0)), (3, .int x3)] [] := by
  refine gx_aload_n B.C 1 dL_law_640 rfl rfl ?_
  refine gx_aload_n B.C 0 dL_law_641 rfl rfl ?_
  refine gx_iload_n B.C 3 dL_law_642 rfl rfl ?_
  refine gx_iconst (v := 1) B.C dL_law_643 (by decide) ?_
  refine gx_iadd B.C dL_law_644 ?_
  refine yx_sld B (hin 1 (by decide)) dL_law_645 ?_
  refine gx_aload_n B.C 0 dL_law_646 rfl rfl ?_
  refine gx_iload_n B.C 3 dL_law_647 rfl rfl ?_
  refine gx_iconst (v := 2) B.C dL_law_648 (by decide) ?_
  refine gx_iadd B.C dL_law_649 ?_
  refine yx_sld B (hin 2 (by decide)) dL_law_650 ?_
  refine gx_aload_n B.C 0 dL_law_651 rfl rfl ?_
  refine gx_iload_n B.C 3 dL_law_652 rfl rfl ?_
  refine gx_iconst (v := 3) B.C dL_law_653 (by decide) ?_
  refine gx_iadd B.C dL_law_654 ?_
  refine yx_sld B (hin 3 (by decide)) dL_law_655 ?_
  refine gx_aload_n B.C 0 dL_law_656 rfl rfl ?_
  refine gx_iload_n B.C 3 dL_law_657 rfl rfl ?_
  refine gx_iconst (v := 4) B.C dL_law_658 (by decide) ?_
  refine gx_iadd B.C dL_law_659 ?_
  refine yx_sld B (hin 4 (by decide)) dL_law_660 ?_
  obtain ⟨r, σ1, τ1, h1, h2, hI1⟩ := s_pour hI (xs (x3 + 1).toNatClampNeg) (xs (x3 + 2).toNatClampNeg) (xs (x3 + 3).toNatClampNeg) (xs (x3 + 4).toNatClampNeg)
  refine yx_callC (As := [.int (xs (x3 + 1).toNatClampNeg), .int (xs (x3 + 2).toNatClampNeg), .int (xs (x3 + 3).toNatClampNeg), .int (xs (x3 + 4).toNatClampNeg)]) (st := []) B (Nat.le_refl _) (Nat.le_refl _) (k_X10_pour B.hOC z_N (xs (x3 + 1).toNatClampNeg) (xs (x3 + 2).toNatClampNeg) (xs (x3 + 3).toNatClampNeg) (xs (x3 + 4).toNatClampNeg) σ) h1 yk_X10_pour q_566 q_567 q_568 (by decide) rfl rfl (Nat.le_of_ble_eq_true rfl) dL_law_661 ?_
  refine gx_aload_n B.C 2 dL_law_664 rfl rfl ?_
  refine gx_aload_n B.C 0 dL_law_665 rfl rfl ?_
  refine gx_iload_n B.C 3 dL_law_666 rfl rfl ?_
  refine gx_iconst (v := 1) B.C dL_law_667 (by decide) ?_
  refine gx_iadd B.C dL_law_668 ?_
  refine yx_sld B (hin 1 (by decide)) dL_law_669 ?_
  refine gx_aload_n B.C 0 dL_law_670 rfl rfl ?_
  refine gx_iload_n B.C 3 dL_law_671 rfl rfl ?_
  refine gx_iconst (v := 2) B.C dL_law_672 (by decide) ?_
  refine gx_iadd B.C dL_law_673 ?_
  refine yx_sld B (hin 2 (by decide)) dL_law_674 ?_
  refine gx_aload_n B.C 0 dL_law_675 rfl rfl ?_
  refine gx_iload_n B.C 3 dL_law_676 rfl rfl ?_
  refine gx_iconst (v := 3) B.C dL_law_677 (by decide) ?_
  refine gx_iadd B.C dL_law_678 ?_
  refine yx_sld B (hin 3 (by decide)) dL_law_679 ?_
  refine gx_aload_n B.C 0 dL_law_680 rfl rfl ?_
  refine gx_iload_n B.C 3 dL_law_681 rfl rfl ?_
  refine gx_iconst (v := 4) B.C dL_law_682 (by decide) ?_
  refine gx_iadd B.C dL_law_683 ?_
  refine yx_sld B (hin 4 (by decide)) dL_law_684 ?_
  refine yx_callM (As := [.int (xs (x3 + 1).toNatClampNeg), .int (xs (x3 + 2).toNatClampNeg), .int (xs (x3 + 3).toNatClampNeg), .int (xs (x3 + 4).toNatClampNeg)]) (st := [.int r]) B (Nat.le_refl _) (Nat.le_refl _) (k_X11_pour B.hOM z_N (xs (x3 + 1).toNatClampNeg) (xs (x3 + 2).toNatClampNeg) (xs (x3 + 3).toNatClampNeg) (xs (x3 + 4).toNatClampNeg) τ) h2 yk_X11_pour q_919 q_920 q_921 (by decide) rfl rfl (Nat.le_of_ble_eq_true rfl) dL_law_685 ?_
  exact gx_icmp_eq (tgt := 963) B.C dL_law_688 (by decide) (fun _ => hnext σ1 τ1 hI1) (fun h => absurd rfl h)
set_option maxHeartbeats 4000000 in
set_option maxRecDepth 100000 in
theorem law_c17 {G : zG} {dC : Nat → ClassId} {dI : Nat → Nat → Nat} {A : Nat → Prop} {ac am : Nat → Nat} {cI cC cW : ClassId} {b Ln : Nat} {xs : Nat → Int32} {σ τ : zS} {Q : State → Prop} {x3 : Int32} (B : zB G dC dI A ac am cI cC cW b Ln xs) (hin : ∀ j : Nat, j < 6 → vp_in (x3 + nI j) Ln) (hI : zInv σ τ) (hnext : ∀ σ τ, zInv σ τ → gW G 4 (zV dC dI A (gS G) ac am cI cC cW σ τ) 600000 7302250 Q 963 [(0, .ref b), (1, .ref (ac 37)), (2, .ref (am 0)), (3, .int x3)] []) : gW G 4 (zV dC dI A (gS G) ac am cI cC cW σ τ) 600000 7302250 Q 693 [(0, .ref b), (1, .ref (ac 37)), (2, .ref (am 0)), (3, .int x3)] [] := by
  refine gx_aload_n B.C 1 dL_law_693 rfl rfl ?_
  obtain ⟨r, σ1, τ1, h1, h2, hI1⟩ := s_strike hI
  refine yx_callC (As := []) (st := []) B (Nat.le_refl _) (Nat.le_refl _) (k_X10_strike B.hOC z_N σ) h1 yk_X10_strike q_576 q_577 q_578 (by decide) rfl rfl (Nat.le_of_ble_eq_true rfl) dL_law_694 ?_
  refine gx_aload_n B.C 2 dL_law_697 rfl rfl ?_
  refine yx_callM (As := []) (st := [.int r]) B (Nat.le_refl _) (Nat.le_refl _) (k_X11_strike B.hOM z_N τ) h2 yk_X11_strike q_926 q_927 q_928 (by decide) rfl rfl (Nat.le_of_ble_eq_true rfl) dL_law_698 ?_
  exact gx_icmp_eq (tgt := 963) B.C dL_law_701 (by decide) (fun _ => hnext σ1 τ1 hI1) (fun h => absurd rfl h)
set_option maxHeartbeats 4000000 in
set_option maxRecDepth 100000 in
theorem law_c18 {G : zG} {dC : Nat → ClassId} {dI : Nat → Nat → Nat} {A : Nat → Prop} {ac am : Nat → Nat} {cI cC cW : ClassId} {b Ln : Nat} {xs : Nat → Int32} {σ τ : zS} {Q : State → Prop} {x3 : Int32} (B : zB G dC dI A ac am cI cC cW b Ln xs) (hin : ∀ j : Nat, j < 6 → vp_in (x3 + nI j) Ln) (hI : zInv σ τ) (hnext : ∀ σ τ, zInv σ τ → gW G 4 (zV dC dI A (gS G) ac am cI cC cW σ τ) 600000 7302250 Q 963 [(0, .ref b), (1, .ref (ac 37)), (2, .ref (am 0)), (3, .int x3)] []) : gW G 4 (zV dC dI A (gS G) ac am cI cC cW σ τ) 600000 7302250 Q 706 [(0, .ref b), (1, .ref (ac 37)), (2, .ref (am 0)), (3, .int x3)] [] := by
  refine gx_aload_n B.C 1 dL_law_706 rfl rfl ?_
  refine gx_aload_n B.C 0 dL_law_707 rfl rfl ?_
  refine gx_iload_n B.C 3 dL_law_708 rfl rfl ?_
  refine gx_iconst (v := 1) B.C dL_law_709 (by decide) ?_
  refine gx_iadd B.C dL_law_710 ?_
  refine yx_sld B (hin 1 (by decide)) dL_law_711 ?_
  obtain ⟨r, σ1, τ1, h1, h2, hI1⟩ := s_owed hI (xs (x3 + 1).toNatClampNeg)
  refine yx_callC (As := [.int (xs (x3 + 1).toNatClampNeg)]) (st := []) B (Nat.le_refl _) (Nat.le_refl _) (k_X10_owed B.hOC z_N (xs (x3 + 1).toNatClampNeg) σ) h1 yk_X10_owed q_592 q_593 q_594 (by decide) rfl rfl (Nat.le_of_ble_eq_true rfl) dL_law_712 ?_
  refine gx_aload_n B.C 2 dL_law_715 rfl rfl ?_
  refine gx_aload_n B.C 0 dL_law_716 rfl rfl ?_
  refine gx_iload_n B.C 3 dL_law_717 rfl rfl ?_
  refine gx_iconst (v := 1) B.C dL_law_718 (by decide) ?_
  refine gx_iadd B.C dL_law_719 ?_
  refine yx_sld B (hin 1 (by decide)) dL_law_720 ?_
  refine yx_callM (As := [.int (xs (x3 + 1).toNatClampNeg)]) (st := [.int r]) B (Nat.le_refl _) (Nat.le_refl _) (k_X11_owed B.hOM z_N (xs (x3 + 1).toNatClampNeg) τ) h2 yk_X11_owed q_942 q_943 q_944 (by decide) rfl rfl (Nat.le_of_ble_eq_true rfl) dL_law_721 ?_
  exact gx_icmp_eq (tgt := 963) B.C dL_law_724 (by decide) (fun _ => hnext σ1 τ1 hI1) (fun h => absurd rfl h)
set_option maxHeartbeats 4000000 in
set_option maxRecDepth 100000 in
theorem law_c19 {G : zG} {dC : Nat → ClassId} {dI : Nat → Nat → Nat} {A : Nat → Prop} {ac am : Nat → Nat} {cI cC cW : ClassId} {b Ln : Nat} {xs : Nat → Int32} {σ τ : zS} {Q : State → Prop} {x3 : Int32} (B : zB G dC dI A ac am cI cC cW b Ln xs) (hin : ∀ j : Nat, j < 6 → vp_in (x3 + nI j) Ln) (hI : zInv σ τ) (hnext : ∀ σ τ, zInv σ τ → gW G 4 (zV dC dI A (gS G) ac am cI cC cW σ τ) 600000 7302250 Q 963 [(0, .ref b), (1, .ref (ac 37)), (2, .ref (am 0)), (3, .int x3)] []) : gW G 4 (zV dC dI A (gS G) ac am cI cC cW σ τ) 600000 7302250 Q 729 [(0, .ref b), (1, .ref (ac 37)), (2, .ref (am 0)), (3, .int x3)] [] := by
  refine gx_aload_n B.C 1 dL_law_729 rfl rfl ?_
  refine gx_aload_n B.C 0 dL_law_730 rfl rfl ?_
  refine gx_iload_n B.C 3 dL_law_731 rfl rfl ?_
  refine gx_iconst (v := 1) B.C dL_law_732 (by decide) ?_
  refine gx_iadd B.C dL_law_733 ?_
  refine yx_sld B (hin 1 (by decide)) dL_law_734 ?_
  refine gx_aload_n B.C 0 dL_law_735 rfl rfl ?_
  refine gx_iload_n B.C 3 dL_law_736 rfl rfl ?_
  refine gx_iconst (v := 2) B.C dL_law_737 (by decide) ?_
  refine gx_iadd B.C dL_law_738 ?_
  refine yx_sld B (hin 2 (by decide)) dL_law_739 ?_
  refine gx_aload_n B.C 0 dL_law_740 rfl rfl ?_
  refine gx_iload_n B.C 3 dL_law_741 rfl rfl ?_
  refine gx_iconst (v := 3) B.C dL_law_742 (by decide) ?_
  refine gx_iadd B.C dL_law_743 ?_
  refine yx_sld B (hin 3 (by decide)) dL_law_744 ?_
  refine gx_aload_n B.C 0 dL_law_745 rfl rfl ?_
  refine gx_iload_n B.C 3 dL_law_746 rfl rfl ?_
  refine gx_iconst (v := 4) B.C dL_law_747 (by decide) ?_
  refine gx_iadd B.C dL_law_748 ?_
  refine yx_sld B (hin 4 (by decide)) dL_law_749 ?_
  refine gx_aload_n B.C 0 dL_law_750 rfl rfl ?_
  refine gx_iload_n B.C 3 dL_law_751 rfl rfl ?_
  refine gx_iconst (v := 5) B.C dL_law_752 (by decide) ?_
  refine gx_iadd B.C dL_law_753 ?_
  refine yx_sld B (hin 5 (by decide)) dL_law_754 ?_
  obtain ⟨r, σ1, τ1, h1, h2, hI1⟩ := s_cheat hI (xs (x3 + 1).toNatClampNeg) (xs (x3 + 2).toNatClampNeg) (xs (x3 + 3).toNatClampNeg) (xs (x3 + 4).toNatClampNeg) (xs (x3 + 5).toNatClampNeg)
  refine yx_callC (As := [.int (xs (x3 + 1).toNatClampNeg), .int (xs (x3 + 2).toNatClampNeg), .int (xs (x3 + 3).toNatClampNeg), .int (xs (x3 + 4).toNatClampNeg), .int (xs (x3 + 5).toNatClampNeg)]) (st := []) B (Nat.le_refl _) (Nat.le_refl _) (k_X10_cheat B.hOC z_N (xs (x3 + 1).toNatClampNeg) (xs (x3 + 2).toNatClampNeg) (xs (x3 + 3).toNatClampNeg) (xs (x3 + 4).toNatClampNeg) (xs (x3 + 5).toNatClampNeg) σ) h1 yk_X10_cheat q_601 q_602 q_603 (by decide) rfl rfl (Nat.le_of_ble_eq_true rfl) dL_law_755 ?_
  refine gx_aload_n B.C 2 dL_law_758 rfl rfl ?_
  refine gx_aload_n B.C 0 dL_law_759 rfl rfl ?_
  refine gx_iload_n B.C 3 dL_law_760 rfl rfl ?_
  refine gx_iconst (v := 1) B.C dL_law_761 (by decide) ?_
  refine gx_iadd B.C dL_law_762 ?_
  refine yx_sld B (hin 1 (by decide)) dL_law_763 ?_
  refine gx_aload_n B.C 0 dL_law_764 rfl rfl ?_
  refine gx_iload_n B.C 3 dL_law_765 rfl rfl ?_
  refine gx_iconst (v := 2) B.C dL_law_766 (by decide) ?_
  refine gx_iadd B.C dL_law_767 ?_
  refine yx_sld B (hin 2 (by decide)) dL_law_768 ?_
  refine gx_aload_n B.C 0 dL_law_769 rfl rfl ?_
  refine gx_iload_n B.C 3 dL_law_770 rfl rfl ?_
  refine gx_iconst (v := 3) B.C dL_law_771 (by decide) ?_
  refine gx_iadd B.C dL_law_772 ?_
  refine yx_sld B (hin 3 (by decide)) dL_law_773 ?_
  refine gx_aload_n B.C 0 dL_law_774 rfl rfl ?_
  refine gx_iload_n B.C 3 dL_law_775 rfl rfl ?_
  refine gx_iconst (v := 4) B.C dL_law_776 (by decide) ?_
  refine gx_iadd B.C dL_law_777 ?_
  refine yx_sld B (hin 4 (by decide)) dL_law_778 ?_
  refine gx_aload_n B.C 0 dL_law_779 rfl rfl ?_
  refine gx_iload_n B.C 3 dL_law_780 rfl rfl ?_
  refine gx_iconst (v := 5) B.C dL_law_781 (by decide) ?_
  refine gx_iadd B.C dL_law_782 ?_
  refine yx_sld B (hin 5 (by decide)) dL_law_783 ?_
  refine yx_callM (As := [.int (xs (x3 + 1).toNatClampNeg), .int (xs (x3 + 2).toNatClampNeg), .int (xs (x3 + 3).toNatClampNeg), .int (xs (x3 + 4).toNatClampNeg), .int (xs (x3 + 5).toNatClampNeg)]) (st := [.int r]) B (Nat.le_refl _) (Nat.le_refl _) (k_X11_cheat B.hOM z_N (xs (x3 + 1).toNatClampNeg) (xs (x3 + 2).toNatClampNeg) (xs (x3 + 3).toNatClampNeg) (xs (x3 + 4).toNatClampNeg) (xs (x3 + 5).toNatClampNeg) τ) h2 yk_X11_cheat q_951 q_952 q_953 (by decide) rfl rfl (Nat.le_of_ble_eq_true rfl) dL_law_784 ?_
  exact gx_icmp_eq (tgt := 963) B.C dL_law_787 (by decide) (fun _ => hnext σ1 τ1 hI1) (fun h => absurd rfl h)
set_option maxHeartbeats 4000000 in
set_option maxRecDepth 100000 in
theorem law_c20 {G : zG} {dC : Nat → ClassId} {dI : Nat → Nat → Nat} {A : Nat → Prop} {ac am : Nat → Nat} {cI cC cW : ClassId} {b Ln : Nat} {xs : Nat → Int32} {σ τ : zS} {Q : State → Prop} {x3 : Int32} (B : zB G dC dI A ac am cI cC cW b Ln xs) (hin : ∀ j : Nat, j < 6 → vp_in (x3 + nI j) Ln) (hI : zInv σ τ) (hnext : ∀ σ τ, zInv σ τ → gW G 4 (zV dC dI A (gS G) ac am cI cC cW σ τ) 600000 7302250 Q 963 [(0, .ref b), (1, .ref (ac 37)), (2, .ref (am 0)), (3, .int x3)] []) : gW G 4 (zV dC dI A (gS G) ac am cI cC cW σ τ) 600000 7302250 Q 792 [(0, .ref b), (1, .ref (ac 37)), (2, .ref (am 0)), (3, .int x3)] [] := by
  refine gx_aload_n B.C 1 dL_law_792 rfl rfl ?_
  refine gx_aload_n B.C 0 dL_law_793 rfl rfl ?_
  refine gx_iload_n B.C 3 dL_law_794 rfl rfl ?_
  refine gx_iconst (v := 1) B.C dL_law_795 (by decide) ?_
  refine gx_iadd B.C dL_law_796 ?_
  refine yx_sld B (hin 1 (by decide)) dL_law_797 ?_
  refine gx_aload_n B.C 0 dL_law_798 rfl rfl ?_
  refine gx_iload_n B.C 3 dL_law_799 rfl rfl ?_
  refine gx_iconst (v := 2) B.C dL_law_800 (by decide) ?_
  refine gx_iadd B.C dL_law_801 ?_
  refine yx_sld B (hin 2 (by decide)) dL_law_802 ?_
  refine gx_aload_n B.C 0 dL_law_803 rfl rfl ?_
  refine gx_iload_n B.C 3 dL_law_804 rfl rfl ?_
  refine gx_iconst (v := 3) B.C dL_law_805 (by decide) ?_
  refine gx_iadd B.C dL_law_806 ?_
  refine yx_sld B (hin 3 (by decide)) dL_law_807 ?_
  refine gx_aload_n B.C 0 dL_law_808 rfl rfl ?_
  refine gx_iload_n B.C 3 dL_law_809 rfl rfl ?_
  refine gx_iconst (v := 4) B.C dL_law_810 (by decide) ?_
  refine gx_iadd B.C dL_law_811 ?_
  refine yx_sld B (hin 4 (by decide)) dL_law_812 ?_
  obtain ⟨r, σ1, τ1, h1, h2, hI1⟩ := s_dripped hI (xs (x3 + 1).toNatClampNeg) (xs (x3 + 2).toNatClampNeg) (xs (x3 + 3).toNatClampNeg) (xs (x3 + 4).toNatClampNeg)
  refine yx_callC (As := [.int (xs (x3 + 1).toNatClampNeg), .int (xs (x3 + 2).toNatClampNeg), .int (xs (x3 + 3).toNatClampNeg), .int (xs (x3 + 4).toNatClampNeg)]) (st := []) B (Nat.le_refl _) (Nat.le_refl _) (k_X10_dripped B.hOC z_N (xs (x3 + 1).toNatClampNeg) (xs (x3 + 2).toNatClampNeg) (xs (x3 + 3).toNatClampNeg) (xs (x3 + 4).toNatClampNeg) σ) h1 yk_X10_dripped q_606 q_607 q_608 (by decide) rfl rfl (Nat.le_of_ble_eq_true rfl) dL_law_813 ?_
  refine gx_aload_n B.C 2 dL_law_816 rfl rfl ?_
  refine gx_aload_n B.C 0 dL_law_817 rfl rfl ?_
  refine gx_iload_n B.C 3 dL_law_818 rfl rfl ?_
  refine gx_iconst (v := 1) B.C dL_law_819 (by decide) ?_
  refine gx_iadd B.C dL_law_820 ?_
  refine yx_sld B (hin 1 (by decide)) dL_law_821 ?_
  refine gx_aload_n B.C 0 dL_law_822 rfl rfl ?_
  refine gx_iload_n B.C 3 dL_law_823 rfl rfl ?_
  refine gx_iconst (v := 2) B.C dL_law_824 (by decide) ?_
  refine gx_iadd B.C dL_law_825 ?_
  refine yx_sld B (hin 2 (by decide)) dL_law_826 ?_
  refine gx_aload_n B.C 0 dL_law_827 rfl rfl ?_
  refine gx_iload_n B.C 3 dL_law_828 rfl rfl ?_
  refine gx_iconst (v := 3) B.C dL_law_829 (by decide) ?_
  refine gx_iadd B.C dL_law_830 ?_
  refine yx_sld B (hin 3 (by decide)) dL_law_831 ?_
  refine gx_aload_n B.C 0 dL_law_832 rfl rfl ?_
  refine gx_iload_n B.C 3 dL_law_833 rfl rfl ?_
  refine gx_iconst (v := 4) B.C dL_law_834 (by decide) ?_
  refine gx_iadd B.C dL_law_835 ?_
  refine yx_sld B (hin 4 (by decide)) dL_law_836 ?_
  refine yx_callM (As := [.int (xs (x3 + 1).toNatClampNeg), .int (xs (x3 + 2).toNatClampNeg), .int (xs (x3 + 3).toNatClampNeg), .int (xs (x3 + 4).toNatClampNeg)]) (st := [.int r]) B (Nat.le_refl _) (Nat.le_refl _) (k_X11_dripped B.hOM z_N (xs (x3 + 1).toNatClampNeg) (xs (x3 + 2).toNatClampNeg) (xs (x3 + 3).toNatClampNeg) (xs (x3 + 4).toNatClampNeg) τ) h2 yk_X11_dripped q_955 q_956 q_957 (by decide) rfl rfl (Nat.le_of_ble_eq_true rfl) dL_law_837 ?_
  exact gx_icmp_eq (tgt := 963) B.C dL_law_840 (by decide) (fun _ => hnext σ1 τ1 hI1) (fun h => absurd rfl h)
set_option maxHeartbeats 4000000 in
set_option maxRecDepth 100000 in
theorem law_c21 {G : zG} {dC : Nat → ClassId} {dI : Nat → Nat → Nat} {A : Nat → Prop} {ac am : Nat → Nat} {cI cC cW : ClassId} {b Ln : Nat} {xs : Nat → Int32} {σ τ : zS} {Q : State → Prop} {x3 : Int32} (B : zB G dC dI A ac am cI cC cW b Ln xs) (hin : ∀ j : Nat, j < 6 → vp_in (x3 + nI j) Ln) (hI : zInv σ τ) (hnext : ∀ σ τ, zInv σ τ → gW G 4 (zV dC dI A (gS G) ac am cI cC cW σ τ) 600000 7302250 Q 963 [(0, .ref b), (1, .ref (ac 37)), (2, .ref (am 0)), (3, .int x3)] []) : gW G 4 (zV dC dI A (gS G) ac am cI cC cW σ τ) 600000 7302250 Q 845 [(0, .ref b), (1, .ref (ac 37)), (2, .ref (am 0)), (3, .int x3)] [] := by
  refine gx_aload_n B.C 1 dL_law_845 rfl rfl ?_
  refine gx_aload_n B.C 0 dL_law_846 rfl rfl ?_
  refine gx_iload_n B.C 3 dL_law_847 rfl rfl ?_
  refine gx_iconst (v := 1) B.C dL_law_848 (by decide) ?_
  refine gx_iadd B.C dL_law_849 ?_
  refine yx_sld B (hin 1 (by decide)) dL_law_850 ?_
  obtain ⟨r, σ1, τ1, h1, h2, hI1⟩ := s_row hI (xs (x3 + 1).toNatClampNeg)
  refine yx_callC (As := [.int (xs (x3 + 1).toNatClampNeg)]) (st := []) B (Nat.le_refl _) (Nat.le_refl _) (k_X10_row B.hOC z_N (xs (x3 + 1).toNatClampNeg) σ) h1 yk_X10_row q_611 q_612 q_613 (by decide) rfl rfl (Nat.le_of_ble_eq_true rfl) dL_law_851 ?_
  refine gx_aload_n B.C 2 dL_law_854 rfl rfl ?_
  refine gx_aload_n B.C 0 dL_law_855 rfl rfl ?_
  refine gx_iload_n B.C 3 dL_law_856 rfl rfl ?_
  refine gx_iconst (v := 1) B.C dL_law_857 (by decide) ?_
  refine gx_iadd B.C dL_law_858 ?_
  refine yx_sld B (hin 1 (by decide)) dL_law_859 ?_
  refine yx_callM (As := [.int (xs (x3 + 1).toNatClampNeg)]) (st := [.int r]) B (Nat.le_refl _) (Nat.le_refl _) (k_X11_row B.hOM z_N (xs (x3 + 1).toNatClampNeg) τ) h2 yk_X11_row q_959 q_960 q_961 (by decide) rfl rfl (Nat.le_of_ble_eq_true rfl) dL_law_860 ?_
  exact gx_icmp_eq (tgt := 963) B.C dL_law_863 (by decide) (fun _ => hnext σ1 τ1 hI1) (fun h => absurd rfl h)
set_option maxHeartbeats 4000000 in
set_option maxRecDepth 100000 in
theorem law_c22 {G : zG} {dC : Nat → ClassId} {dI : Nat → Nat → Nat} {A : Nat → Prop} {ac am : Nat → Nat} {cI cC cW : ClassId} {b Ln : Nat} {xs : Nat → Int32} {σ τ : zS} {Q : State → Prop} {x3 : Int32} (B : zB G dC dI A ac am cI cC cW b Ln xs) (hin : ∀ j : Nat, j < 6 → vp_in (x3 + nI j) Ln) (hI : zInv σ τ) (hnext : ∀ σ τ, zInv σ τ → gW G 4 (zV dC dI A (gS G) ac am cI cC cW σ τ) 600000 7302250 Q 963 [(0, .ref b), (1, .ref (ac 37)), (2, .ref (am 0)), (3, .int x3)] []) : gW G 4 (zV dC dI A (gS G) ac am cI cC cW σ τ) 600000 7302250 Q 868 [(0, .ref b), (1, .ref (ac 37)), (2, .ref (am 0)), (3, .int x3)] [] := by
  refine gx_aload_n B.C 1 dL_law_868 rfl rfl ?_
  obtain ⟨r, σ1, τ1, h1, h2, hI1⟩ := s_judge hI
  refine yx_callC (As := []) (st := []) B (Nat.le_refl _) (Nat.le_refl _) (k_X10_judge B.hOC z_N σ) h1 yk_X10_judge q_615 q_616 q_617 (by decide) rfl rfl (Nat.le_of_ble_eq_true rfl) dL_law_869 ?_
  refine gx_aload_n B.C 2 dL_law_872 rfl rfl ?_
  refine yx_callM (As := []) (st := [.int r]) B (Nat.le_refl _) (Nat.le_refl _) (k_X11_judge B.hOM z_N τ) h2 yk_X11_judge q_963 q_964 q_965 (by decide) rfl rfl (Nat.le_of_ble_eq_true rfl) dL_law_873 ?_
  exact gx_icmp_eq (tgt := 963) B.C dL_law_876 (by decide) (fun _ => hnext σ1 τ1 hI1) (fun h => absurd rfl h)
set_option maxHeartbeats 4000000 in
set_option maxRecDepth 100000 in
theorem law_c23 {G : zG} {dC : Nat → ClassId} {dI : Nat → Nat → Nat} {A : Nat → Prop} {ac am : Nat → Nat} {cI cC cW : ClassId} {b Ln : Nat} {xs : Nat → Int32} {σ τ : zS} {Q : State → Prop} {x3 : Int32} (B : zB G dC dI A ac am cI cC cW b Ln xs) (hin : ∀ j : Nat, j < 6 → vp_in (x3 + nI j) Ln) (hI : zInv σ τ) (hnext : ∀ σ τ, zInv σ τ → gW G 4 (zV dC dI A (gS G) ac am cI cC cW σ τ) 600000 7302250 Q 963 [(0, .ref b), (1, .ref (ac 37)), (2, .ref (am 0)), (3, .int x3)] []) : gW G 4 (zV dC dI A (gS G) ac am cI cC cW σ τ) 600000 7302250 Q 881 [(0, .ref b), (1, .ref (ac 37)), (2, .ref (am 0)), (3, .int x3)] [] := by
  refine gx_aload_n B.C 1 dL_law_881 rfl rfl ?_
  refine gx_aload_n B.C 0 dL_law_882 rfl rfl ?_
  refine gx_iload_n B.C 3 dL_law_883 rfl rfl ?_
  refine gx_iconst (v := 1) B.C dL_law_884 (by decide) ?_
  refine gx_iadd B.C dL_law_885 ?_
  refine yx_sld B (hin 1 (by decide)) dL_law_886 ?_
  refine gx_aload_n B.C 0 dL_law_887 rfl rfl ?_
  refine gx_iload_n B.C 3 dL_law_888 rfl rfl ?_
  refine gx_iconst (v := 2) B.C dL_law_889 (by decide) ?_
  refine gx_iadd B.C dL_law_890 ?_
  refine yx_sld B (hin 2 (by decide)) dL_law_891 ?_
  obtain ⟨r, σ1, τ1, h1, h2, hI1⟩ := s_seeds hI (xs (x3 + 1).toNatClampNeg) (xs (x3 + 2).toNatClampNeg)
  refine yx_callC (As := [.int (xs (x3 + 1).toNatClampNeg), .int (xs (x3 + 2).toNatClampNeg)]) (st := []) B (Nat.le_refl _) (Nat.le_refl _) (k_X10_seeds B.hOC z_N (xs (x3 + 1).toNatClampNeg) (xs (x3 + 2).toNatClampNeg) σ) h1 yk_X10_seeds q_623 q_624 q_625 (by decide) rfl rfl (Nat.le_of_ble_eq_true rfl) dL_law_892 ?_
  refine gx_aload_n B.C 2 dL_law_895 rfl rfl ?_
  refine gx_aload_n B.C 0 dL_law_896 rfl rfl ?_
  refine gx_iload_n B.C 3 dL_law_897 rfl rfl ?_
  refine gx_iconst (v := 1) B.C dL_law_898 (by decide) ?_
  refine gx_iadd B.C dL_law_899 ?_
  refine yx_sld B (hin 1 (by decide)) dL_law_900 ?_
  refine gx_aload_n B.C 0 dL_law_901 rfl rfl ?_
  refine gx_iload_n B.C 3 dL_law_902 rfl rfl ?_
  refine gx_iconst (v := 2) B.C dL_law_903 (by decide) ?_
  refine gx_iadd B.C dL_law_904 ?_
  refine yx_sld B (hin 2 (by decide)) dL_law_905 ?_
  refine yx_callM (As := [.int (xs (x3 + 1).toNatClampNeg), .int (xs (x3 + 2).toNatClampNeg)]) (st := [.int r]) B (Nat.le_refl _) (Nat.le_refl _) (k_X11_seeds B.hOM z_N (xs (x3 + 1).toNatClampNeg) (xs (x3 + 2).toNatClampNeg) τ) h2 yk_X11_seeds q_967 q_968 q_969 (by decide) rfl rfl (Nat.le_of_ble_eq_true rfl) dL_law_906 ?_
  exact gx_icmp_eq (tgt := 963) B.C dL_law_909 (by decide) (fun _ => hnext σ1 τ1 hI1) (fun h => absurd rfl h)
set_option maxHeartbeats 4000000 in
set_option maxRecDepth 100000 in
theorem law_c24 {G : zG} {dC : Nat → ClassId} {dI : Nat → Nat → Nat} {A : Nat → Prop} {ac am : Nat → Nat} {cI cC cW : ClassId} {b Ln : Nat} {xs : Nat → Int32} {σ τ : zS} {Q : State → Prop} {x3 : Int32} (B : zB G dC dI A ac am cI cC cW b Ln xs) (hin : ∀ j : Nat, j < 6 → vp_in (x3 + nI j) Ln) (hI : zInv σ τ) (hnext : ∀ σ τ, zInv σ τ → gW G 4 (zV dC dI A (gS G) ac am cI cC cW σ τ) 600000 7302250 Q 963 [(0, .ref b), (1, .ref (ac 37)), (2, .ref (am 0)), (3, .int x3)] []) : gW G 4 (zV dC dI A (gS G) ac am cI cC cW σ τ) 600000 7302250 Q 914 [(0, .ref b), (1, .ref (ac 37)), (2, .ref (am 0)), (3, .int x3)] [] := by
  refine gx_aload_n B.C 1 dL_law_914 rfl rfl ?_
  obtain ⟨r, σ1, τ1, h1, h2, hI1⟩ := s_image hI
  refine yx_callC (As := []) (st := []) B (Nat.le_refl _) (Nat.le_refl _) (k_X10_image B.hOC z_N σ) h1 yk_X10_image q_634 q_635 q_636 (by decide) rfl rfl (Nat.le_of_ble_eq_true rfl) dL_law_915 ?_
  refine gx_aload_n B.C 2 dL_law_918 rfl rfl ?_
  refine yx_callM (As := []) (st := [.int r]) B (Nat.le_refl _) (Nat.le_refl _) (k_X11_image B.hOM z_N τ) h2 yk_X11_image q_800 q_801 q_802 (by decide) rfl rfl (Nat.le_of_ble_eq_true rfl) dL_law_919 ?_
  exact gx_icmp_eq (tgt := 963) B.C dL_law_922 (by decide) (fun _ => hnext σ1 τ1 hI1) (fun h => absurd rfl h)
set_option maxHeartbeats 4000000 in
set_option maxRecDepth 100000 in
theorem law_c25 {G : zG} {dC : Nat → ClassId} {dI : Nat → Nat → Nat} {A : Nat → Prop} {ac am : Nat → Nat} {cI cC cW : ClassId} {b Ln : Nat} {xs : Nat → Int32} {σ τ : zS} {Q : State → Prop} {x3 : Int32} (B : zB G dC dI A ac am cI cC cW b Ln xs) (hin : ∀ j : Nat, j < 6 → vp_in (x3 + nI j) Ln) (hI : zInv σ τ) (hnext : ∀ σ τ, zInv σ τ → gW G 4 (zV dC dI A (gS G) ac am cI cC cW σ τ) 600000 7302250 Q 963 [(0, .ref b), (1, .ref (ac 37)), (2, .ref (am 0)), (3, .int x3)] []) : gW G 4 (zV dC dI A (gS G) ac am cI cC cW σ τ) 600000 7302250 Q 927 [(0, .ref b), (1, .ref (ac 37)), (2, .ref (am 0)), (3, .int x3)] [] := by
  refine gx_aload_n B.C 1 dL_law_927 rfl rfl ?_
  obtain ⟨r, σ1, τ1, h1, h2, hI1⟩ := s_restore hI
  refine yx_callC (As := []) (st := []) B (Nat.le_refl _) (Nat.le_refl _) (k_X10_restore B.hOC z_N σ) h1 yk_X10_restore q_638 q_639 q_640 (by decide) rfl rfl (Nat.le_of_ble_eq_true rfl) dL_law_928 ?_
  refine gx_aload_n B.C 2 dL_law_931 rfl rfl ?_
  refine yx_callM (As := []) (st := [.int r]) B (Nat.le_refl _) (Nat.le_refl _) (k_X11_restore B.hOM z_N τ) h2 yk_X11_restore q_804 q_805 q_806 (by decide) rfl rfl (Nat.le_of_ble_eq_true rfl) dL_law_932 ?_
  exact gx_icmp_eq (tgt := 963) B.C dL_law_935 (by decide) (fun _ => hnext σ1 τ1 hI1) (fun h => absurd rfl h)
set_option maxHeartbeats 4000000 in
set_option maxRecDepth 100000 in
theorem law_c26 {G : zG} {dC : Nat → ClassId} {dI : Nat → Nat → Nat} {A : Nat → Prop} {ac am : Nat → Nat} {cI cC cW : ClassId} {b Ln : Nat} {xs : Nat → Int32} {σ τ : zS} {Q : State → Prop} {x3 : Int32} (B : zB G dC dI A ac am cI cC cW b Ln xs) (hin : ∀ j : Nat, j < 6 → vp_in (x3 + nI j) Ln) (hI : zInv σ τ) (hnext : ∀ σ τ, zInv σ τ → gW G 4 (zV dC dI A (gS G) ac am cI cC cW σ τ) 600000 7302250 Q 963 [(0, .ref b), (1, .ref (ac 37)), (2, .ref (am 0)), (3, .int x3)] []) : gW G 4 (zV dC dI A (gS G) ac am cI cC cW σ τ) 600000 7302250 Q 940 [(0, .ref b), (1, .ref (ac 37)), (2, .ref (am 0)), (3, .int x3)] [] := by
  refine gx_aload_n B.C 1 dL_law_940 rfl rfl ?_
  refine gx_aload_n B.C 0 dL_law_941 rfl rfl ?_
  refine gx_iload_n B.C 3 dL_law_942 rfl rfl ?_
  refine gx_iconst (v := 1) B.C dL_law_943 (by decide) ?_
  refine gx_iadd B.C dL_law_944 ?_
  refine yx_sld B (hin 1 (by decide)) dL_law_945 ?_
  obtain ⟨r, σ1, τ1, h1, h2, hI1⟩ := s_count hI (xs (x3 + 1).toNatClampNeg)
  refine yx_callC (As := [.int (xs (x3 + 1).toNatClampNeg)]) (st := []) B (Nat.le_refl _) (Nat.le_refl _) (k_X10_count B.hOC z_N (xs (x3 + 1).toNatClampNeg) σ) h1 yk_X10_count q_642 q_643 q_644 (by decide) rfl rfl (Nat.le_of_ble_eq_true rfl) dL_law_946 ?_
  refine gx_aload_n B.C 2 dL_law_949 rfl rfl ?_
  refine gx_aload_n B.C 0 dL_law_950 rfl rfl ?_
  refine gx_iload_n B.C 3 dL_law_951 rfl rfl ?_
  refine gx_iconst (v := 1) B.C dL_law_952 (by decide) ?_
  refine gx_iadd B.C dL_law_953 ?_
  refine yx_sld B (hin 1 (by decide)) dL_law_954 ?_
  refine yx_callM (As := [.int (xs (x3 + 1).toNatClampNeg)]) (st := [.int r]) B (Nat.le_refl _) (Nat.le_refl _) (k_X11_count B.hOM z_N (xs (x3 + 1).toNatClampNeg) τ) h2 yk_X11_count q_978 q_979 q_980 (by decide) rfl rfl (Nat.le_of_ble_eq_true rfl) dL_law_955 ?_
  exact gx_icmp_eq (tgt := 963) B.C dL_law_958 (by decide) (fun _ => hnext σ1 τ1 hI1) (fun h => absurd rfl h)
theorem sc_L {Ln i : Nat} (hL : Ln ≤ 3072) (hi : i ≤ 4000) (h : ¬ (Int32.ofNat Ln - 6 < nI i)) : i + 6 ≤ Ln := by
  by_cases hq : i + 6 ≤ Ln
  · exact hq
  · exfalso
    apply h
    have e1 : (Int32.ofNat Ln - 6).toInt = (Ln : Int) - 6 := by
      have := pk_sub_toInt (a := Ln) (b := 6) (by omega) (by omega)
      exact this
    have e2 : (nI i).toInt = (i : Int) := nI_toInt (by omega)
    rw [Int32.lt_iff_toInt_lt, e1, e2]
    omega
theorem sc_in {Ln i j : Nat} (hL : Ln ≤ 3072) (h : i + 6 ≤ Ln) (hj : j < 6) : vp_in (nI i + nI j) Ln := by
  rw [nI_add]
  exact vp_in_nI (by omega) (by omega)
set_option maxHeartbeats 4000000 in
set_option maxRecDepth 100000 in
theorem law_loop {G : zG} {dC : Nat → ClassId} {dI : Nat → Nat → Nat} {A : Nat → Prop} {ac am : Nat → Nat} {cI cC cW : ClassId} {b Ln : Nat} {xs : Nat → Int32} {Q : State → Prop} (B : zB G dC dI A ac am cI cC cW b Ln xs) (hL : Ln ≤ 3072) (hend : ∀ (σ τ : zS) (x3 : Int32), gW G 4 (zV dC dI A (gS G) ac am cI cC cW σ τ) 600000 7302250 Q 969 [(0, .ref b), (1, .ref (ac 37)), (2, .ref (am 0)), (3, .int x3)] []) : ∀ (n i : Nat) (x3 : Int32), i ≤ Ln + 6 → Ln + 7 ≤ i + n → x3 = nI i → ∀ σ τ : zS, zInv σ τ → gW G 4 (zV dC dI A (gS G) ac am cI cC cW σ τ) 600000 7302250 Q 18 [(0, .ref b), (1, .ref (ac 37)), (2, .ref (am 0)), (3, .int x3)] [] := by
  intro n
  induction n with
  | zero => intro i x3 h1 h2; omega
  | succ n ih =>
    intro i x3 hi hn hx σ τ hI
    refine gx_iload_n B.C 3 dL_law_18 rfl rfl ?_
    refine gx_aload_n B.C 0 dL_law_19 rfl rfl ?_
    refine yx_slen B dL_law_20 ?_
    refine gx_bipush (v := 6) B.C dL_law_21 (by decide) ?_
    refine gx_isub B.C dL_law_23 ?_
    refine gx_icmp_gt (tgt := 969) B.C dL_law_24 (by decide) (fun _ => hend σ τ x3) (fun hc => ?_)
    rw [hx] at hc
    have hle := sc_L hL (by omega) hc
    have hin : ∀ j : Nat, j < 6 → vp_in (x3 + nI j) Ln := fun j hj => by rw [hx]; exact sc_in hL hle hj
    have hin0 : vp_in x3 Ln := by rw [hx]; exact vp_in_nI (by omega) (by omega)
    refine gx_aload_n B.C 0 dL_law_27 rfl rfl ?_
    refine gx_iload_n B.C 3 dL_law_28 rfl rfl ?_
    refine yx_sld B hin0 dL_law_29 ?_
    refine gx_bipush (v := 31) B.C dL_law_30 (by decide) ?_
    refine gx_iand B.C dL_law_32 ?_
    have hnext : ∀ σ τ : zS, zInv σ τ → gW G 4 (zV dC dI A (gS G) ac am cI cC cW σ τ) 600000 7302250 Q 963 [(0, .ref b), (1, .ref (ac 37)), (2, .ref (am 0)), (3, .int x3)] [] := by
      intro σ τ hI
      refine gx_iinc (v := x3 + 6) (L1 := [(3, .int (x3 + 6)), (0, .ref b), (1, .ref (ac 37)), (2, .ref (am 0))]) B.C 3 dL_law_963 rfl rfl (by decide) rfl ?_
      refine gx_goto (tgt := 18) B.C dL_law_966 (by decide) ?_
      exact gx_sub (L1 := [(0, .ref b), (1, .ref (ac 37)), (2, .ref (am 0)), (3, .int (x3 + 6))]) [1, 2, 3, 0] rfl (ih (i + 6) (x3 + 6) (by omega) (by omega) (by rw [hx]; exact nI_add i 6) σ τ hI)
    generalize hwv : (xs x3.toNatClampNeg &&& 31) = w
    by_cases hc0 : w = 0
    · exact gx_tableIn (tgt := 156) B.C dL_law_33 (by rw [hc0] <;> decide) (by rw [hc0] <;> decide) (by rw [hc0] <;> rfl) (by decide) (law_c0 B hin hI hnext)
    by_cases hc1 : w = 1
    · exact gx_tableIn (tgt := 179) B.C dL_law_33 (by rw [hc1] <;> decide) (by rw [hc1] <;> decide) (by rw [hc1] <;> rfl) (by decide) (law_c1 B hin hI hnext)
    by_cases hc2 : w = 2
    · exact gx_tableIn (tgt := 192) B.C dL_law_33 (by rw [hc2] <;> decide) (by rw [hc2] <;> decide) (by rw [hc2] <;> rfl) (by decide) (law_c2 B hin hI hnext)
    by_cases hc3 : w = 3
    · exact gx_tableIn (tgt := 225) B.C dL_law_33 (by rw [hc3] <;> decide) (by rw [hc3] <;> decide) (by rw [hc3] <;> rfl) (by decide) (law_c3 B hin hI hnext)
    by_cases hc4 : w = 4
    · exact gx_tableIn (tgt := 258) B.C dL_law_33 (by rw [hc4] <;> decide) (by rw [hc4] <;> decide) (by rw [hc4] <;> rfl) (by decide) (law_c4 B hin hI hnext)
    by_cases hc5 : w = 5
    · exact gx_tableIn (tgt := 307) B.C dL_law_33 (by rw [hc5] <;> decide) (by rw [hc5] <;> decide) (by rw [hc5] <;> rfl) (by decide) (law_c5 B hin hI hnext)
    by_cases hc6 : w = 6
    · exact gx_tableIn (tgt := 340) B.C dL_law_33 (by rw [hc6] <;> decide) (by rw [hc6] <;> decide) (by rw [hc6] <;> rfl) (by decide) (law_c6 B hin hI hnext)
    by_cases hc7 : w = 7
    · exact gx_tableIn (tgt := 383) B.C dL_law_33 (by rw [hc7] <;> decide) (by rw [hc7] <;> decide) (by rw [hc7] <;> rfl) (by decide) (law_c7 B hin hI hnext)
    by_cases hc8 : w = 8
    · exact gx_tableIn (tgt := 416) B.C dL_law_33 (by rw [hc8] <;> decide) (by rw [hc8] <;> decide) (by rw [hc8] <;> rfl) (by decide) (law_c8 B hin hI hnext)
    by_cases hc9 : w = 9
    · exact gx_tableIn (tgt := 439) B.C dL_law_33 (by rw [hc9] <;> decide) (by rw [hc9] <;> decide) (by rw [hc9] <;> rfl) (by decide) (law_c9 B hin hI hnext)
    by_cases hc10 : w = 10
    · exact gx_tableIn (tgt := 472) B.C dL_law_33 (by rw [hc10] <;> decide) (by rw [hc10] <;> decide) (by rw [hc10] <;> rfl) (by decide) (law_c10 B hin hI hnext)
    by_cases hc11 : w = 11
    · exact gx_tableIn (tgt := 515) B.C dL_law_33 (by rw [hc11] <;> decide) (by rw [hc11] <;> decide) (by rw [hc11] <;> rfl) (by decide) (law_c11 B hin hI hnext)
    by_cases hc12 : w = 12
    · exact gx_tableIn (tgt := 548) B.C dL_law_33 (by rw [hc12] <;> decide) (by rw [hc12] <;> decide) (by rw [hc12] <;> rfl) (by decide) (law_c12 B hin hI hnext)
    by_cases hc13 : w = 13
    · exact gx_tableIn (tgt := 571) B.C dL_law_33 (by rw [hc13] <;> decide) (by rw [hc13] <;> decide) (by rw [hc13] <;> rfl) (by decide) (law_c13 B hin hI hnext)
    by_cases hc14 : w = 14
    · exact gx_tableIn (tgt := 584) B.C dL_law_33 (by rw [hc14] <;> decide) (by rw [hc14] <;> decide) (by rw [hc14] <;> rfl) (by decide) (law_c14 B hin hI hnext)
    by_cases hc15 : w = 15
    · exact gx_tableIn (tgt := 607) B.C dL_law_33 (by rw [hc15] <;> decide) (by rw [hc15] <;> decide) (by rw [hc15] <;> rfl) (by decide) (law_c15 B hin hI hnext)
    by_cases hc16 : w = 16
    · exact gx_tableIn (tgt := 640) B.C dL_law_33 (by rw [hc16] <;> decide) (by rw [hc16] <;> decide) (by rw [hc16] <;> rfl) (by decide) (law_c16 B hin hI hnext)
    by_cases hc17 : w = 17
    · exact gx_tableIn (tgt := 693) B.C dL_law_33 (by rw [hc17] <;> decide) (by rw [hc17] <;> decide) (by rw [hc17] <;> rfl) (by decide) (law_c17 B hin hI hnext)
    by_cases hc18 : w = 18
    · exact gx_tableIn (tgt := 706) B.C dL_law_33 (by rw [hc18] <;> decide) (by rw [hc18] <;> decide) (by rw [hc18] <;> rfl) (by decide) (law_c18 B hin hI hnext)
    by_cases hc19 : w = 19
    · exact gx_tableIn (tgt := 729) B.C dL_law_33 (by rw [hc19] <;> decide) (by rw [hc19] <;> decide) (by rw [hc19] <;> rfl) (by decide) (law_c19 B hin hI hnext)
    by_cases hc20 : w = 20
    · exact gx_tableIn (tgt := 792) B.C dL_law_33 (by rw [hc20] <;> decide) (by rw [hc20] <;> decide) (by rw [hc20] <;> rfl) (by decide) (law_c20 B hin hI hnext)
    by_cases hc21 : w = 21
    · exact gx_tableIn (tgt := 845) B.C dL_law_33 (by rw [hc21] <;> decide) (by rw [hc21] <;> decide) (by rw [hc21] <;> rfl) (by decide) (law_c21 B hin hI hnext)
    by_cases hc22 : w = 22
    · exact gx_tableIn (tgt := 868) B.C dL_law_33 (by rw [hc22] <;> decide) (by rw [hc22] <;> decide) (by rw [hc22] <;> rfl) (by decide) (law_c22 B hin hI hnext)
    by_cases hc23 : w = 23
    · exact gx_tableIn (tgt := 881) B.C dL_law_33 (by rw [hc23] <;> decide) (by rw [hc23] <;> decide) (by rw [hc23] <;> rfl) (by decide) (law_c23 B hin hI hnext)
    by_cases hc24 : w = 24
    · exact gx_tableIn (tgt := 914) B.C dL_law_33 (by rw [hc24] <;> decide) (by rw [hc24] <;> decide) (by rw [hc24] <;> rfl) (by decide) (law_c24 B hin hI hnext)
    by_cases hc25 : w = 25
    · exact gx_tableIn (tgt := 927) B.C dL_law_33 (by rw [hc25] <;> decide) (by rw [hc25] <;> decide) (by rw [hc25] <;> rfl) (by decide) (law_c25 B hin hI hnext)
    by_cases hc26 : w = 26
    · exact gx_tableIn (tgt := 940) B.C dL_law_33 (by rw [hc26] <;> decide) (by rw [hc26] <;> decide) (by rw [hc26] <;> rfl) (by decide) (law_c26 B hin hI hnext)
    refine gx_tableOut (tgt := 963) B.C dL_law_33 (z_out (fun c h1 h2 hx => by
      rcases (show c = 0 ∨ c = 1 ∨ c = 2 ∨ c = 3 ∨ c = 4 ∨ c = 5 ∨ c = 6 ∨ c = 7 ∨ c = 8 ∨ c = 9 ∨ c = 10 ∨ c = 11 ∨ c = 12 ∨ c = 13 ∨ c = 14 ∨ c = 15 ∨ c = 16 ∨ c = 17 ∨ c = 18 ∨ c = 19 ∨ c = 20 ∨ c = 21 ∨ c = 22 ∨ c = 23 ∨ c = 24 ∨ c = 25 ∨ c = 26 by omega) with rfl | rfl | rfl | rfl | rfl | rfl | rfl | rfl | rfl | rfl | rfl | rfl | rfl | rfl | rfl | rfl | rfl | rfl | rfl | rfl | rfl | rfl | rfl | rfl | rfl | rfl | rfl <;> first | exact hc0 hx | exact hc1 hx | exact hc2 hx | exact hc3 hx | exact hc4 hx | exact hc5 hx | exact hc6 hx | exact hc7 hx | exact hc8 hx | exact hc9 hx | exact hc10 hx | exact hc11 hx | exact hc12 hx | exact hc13 hx | exact hc14 hx | exact hc15 hx | exact hc16 hx | exact hc17 hx | exact hc18 hx | exact hc19 hx | exact hc20 hx | exact hc21 hx | exact hc22 hx | exact hc23 hx | exact hc24 hx | exact hc25 hx | exact hc26 hx)) (by decide) ?_
    exact hnext σ τ hI
theorem vp_q {cA : ClassId} {n : Nat} {f g : Nat → Option Nat} (h : ∀ k, k < n → f k = g k) : vp_cell cA (n, .inr (.inr (.inr (.inr f)))) = vp_cell cA (n, .inr (.inr (.inr (.inr g)))) := by
  rw [vp_cell_q, vp_cell_q]
  exact arrV_congr (fun j hj => by rw [h j hj])
set_option maxHeartbeats 4000000 in
set_option maxRecDepth 100000 in
theorem lw_PC {dC : Nat → ClassId} {dI : Nat → Nat → Nat} {cI cC cW : ClassId} {H : Heap} (c0 c1 c2 c3 c4 c5 c6 c7 c8 c9 c10 c11 c12 c13 c14 c15 c16 c17 c18 c19 c20 c21 c22 c23 c24 c25 c26 c27 c28 c29 c30 c31 c32 c33 c34 c35 c36 c37 c38 c39 c40 c41 c42 c43 c44 c45 c46 c47 m0 m1 m2 m3 m4 m5 m6 m7 m8 m9 m10 m11 m12 m13 m14 m15 : Nat) (hP : va_P (dC, dI) vwCl [(c37, .inr (10, [.ref c36, .ref c18, .ref c19, .ref c20, .int 0, .ref c38, .ref c40, .ref c46, .int 0, .ref c47])), (c36, .inl (cW, 6, .inr (.inr (.inr (.inr (va_up (va_up (va_up (va_up (va_up (va_up (fun _ => none) 0 (some c30)) 1 (some c31)) 2 (some c32)) 3 (some c33)) 4 (some c34)) 5 (some c35))))))), (c30, .inr (8, [])), (c31, .inr (0, [])), (c32, .inr (2, [])), (c33, .inr (7, [])), (c34, .inr (6, [])), (c35, .inr (3, [])), (c18, .inr (4, [.ref c36, .ref c21, .ref c24, .ref c27, .int 0, .int 0, .int 0, .int 0, .int 0])), (c21, .inl (cC, 6, .inr (.inr (.inr (.inr (va_up (va_up (va_up (va_up (va_up (va_up (fun _ => none) 0 (some c0)) 1 (some c1)) 2 (some c2)) 3 (some c3)) 4 (some c4)) 5 (some c5))))))), (c0, .inr (1, [.int 0, .int 0, .int 0, .int 0, .int 0, .int 0])), (c1, .inr (1, [.int 0, .int 0, .int 0, .int 0, .int 0, .int 0])), (c2, .inr (1, [.int 0, .int 0, .int 0, .int 0, .int 0, .int 0])), (c3, .inr (1, [.int 0, .int 0, .int 0, .int 0, .int 0, .int 0])), (c4, .inr (1, [.int 0, .int 0, .int 0, .int 0, .int 0, .int 0])), (c5, .inr (1, [.int 0, .int 0, .int 0, .int 0, .int 0, .int 0])), (c24, .inl (cI, 4, .inl (fun _ => 0))), (c27, .inl (cI, 16, .inl (fun _ => 0))), (c19, .inr (4, [.ref c36, .ref c22, .ref c25, .ref c28, .int 0, .int 0, .int 0, .int 0, .int 0])), (c22, .inl (cC, 6, .inr (.inr (.inr (.inr (va_up (va_up (va_up (va_up (va_up (va_up (fun _ => none) 0 (some c6)) 1 (some c7)) 2 (some c8)) 3 (some c9)) 4 (some c10)) 5 (some c11))))))), (c6, .inr (1, [.int 0, .int 0, .int 0, .int 0, .int 0, .int 0])), (c7, .inr (1, [.int 0, .int 0, .int 0, .int 0, .int 0, .int 0])), (c8, .inr (1, [.int 0, .int 0, .int 0, .int 0, .int 0, .int 0])), (c9, .inr (1, [.int 0, .int 0, .int 0, .int 0, .int 0, .int 0])), (c10, .inr (1, [.int 0, .int 0, .int 0, .int 0, .int 0, .int 0])), (c11, .inr (1, [.int 0, .int 0, .int 0, .int 0, .int 0, .int 0])), (c25, .inl (cI, 4, .inl (fun _ => 0))), (c28, .inl (cI, 16, .inl (fun _ => 0))), (c20, .inr (4, [.ref c36, .ref c23, .ref c26, .ref c29, .int 0, .int 0, .int 0, .int 0, .int 0])), (c23, .inl (cC, 6, .inr (.inr (.inr (.inr (va_up (va_up (va_up (va_up (va_up (va_up (fun _ => none) 0 (some c12)) 1 (some c13)) 2 (some c14)) 3 (some c15)) 4 (some c16)) 5 (some c17))))))), (c12, .inr (1, [.int 0, .int 0, .int 0, .int 0, .int 0, .int 0])), (c13, .inr (1, [.int 0, .int 0, .int 0, .int 0, .int 0, .int 0])), (c14, .inr (1, [.int 0, .int 0, .int 0, .int 0, .int 0, .int 0])), (c15, .inr (1, [.int 0, .int 0, .int 0, .int 0, .int 0, .int 0])), (c16, .inr (1, [.int 0, .int 0, .int 0, .int 0, .int 0, .int 0])), (c17, .inr (1, [.int 0, .int 0, .int 0, .int 0, .int 0, .int 0])), (c26, .inl (cI, 4, .inl (fun _ => 0))), (c29, .inl (cI, 16, .inl (fun _ => 0))), (c38, .inr (5, [.ref c39, .int 0])), (c39, .inl (cI, 80, .inl (fun _ => 0))), (c40, .inr (9, [.ref c41, .ref c42, .ref c43, .ref c44, .ref c45, .int 0])), (c41, .inl (cI, 16, .inl (fun _ => 0))), (c42, .inl (cI, 24, .inl (fun _ => 0))), (c43, .inl (cI, 7, .inl (fun _ => 0))), (c44, .inl (cI, 6, .inl (fun _ => 0))), (c45, .inl (cI, 6, .inl (fun _ => 0))), (c46, .inl (cI, 6, .inl (fun _ => 0))), (c47, .inl (cI, 7, .inl (fun _ => 0))), (m0, .inr (11, [.ref m9, .ref m1, .ref m2, .ref m3, .ref m4, .ref m5, .ref m6, .ref m7, .ref m8, .int 0, .int 0, .int 0, .int 0, .int 0, .ref m10, .ref m11, .ref m12, .ref m13, .int 0, .int 0, .int 0, .ref m14, .int 0, .int 0, .int 0, .int 0, .int 0, .ref m15, .int 0])), (m9, .inl (cI, 7, .inl (fun _ => 0))), (m1, .inl (cI, 6, .inl (fun _ => 0))), (m2, .inl (cI, 6, .inl (fun _ => 0))), (m3, .inl (cI, 6, .inl (fun _ => 0))), (m4, .inl (cI, 6, .inl (fun _ => 0))), (m5, .inl (cI, 6, .inl (fun _ => 0))), (m6, .inl (cI, 6, .inl (fun _ => 0))), (m7, .inl (cI, 4, .inl (fun _ => 0))), (m8, .inl (cI, 16, .inl (fun _ => 0))), (m10, .inl (cI, 80, .inl (fun _ => 0))), (m11, .inl (cI, 40, .inl (fun _ => 0))), (m12, .inl (cI, 40, .inl (fun _ => 0))), (m13, .inl (cI, 160, .inl (fun _ => 0))), (m14, .inl (cI, 140, .inl (fun _ => 0))), (m15, .inl (cI, 6, .inl (fun _ => 0)))] H) : va_P (dC, dI) vwCl (z_wl 48 (fun i : Nat => [c0, c1, c2, c3, c4, c5, c6, c7, c8, c9, c10, c11, c12, c13, c14, c15, c16, c17, c18, c19, c20, c21, c22, c23, c24, c25, c26, c27, c28, c29, c30, c31, c32, c33, c34, c35, c36, c37, c38, c39, c40, c41, c42, c43, c44, c45, c46, c47].getD i 0) (cfC (fun i : Nat => [c0, c1, c2, c3, c4, c5, c6, c7, c8, c9, c10, c11, c12, c13, c14, c15, c16, c17, c18, c19, c20, c21, c22, c23, c24, c25, c26, c27, c28, c29, c30, c31, c32, c33, c34, c35, c36, c37, c38, c39, c40, c41, c42, c43, c44, c45, c46, c47].getD i 0) cI cC cW) (fun _ _ => 0)) H := by
  refine wl_P (fun i hi => ?_)
  rcases (show i = 0 ∨ i = 1 ∨ i = 2 ∨ i = 3 ∨ i = 4 ∨ i = 5 ∨ i = 6 ∨ i = 7 ∨ i = 8 ∨ i = 9 ∨ i = 10 ∨ i = 11 ∨ i = 12 ∨ i = 13 ∨ i = 14 ∨ i = 15 ∨ i = 16 ∨ i = 17 ∨ i = 18 ∨ i = 19 ∨ i = 20 ∨ i = 21 ∨ i = 22 ∨ i = 23 ∨ i = 24 ∨ i = 25 ∨ i = 26 ∨ i = 27 ∨ i = 28 ∨ i = 29 ∨ i = 30 ∨ i = 31 ∨ i = 32 ∨ i = 33 ∨ i = 34 ∨ i = 35 ∨ i = 36 ∨ i = 37 ∨ i = 38 ∨ i = 39 ∨ i = 40 ∨ i = 41 ∨ i = 42 ∨ i = 43 ∨ i = 44 ∨ i = 45 ∨ i = 46 ∨ i = 47 by omega) with rfl | rfl | rfl | rfl | rfl | rfl | rfl | rfl | rfl | rfl | rfl | rfl | rfl | rfl | rfl | rfl | rfl | rfl | rfl | rfl | rfl | rfl | rfl | rfl | rfl | rfl | rfl | rfl | rfl | rfl | rfl | rfl | rfl | rfl | rfl | rfl | rfl | rfl | rfl | rfl | rfl | rfl | rfl | rfl | rfl | rfl | rfl | rfl
  · exact hP 10 _ rfl
  · exact hP 11 _ rfl
  · exact hP 12 _ rfl
  · exact hP 13 _ rfl
  · exact hP 14 _ rfl
  · exact hP 15 _ rfl
  · exact hP 20 _ rfl
  · exact hP 21 _ rfl
  · exact hP 22 _ rfl
  · exact hP 23 _ rfl
  · exact hP 24 _ rfl
  · exact hP 25 _ rfl
  · exact hP 30 _ rfl
  · exact hP 31 _ rfl
  · exact hP 32 _ rfl
  · exact hP 33 _ rfl
  · exact hP 34 _ rfl
  · exact hP 35 _ rfl
  · exact hP 8 _ rfl
  · exact hP 18 _ rfl
  · exact hP 28 _ rfl
  · exact (hP 9 _ rfl : _ = _).trans (congrArg some (vp_q (fun k hk => by rcases (show k = 0 ∨ k = 1 ∨ k = 2 ∨ k = 3 ∨ k = 4 ∨ k = 5 by omega) with rfl | rfl | rfl | rfl | rfl | rfl <;> rfl)))
  · exact (hP 19 _ rfl : _ = _).trans (congrArg some (vp_q (fun k hk => by rcases (show k = 0 ∨ k = 1 ∨ k = 2 ∨ k = 3 ∨ k = 4 ∨ k = 5 by omega) with rfl | rfl | rfl | rfl | rfl | rfl <;> rfl)))
  · exact (hP 29 _ rfl : _ = _).trans (congrArg some (vp_q (fun k hk => by rcases (show k = 0 ∨ k = 1 ∨ k = 2 ∨ k = 3 ∨ k = 4 ∨ k = 5 by omega) with rfl | rfl | rfl | rfl | rfl | rfl <;> rfl)))
  · exact hP 16 _ rfl
  · exact hP 26 _ rfl
  · exact hP 36 _ rfl
  · exact hP 17 _ rfl
  · exact hP 27 _ rfl
  · exact hP 37 _ rfl
  · exact hP 2 _ rfl
  · exact hP 3 _ rfl
  · exact hP 4 _ rfl
  · exact hP 5 _ rfl
  · exact hP 6 _ rfl
  · exact hP 7 _ rfl
  · exact (hP 1 _ rfl : _ = _).trans (congrArg some (vp_q (fun k hk => by rcases (show k = 0 ∨ k = 1 ∨ k = 2 ∨ k = 3 ∨ k = 4 ∨ k = 5 by omega) with rfl | rfl | rfl | rfl | rfl | rfl <;> rfl)))
  · exact hP 0 _ rfl
  · exact hP 38 _ rfl
  · exact hP 39 _ rfl
  · exact hP 40 _ rfl
  · exact hP 41 _ rfl
  · exact hP 42 _ rfl
  · exact hP 43 _ rfl
  · exact hP 44 _ rfl
  · exact hP 45 _ rfl
  · exact hP 46 _ rfl
  · exact hP 47 _ rfl
set_option maxHeartbeats 4000000 in
set_option maxRecDepth 100000 in
theorem lw_PM {dC : Nat → ClassId} {dI : Nat → Nat → Nat} {cI cC cW : ClassId} {H : Heap} (c0 c1 c2 c3 c4 c5 c6 c7 c8 c9 c10 c11 c12 c13 c14 c15 c16 c17 c18 c19 c20 c21 c22 c23 c24 c25 c26 c27 c28 c29 c30 c31 c32 c33 c34 c35 c36 c37 c38 c39 c40 c41 c42 c43 c44 c45 c46 c47 m0 m1 m2 m3 m4 m5 m6 m7 m8 m9 m10 m11 m12 m13 m14 m15 : Nat) (hP : va_P (dC, dI) vwCl [(c37, .inr (10, [.ref c36, .ref c18, .ref c19, .ref c20, .int 0, .ref c38, .ref c40, .ref c46, .int 0, .ref c47])), (c36, .inl (cW, 6, .inr (.inr (.inr (.inr (va_up (va_up (va_up (va_up (va_up (va_up (fun _ => none) 0 (some c30)) 1 (some c31)) 2 (some c32)) 3 (some c33)) 4 (some c34)) 5 (some c35))))))), (c30, .inr (8, [])), (c31, .inr (0, [])), (c32, .inr (2, [])), (c33, .inr (7, [])), (c34, .inr (6, [])), (c35, .inr (3, [])), (c18, .inr (4, [.ref c36, .ref c21, .ref c24, .ref c27, .int 0, .int 0, .int 0, .int 0, .int 0])), (c21, .inl (cC, 6, .inr (.inr (.inr (.inr (va_up (va_up (va_up (va_up (va_up (va_up (fun _ => none) 0 (some c0)) 1 (some c1)) 2 (some c2)) 3 (some c3)) 4 (some c4)) 5 (some c5))))))), (c0, .inr (1, [.int 0, .int 0, .int 0, .int 0, .int 0, .int 0])), (c1, .inr (1, [.int 0, .int 0, .int 0, .int 0, .int 0, .int 0])), (c2, .inr (1, [.int 0, .int 0, .int 0, .int 0, .int 0, .int 0])), (c3, .inr (1, [.int 0, .int 0, .int 0, .int 0, .int 0, .int 0])), (c4, .inr (1, [.int 0, .int 0, .int 0, .int 0, .int 0, .int 0])), (c5, .inr (1, [.int 0, .int 0, .int 0, .int 0, .int 0, .int 0])), (c24, .inl (cI, 4, .inl (fun _ => 0))), (c27, .inl (cI, 16, .inl (fun _ => 0))), (c19, .inr (4, [.ref c36, .ref c22, .ref c25, .ref c28, .int 0, .int 0, .int 0, .int 0, .int 0])), (c22, .inl (cC, 6, .inr (.inr (.inr (.inr (va_up (va_up (va_up (va_up (va_up (va_up (fun _ => none) 0 (some c6)) 1 (some c7)) 2 (some c8)) 3 (some c9)) 4 (some c10)) 5 (some c11))))))), (c6, .inr (1, [.int 0, .int 0, .int 0, .int 0, .int 0, .int 0])), (c7, .inr (1, [.int 0, .int 0, .int 0, .int 0, .int 0, .int 0])), (c8, .inr (1, [.int 0, .int 0, .int 0, .int 0, .int 0, .int 0])), (c9, .inr (1, [.int 0, .int 0, .int 0, .int 0, .int 0, .int 0])), (c10, .inr (1, [.int 0, .int 0, .int 0, .int 0, .int 0, .int 0])), (c11, .inr (1, [.int 0, .int 0, .int 0, .int 0, .int 0, .int 0])), (c25, .inl (cI, 4, .inl (fun _ => 0))), (c28, .inl (cI, 16, .inl (fun _ => 0))), (c20, .inr (4, [.ref c36, .ref c23, .ref c26, .ref c29, .int 0, .int 0, .int 0, .int 0, .int 0])), (c23, .inl (cC, 6, .inr (.inr (.inr (.inr (va_up (va_up (va_up (va_up (va_up (va_up (fun _ => none) 0 (some c12)) 1 (some c13)) 2 (some c14)) 3 (some c15)) 4 (some c16)) 5 (some c17))))))), (c12, .inr (1, [.int 0, .int 0, .int 0, .int 0, .int 0, .int 0])), (c13, .inr (1, [.int 0, .int 0, .int 0, .int 0, .int 0, .int 0])), (c14, .inr (1, [.int 0, .int 0, .int 0, .int 0, .int 0, .int 0])), (c15, .inr (1, [.int 0, .int 0, .int 0, .int 0, .int 0, .int 0])), (c16, .inr (1, [.int 0, .int 0, .int 0, .int 0, .int 0, .int 0])), (c17, .inr (1, [.int 0, .int 0, .int 0, .int 0, .int 0, .int 0])), (c26, .inl (cI, 4, .inl (fun _ => 0))), (c29, .inl (cI, 16, .inl (fun _ => 0))), (c38, .inr (5, [.ref c39, .int 0])), (c39, .inl (cI, 80, .inl (fun _ => 0))), (c40, .inr (9, [.ref c41, .ref c42, .ref c43, .ref c44, .ref c45, .int 0])), (c41, .inl (cI, 16, .inl (fun _ => 0))), (c42, .inl (cI, 24, .inl (fun _ => 0))), (c43, .inl (cI, 7, .inl (fun _ => 0))), (c44, .inl (cI, 6, .inl (fun _ => 0))), (c45, .inl (cI, 6, .inl (fun _ => 0))), (c46, .inl (cI, 6, .inl (fun _ => 0))), (c47, .inl (cI, 7, .inl (fun _ => 0))), (m0, .inr (11, [.ref m9, .ref m1, .ref m2, .ref m3, .ref m4, .ref m5, .ref m6, .ref m7, .ref m8, .int 0, .int 0, .int 0, .int 0, .int 0, .ref m10, .ref m11, .ref m12, .ref m13, .int 0, .int 0, .int 0, .ref m14, .int 0, .int 0, .int 0, .int 0, .int 0, .ref m15, .int 0])), (m9, .inl (cI, 7, .inl (fun _ => 0))), (m1, .inl (cI, 6, .inl (fun _ => 0))), (m2, .inl (cI, 6, .inl (fun _ => 0))), (m3, .inl (cI, 6, .inl (fun _ => 0))), (m4, .inl (cI, 6, .inl (fun _ => 0))), (m5, .inl (cI, 6, .inl (fun _ => 0))), (m6, .inl (cI, 6, .inl (fun _ => 0))), (m7, .inl (cI, 4, .inl (fun _ => 0))), (m8, .inl (cI, 16, .inl (fun _ => 0))), (m10, .inl (cI, 80, .inl (fun _ => 0))), (m11, .inl (cI, 40, .inl (fun _ => 0))), (m12, .inl (cI, 40, .inl (fun _ => 0))), (m13, .inl (cI, 160, .inl (fun _ => 0))), (m14, .inl (cI, 140, .inl (fun _ => 0))), (m15, .inl (cI, 6, .inl (fun _ => 0)))] H) : va_P (dC, dI) vwCl (z_wl 16 (fun i : Nat => [m0, m1, m2, m3, m4, m5, m6, m7, m8, m9, m10, m11, m12, m13, m14, m15].getD i 0) (cfM (fun i : Nat => [m0, m1, m2, m3, m4, m5, m6, m7, m8, m9, m10, m11, m12, m13, m14, m15].getD i 0) cI) (fun _ _ => 0)) H := by
  refine wl_P (fun i hi => ?_)
  rcases (show i = 0 ∨ i = 1 ∨ i = 2 ∨ i = 3 ∨ i = 4 ∨ i = 5 ∨ i = 6 ∨ i = 7 ∨ i = 8 ∨ i = 9 ∨ i = 10 ∨ i = 11 ∨ i = 12 ∨ i = 13 ∨ i = 14 ∨ i = 15 by omega) with rfl | rfl | rfl | rfl | rfl | rfl | rfl | rfl | rfl | rfl | rfl | rfl | rfl | rfl | rfl | rfl
  · exact hP 48 _ rfl
  · exact hP 50 _ rfl
  · exact hP 51 _ rfl
  · exact hP 52 _ rfl
  · exact hP 53 _ rfl
  · exact hP 54 _ rfl
  · exact hP 55 _ rfl
  · exact hP 56 _ rfl
  · exact hP 57 _ rfl
  · exact hP 49 _ rfl
  · exact hP 58 _ rfl
  · exact hP 59 _ rfl
  · exact hP 60 _ rfl
  · exact hP 61 _ rfl
  · exact hP 62 _ rfl
  · exact hP 63 _ rfl
set_option maxHeartbeats 4000000 in
set_option maxRecDepth 100000 in
theorem lw_DD {A : Nat → Prop} {cI cC cW : ClassId} (c0 c1 c2 c3 c4 c5 c6 c7 c8 c9 c10 c11 c12 c13 c14 c15 c16 c17 c18 c19 c20 c21 c22 c23 c24 c25 c26 c27 c28 c29 c30 c31 c32 c33 c34 c35 c36 c37 c38 c39 c40 c41 c42 c43 c44 c45 c46 c47 m0 m1 m2 m3 m4 m5 m6 m7 m8 m9 m10 m11 m12 m13 m14 m15 : Nat) (hD : va_D A [(c37, .inr (10, [.ref c36, .ref c18, .ref c19, .ref c20, .int 0, .ref c38, .ref c40, .ref c46, .int 0, .ref c47])), (c36, .inl (cW, 6, .inr (.inr (.inr (.inr (va_up (va_up (va_up (va_up (va_up (va_up (fun _ => none) 0 (some c30)) 1 (some c31)) 2 (some c32)) 3 (some c33)) 4 (some c34)) 5 (some c35))))))), (c30, .inr (8, [])), (c31, .inr (0, [])), (c32, .inr (2, [])), (c33, .inr (7, [])), (c34, .inr (6, [])), (c35, .inr (3, [])), (c18, .inr (4, [.ref c36, .ref c21, .ref c24, .ref c27, .int 0, .int 0, .int 0, .int 0, .int 0])), (c21, .inl (cC, 6, .inr (.inr (.inr (.inr (va_up (va_up (va_up (va_up (va_up (va_up (fun _ => none) 0 (some c0)) 1 (some c1)) 2 (some c2)) 3 (some c3)) 4 (some c4)) 5 (some c5))))))), (c0, .inr (1, [.int 0, .int 0, .int 0, .int 0, .int 0, .int 0])), (c1, .inr (1, [.int 0, .int 0, .int 0, .int 0, .int 0, .int 0])), (c2, .inr (1, [.int 0, .int 0, .int 0, .int 0, .int 0, .int 0])), (c3, .inr (1, [.int 0, .int 0, .int 0, .int 0, .int 0, .int 0])), (c4, .inr (1, [.int 0, .int 0, .int 0, .int 0, .int 0, .int 0])), (c5, .inr (1, [.int 0, .int 0, .int 0, .int 0, .int 0, .int 0])), (c24, .inl (cI, 4, .inl (fun _ => 0))), (c27, .inl (cI, 16, .inl (fun _ => 0))), (c19, .inr (4, [.ref c36, .ref c22, .ref c25, .ref c28, .int 0, .int 0, .int 0, .int 0, .int 0])), (c22, .inl (cC, 6, .inr (.inr (.inr (.inr (va_up (va_up (va_up (va_up (va_up (va_up (fun _ => none) 0 (some c6)) 1 (some c7)) 2 (some c8)) 3 (some c9)) 4 (some c10)) 5 (some c11))))))), (c6, .inr (1, [.int 0, .int 0, .int 0, .int 0, .int 0, .int 0])), (c7, .inr (1, [.int 0, .int 0, .int 0, .int 0, .int 0, .int 0])), (c8, .inr (1, [.int 0, .int 0, .int 0, .int 0, .int 0, .int 0])), (c9, .inr (1, [.int 0, .int 0, .int 0, .int 0, .int 0, .int 0])), (c10, .inr (1, [.int 0, .int 0, .int 0, .int 0, .int 0, .int 0])), (c11, .inr (1, [.int 0, .int 0, .int 0, .int 0, .int 0, .int 0])), (c25, .inl (cI, 4, .inl (fun _ => 0))), (c28, .inl (cI, 16, .inl (fun _ => 0))), (c20, .inr (4, [.ref c36, .ref c23, .ref c26, .ref c29, .int 0, .int 0, .int 0, .int 0, .int 0])), (c23, .inl (cC, 6, .inr (.inr (.inr (.inr (va_up (va_up (va_up (va_up (va_up (va_up (fun _ => none) 0 (some c12)) 1 (some c13)) 2 (some c14)) 3 (some c15)) 4 (some c16)) 5 (some c17))))))), (c12, .inr (1, [.int 0, .int 0, .int 0, .int 0, .int 0, .int 0])), (c13, .inr (1, [.int 0, .int 0, .int 0, .int 0, .int 0, .int 0])), (c14, .inr (1, [.int 0, .int 0, .int 0, .int 0, .int 0, .int 0])), (c15, .inr (1, [.int 0, .int 0, .int 0, .int 0, .int 0, .int 0])), (c16, .inr (1, [.int 0, .int 0, .int 0, .int 0, .int 0, .int 0])), (c17, .inr (1, [.int 0, .int 0, .int 0, .int 0, .int 0, .int 0])), (c26, .inl (cI, 4, .inl (fun _ => 0))), (c29, .inl (cI, 16, .inl (fun _ => 0))), (c38, .inr (5, [.ref c39, .int 0])), (c39, .inl (cI, 80, .inl (fun _ => 0))), (c40, .inr (9, [.ref c41, .ref c42, .ref c43, .ref c44, .ref c45, .int 0])), (c41, .inl (cI, 16, .inl (fun _ => 0))), (c42, .inl (cI, 24, .inl (fun _ => 0))), (c43, .inl (cI, 7, .inl (fun _ => 0))), (c44, .inl (cI, 6, .inl (fun _ => 0))), (c45, .inl (cI, 6, .inl (fun _ => 0))), (c46, .inl (cI, 6, .inl (fun _ => 0))), (c47, .inl (cI, 7, .inl (fun _ => 0))), (m0, .inr (11, [.ref m9, .ref m1, .ref m2, .ref m3, .ref m4, .ref m5, .ref m6, .ref m7, .ref m8, .int 0, .int 0, .int 0, .int 0, .int 0, .ref m10, .ref m11, .ref m12, .ref m13, .int 0, .int 0, .int 0, .ref m14, .int 0, .int 0, .int 0, .int 0, .int 0, .ref m15, .int 0])), (m9, .inl (cI, 7, .inl (fun _ => 0))), (m1, .inl (cI, 6, .inl (fun _ => 0))), (m2, .inl (cI, 6, .inl (fun _ => 0))), (m3, .inl (cI, 6, .inl (fun _ => 0))), (m4, .inl (cI, 6, .inl (fun _ => 0))), (m5, .inl (cI, 6, .inl (fun _ => 0))), (m6, .inl (cI, 6, .inl (fun _ => 0))), (m7, .inl (cI, 4, .inl (fun _ => 0))), (m8, .inl (cI, 16, .inl (fun _ => 0))), (m10, .inl (cI, 80, .inl (fun _ => 0))), (m11, .inl (cI, 40, .inl (fun _ => 0))), (m12, .inl (cI, 40, .inl (fun _ => 0))), (m13, .inl (cI, 160, .inl (fun _ => 0))), (m14, .inl (cI, 140, .inl (fun _ => 0))), (m15, .inl (cI, 6, .inl (fun _ => 0)))]) : (∀ i, i < 48 → A ((fun i : Nat => [c0, c1, c2, c3, c4, c5, c6, c7, c8, c9, c10, c11, c12, c13, c14, c15, c16, c17, c18, c19, c20, c21, c22, c23, c24, c25, c26, c27, c28, c29, c30, c31, c32, c33, c34, c35, c36, c37, c38, c39, c40, c41, c42, c43, c44, c45, c46, c47].getD i 0) i)) ∧ (∀ i, i < 16 → A ((fun i : Nat => [m0, m1, m2, m3, m4, m5, m6, m7, m8, m9, m10, m11, m12, m13, m14, m15].getD i 0) i)) ∧ (∀ i j, i < 48 → j < 48 → (fun i : Nat => [c0, c1, c2, c3, c4, c5, c6, c7, c8, c9, c10, c11, c12, c13, c14, c15, c16, c17, c18, c19, c20, c21, c22, c23, c24, c25, c26, c27, c28, c29, c30, c31, c32, c33, c34, c35, c36, c37, c38, c39, c40, c41, c42, c43, c44, c45, c46, c47].getD i 0) i = (fun i : Nat => [c0, c1, c2, c3, c4, c5, c6, c7, c8, c9, c10, c11, c12, c13, c14, c15, c16, c17, c18, c19, c20, c21, c22, c23, c24, c25, c26, c27, c28, c29, c30, c31, c32, c33, c34, c35, c36, c37, c38, c39, c40, c41, c42, c43, c44, c45, c46, c47].getD i 0) j → i = j) ∧ (∀ i j, i < 16 → j < 16 → (fun i : Nat => [m0, m1, m2, m3, m4, m5, m6, m7, m8, m9, m10, m11, m12, m13, m14, m15].getD i 0) i = (fun i : Nat => [m0, m1, m2, m3, m4, m5, m6, m7, m8, m9, m10, m11, m12, m13, m14, m15].getD i 0) j → i = j) ∧ (∀ i j, i < 48 → j < 16 → (fun i : Nat => [c0, c1, c2, c3, c4, c5, c6, c7, c8, c9, c10, c11, c12, c13, c14, c15, c16, c17, c18, c19, c20, c21, c22, c23, c24, c25, c26, c27, c28, c29, c30, c31, c32, c33, c34, c35, c36, c37, c38, c39, c40, c41, c42, c43, c44, c45, c46, c47].getD i 0) i ≠ (fun i : Nat => [m0, m1, m2, m3, m4, m5, m6, m7, m8, m9, m10, m11, m12, m13, m14, m15].getD i 0) j) := by
  have pc : ∀ i, i < 48 → ∃ e, ([(c37, .inr (10, [.ref c36, .ref c18, .ref c19, .ref c20, .int 0, .ref c38, .ref c40, .ref c46, .int 0, .ref c47])), (c36, .inl (cW, 6, .inr (.inr (.inr (.inr (va_up (va_up (va_up (va_up (va_up (va_up (fun _ => none) 0 (some c30)) 1 (some c31)) 2 (some c32)) 3 (some c33)) 4 (some c34)) 5 (some c35))))))), (c30, .inr (8, [])), (c31, .inr (0, [])), (c32, .inr (2, [])), (c33, .inr (7, [])), (c34, .inr (6, [])), (c35, .inr (3, [])), (c18, .inr (4, [.ref c36, .ref c21, .ref c24, .ref c27, .int 0, .int 0, .int 0, .int 0, .int 0])), (c21, .inl (cC, 6, .inr (.inr (.inr (.inr (va_up (va_up (va_up (va_up (va_up (va_up (fun _ => none) 0 (some c0)) 1 (some c1)) 2 (some c2)) 3 (some c3)) 4 (some c4)) 5 (some c5))))))), (c0, .inr (1, [.int 0, .int 0, .int 0, .int 0, .int 0, .int 0])), (c1, .inr (1, [.int 0, .int 0, .int 0, .int 0, .int 0, .int 0])), (c2, .inr (1, [.int 0, .int 0, .int 0, .int 0, .int 0, .int 0])), (c3, .inr (1, [.int 0, .int 0, .int 0, .int 0, .int 0, .int 0])), (c4, .inr (1, [.int 0, .int 0, .int 0, .int 0, .int 0, .int 0])), (c5, .inr (1, [.int 0, .int 0, .int 0, .int 0, .int 0, .int 0])), (c24, .inl (cI, 4, .inl (fun _ => 0))), (c27, .inl (cI, 16, .inl (fun _ => 0))), (c19, .inr (4, [.ref c36, .ref c22, .ref c25, .ref c28, .int 0, .int 0, .int 0, .int 0, .int 0])), (c22, .inl (cC, 6, .inr (.inr (.inr (.inr (va_up (va_up (va_up (va_up (va_up (va_up (fun _ => none) 0 (some c6)) 1 (some c7)) 2 (some c8)) 3 (some c9)) 4 (some c10)) 5 (some c11))))))), (c6, .inr (1, [.int 0, .int 0, .int 0, .int 0, .int 0, .int 0])), (c7, .inr (1, [.int 0, .int 0, .int 0, .int 0, .int 0, .int 0])), (c8, .inr (1, [.int 0, .int 0, .int 0, .int 0, .int 0, .int 0])), (c9, .inr (1, [.int 0, .int 0, .int 0, .int 0, .int 0, .int 0])), (c10, .inr (1, [.int 0, .int 0, .int 0, .int 0, .int 0, .int 0])), (c11, .inr (1, [.int 0, .int 0, .int 0, .int 0, .int 0, .int 0])), (c25, .inl (cI, 4, .inl (fun _ => 0))), (c28, .inl (cI, 16, .inl (fun _ => 0))), (c20, .inr (4, [.ref c36, .ref c23, .ref c26, .ref c29, .int 0, .int 0, .int 0, .int 0, .int 0])), (c23, .inl (cC, 6, .inr (.inr (.inr (.inr (va_up (va_up (va_up (va_up (va_up (va_up (fun _ => none) 0 (some c12)) 1 (some c13)) 2 (some c14)) 3 (some c15)) 4 (some c16)) 5 (some c17))))))), (c12, .inr (1, [.int 0, .int 0, .int 0, .int 0, .int 0, .int 0])), (c13, .inr (1, [.int 0, .int 0, .int 0, .int 0, .int 0, .int 0])), (c14, .inr (1, [.int 0, .int 0, .int 0, .int 0, .int 0, .int 0])), (c15, .inr (1, [.int 0, .int 0, .int 0, .int 0, .int 0, .int 0])), (c16, .inr (1, [.int 0, .int 0, .int 0, .int 0, .int 0, .int 0])), (c17, .inr (1, [.int 0, .int 0, .int 0, .int 0, .int 0, .int 0])), (c26, .inl (cI, 4, .inl (fun _ => 0))), (c29, .inl (cI, 16, .inl (fun _ => 0))), (c38, .inr (5, [.ref c39, .int 0])), (c39, .inl (cI, 80, .inl (fun _ => 0))), (c40, .inr (9, [.ref c41, .ref c42, .ref c43, .ref c44, .ref c45, .int 0])), (c41, .inl (cI, 16, .inl (fun _ => 0))), (c42, .inl (cI, 24, .inl (fun _ => 0))), (c43, .inl (cI, 7, .inl (fun _ => 0))), (c44, .inl (cI, 6, .inl (fun _ => 0))), (c45, .inl (cI, 6, .inl (fun _ => 0))), (c46, .inl (cI, 6, .inl (fun _ => 0))), (c47, .inl (cI, 7, .inl (fun _ => 0))), (m0, .inr (11, [.ref m9, .ref m1, .ref m2, .ref m3, .ref m4, .ref m5, .ref m6, .ref m7, .ref m8, .int 0, .int 0, .int 0, .int 0, .int 0, .ref m10, .ref m11, .ref m12, .ref m13, .int 0, .int 0, .int 0, .ref m14, .int 0, .int 0, .int 0, .int 0, .int 0, .ref m15, .int 0])), (m9, .inl (cI, 7, .inl (fun _ => 0))), (m1, .inl (cI, 6, .inl (fun _ => 0))), (m2, .inl (cI, 6, .inl (fun _ => 0))), (m3, .inl (cI, 6, .inl (fun _ => 0))), (m4, .inl (cI, 6, .inl (fun _ => 0))), (m5, .inl (cI, 6, .inl (fun _ => 0))), (m6, .inl (cI, 6, .inl (fun _ => 0))), (m7, .inl (cI, 4, .inl (fun _ => 0))), (m8, .inl (cI, 16, .inl (fun _ => 0))), (m10, .inl (cI, 80, .inl (fun _ => 0))), (m11, .inl (cI, 40, .inl (fun _ => 0))), (m12, .inl (cI, 40, .inl (fun _ => 0))), (m13, .inl (cI, 160, .inl (fun _ => 0))), (m14, .inl (cI, 140, .inl (fun _ => 0))), (m15, .inl (cI, 6, .inl (fun _ => 0)))] : va_W)[([10, 11, 12, 13, 14, 15, 20, 21, 22, 23, 24, 25, 30, 31, 32, 33, 34, 35, 8, 18, 28, 9, 19, 29, 16, 26, 36, 17, 27, 37, 2, 3, 4, 5, 6, 7, 1, 0, 38, 39, 40, 41, 42, 43, 44, 45, 46, 47] : List Nat).getD i 0]? = some ((fun i : Nat => [c0, c1, c2, c3, c4, c5, c6, c7, c8, c9, c10, c11, c12, c13, c14, c15, c16, c17, c18, c19, c20, c21, c22, c23, c24, c25, c26, c27, c28, c29, c30, c31, c32, c33, c34, c35, c36, c37, c38, c39, c40, c41, c42, c43, c44, c45, c46, c47].getD i 0) i, e) := by
    intro i hi
    rcases (show i = 0 ∨ i = 1 ∨ i = 2 ∨ i = 3 ∨ i = 4 ∨ i = 5 ∨ i = 6 ∨ i = 7 ∨ i = 8 ∨ i = 9 ∨ i = 10 ∨ i = 11 ∨ i = 12 ∨ i = 13 ∨ i = 14 ∨ i = 15 ∨ i = 16 ∨ i = 17 ∨ i = 18 ∨ i = 19 ∨ i = 20 ∨ i = 21 ∨ i = 22 ∨ i = 23 ∨ i = 24 ∨ i = 25 ∨ i = 26 ∨ i = 27 ∨ i = 28 ∨ i = 29 ∨ i = 30 ∨ i = 31 ∨ i = 32 ∨ i = 33 ∨ i = 34 ∨ i = 35 ∨ i = 36 ∨ i = 37 ∨ i = 38 ∨ i = 39 ∨ i = 40 ∨ i = 41 ∨ i = 42 ∨ i = 43 ∨ i = 44 ∨ i = 45 ∨ i = 46 ∨ i = 47 by omega) with rfl | rfl | rfl | rfl | rfl | rfl | rfl | rfl | rfl | rfl | rfl | rfl | rfl | rfl | rfl | rfl | rfl | rfl | rfl | rfl | rfl | rfl | rfl | rfl | rfl | rfl | rfl | rfl | rfl | rfl | rfl | rfl | rfl | rfl | rfl | rfl | rfl | rfl | rfl | rfl | rfl | rfl | rfl | rfl | rfl | rfl | rfl | rfl <;> exact ⟨_, rfl⟩
  have pm : ∀ i, i < 16 → ∃ e, ([(c37, .inr (10, [.ref c36, .ref c18, .ref c19, .ref c20, .int 0, .ref c38, .ref c40, .ref c46, .int 0, .ref c47])), (c36, .inl (cW, 6, .inr (.inr (.inr (.inr (va_up (va_up (va_up (va_up (va_up (va_up (fun _ => none) 0 (some c30)) 1 (some c31)) 2 (some c32)) 3 (some c33)) 4 (some c34)) 5 (some c35))))))), (c30, .inr (8, [])), (c31, .inr (0, [])), (c32, .inr (2, [])), (c33, .inr (7, [])), (c34, .inr (6, [])), (c35, .inr (3, [])), (c18, .inr (4, [.ref c36, .ref c21, .ref c24, .ref c27, .int 0, .int 0, .int 0, .int 0, .int 0])), (c21, .inl (cC, 6, .inr (.inr (.inr (.inr (va_up (va_up (va_up (va_up (va_up (va_up (fun _ => none) 0 (some c0)) 1 (some c1)) 2 (some c2)) 3 (some c3)) 4 (some c4)) 5 (some c5))))))), (c0, .inr (1, [.int 0, .int 0, .int 0, .int 0, .int 0, .int 0])), (c1, .inr (1, [.int 0, .int 0, .int 0, .int 0, .int 0, .int 0])), (c2, .inr (1, [.int 0, .int 0, .int 0, .int 0, .int 0, .int 0])), (c3, .inr (1, [.int 0, .int 0, .int 0, .int 0, .int 0, .int 0])), (c4, .inr (1, [.int 0, .int 0, .int 0, .int 0, .int 0, .int 0])), (c5, .inr (1, [.int 0, .int 0, .int 0, .int 0, .int 0, .int 0])), (c24, .inl (cI, 4, .inl (fun _ => 0))), (c27, .inl (cI, 16, .inl (fun _ => 0))), (c19, .inr (4, [.ref c36, .ref c22, .ref c25, .ref c28, .int 0, .int 0, .int 0, .int 0, .int 0])), (c22, .inl (cC, 6, .inr (.inr (.inr (.inr (va_up (va_up (va_up (va_up (va_up (va_up (fun _ => none) 0 (some c6)) 1 (some c7)) 2 (some c8)) 3 (some c9)) 4 (some c10)) 5 (some c11))))))), (c6, .inr (1, [.int 0, .int 0, .int 0, .int 0, .int 0, .int 0])), (c7, .inr (1, [.int 0, .int 0, .int 0, .int 0, .int 0, .int 0])), (c8, .inr (1, [.int 0, .int 0, .int 0, .int 0, .int 0, .int 0])), (c9, .inr (1, [.int 0, .int 0, .int 0, .int 0, .int 0, .int 0])), (c10, .inr (1, [.int 0, .int 0, .int 0, .int 0, .int 0, .int 0])), (c11, .inr (1, [.int 0, .int 0, .int 0, .int 0, .int 0, .int 0])), (c25, .inl (cI, 4, .inl (fun _ => 0))), (c28, .inl (cI, 16, .inl (fun _ => 0))), (c20, .inr (4, [.ref c36, .ref c23, .ref c26, .ref c29, .int 0, .int 0, .int 0, .int 0, .int 0])), (c23, .inl (cC, 6, .inr (.inr (.inr (.inr (va_up (va_up (va_up (va_up (va_up (va_up (fun _ => none) 0 (some c12)) 1 (some c13)) 2 (some c14)) 3 (some c15)) 4 (some c16)) 5 (some c17))))))), (c12, .inr (1, [.int 0, .int 0, .int 0, .int 0, .int 0, .int 0])), (c13, .inr (1, [.int 0, .int 0, .int 0, .int 0, .int 0, .int 0])), (c14, .inr (1, [.int 0, .int 0, .int 0, .int 0, .int 0, .int 0])), (c15, .inr (1, [.int 0, .int 0, .int 0, .int 0, .int 0, .int 0])), (c16, .inr (1, [.int 0, .int 0, .int 0, .int 0, .int 0, .int 0])), (c17, .inr (1, [.int 0, .int 0, .int 0, .int 0, .int 0, .int 0])), (c26, .inl (cI, 4, .inl (fun _ => 0))), (c29, .inl (cI, 16, .inl (fun _ => 0))), (c38, .inr (5, [.ref c39, .int 0])), (c39, .inl (cI, 80, .inl (fun _ => 0))), (c40, .inr (9, [.ref c41, .ref c42, .ref c43, .ref c44, .ref c45, .int 0])), (c41, .inl (cI, 16, .inl (fun _ => 0))), (c42, .inl (cI, 24, .inl (fun _ => 0))), (c43, .inl (cI, 7, .inl (fun _ => 0))), (c44, .inl (cI, 6, .inl (fun _ => 0))), (c45, .inl (cI, 6, .inl (fun _ => 0))), (c46, .inl (cI, 6, .inl (fun _ => 0))), (c47, .inl (cI, 7, .inl (fun _ => 0))), (m0, .inr (11, [.ref m9, .ref m1, .ref m2, .ref m3, .ref m4, .ref m5, .ref m6, .ref m7, .ref m8, .int 0, .int 0, .int 0, .int 0, .int 0, .ref m10, .ref m11, .ref m12, .ref m13, .int 0, .int 0, .int 0, .ref m14, .int 0, .int 0, .int 0, .int 0, .int 0, .ref m15, .int 0])), (m9, .inl (cI, 7, .inl (fun _ => 0))), (m1, .inl (cI, 6, .inl (fun _ => 0))), (m2, .inl (cI, 6, .inl (fun _ => 0))), (m3, .inl (cI, 6, .inl (fun _ => 0))), (m4, .inl (cI, 6, .inl (fun _ => 0))), (m5, .inl (cI, 6, .inl (fun _ => 0))), (m6, .inl (cI, 6, .inl (fun _ => 0))), (m7, .inl (cI, 4, .inl (fun _ => 0))), (m8, .inl (cI, 16, .inl (fun _ => 0))), (m10, .inl (cI, 80, .inl (fun _ => 0))), (m11, .inl (cI, 40, .inl (fun _ => 0))), (m12, .inl (cI, 40, .inl (fun _ => 0))), (m13, .inl (cI, 160, .inl (fun _ => 0))), (m14, .inl (cI, 140, .inl (fun _ => 0))), (m15, .inl (cI, 6, .inl (fun _ => 0)))] : va_W)[([48, 50, 51, 52, 53, 54, 55, 56, 57, 49, 58, 59, 60, 61, 62, 63] : List Nat).getD i 0]? = some ((fun i : Nat => [m0, m1, m2, m3, m4, m5, m6, m7, m8, m9, m10, m11, m12, m13, m14, m15].getD i 0) i, e) := by
    intro i hi
    rcases (show i = 0 ∨ i = 1 ∨ i = 2 ∨ i = 3 ∨ i = 4 ∨ i = 5 ∨ i = 6 ∨ i = 7 ∨ i = 8 ∨ i = 9 ∨ i = 10 ∨ i = 11 ∨ i = 12 ∨ i = 13 ∨ i = 14 ∨ i = 15 by omega) with rfl | rfl | rfl | rfl | rfl | rfl | rfl | rfl | rfl | rfl | rfl | rfl | rfl | rfl | rfl | rfl <;> exact ⟨_, rfl⟩
  have nc : ∀ i, i < 48 → ∀ j, j < 48 → ([10, 11, 12, 13, 14, 15, 20, 21, 22, 23, 24, 25, 30, 31, 32, 33, 34, 35, 8, 18, 28, 9, 19, 29, 16, 26, 36, 17, 27, 37, 2, 3, 4, 5, 6, 7, 1, 0, 38, 39, 40, 41, 42, 43, 44, 45, 46, 47] : List Nat).getD i 0 = ([10, 11, 12, 13, 14, 15, 20, 21, 22, 23, 24, 25, 30, 31, 32, 33, 34, 35, 8, 18, 28, 9, 19, 29, 16, 26, 36, 17, 27, 37, 2, 3, 4, 5, 6, 7, 1, 0, 38, 39, 40, 41, 42, 43, 44, 45, 46, 47] : List Nat).getD j 0 → i = j := by decide +kernel
  have nm : ∀ i, i < 16 → ∀ j, j < 16 → ([48, 50, 51, 52, 53, 54, 55, 56, 57, 49, 58, 59, 60, 61, 62, 63] : List Nat).getD i 0 = ([48, 50, 51, 52, 53, 54, 55, 56, 57, 49, 58, 59, 60, 61, 62, 63] : List Nat).getD j 0 → i = j := by decide +kernel
  have nx : ∀ i, i < 48 → ∀ j, j < 16 → ([10, 11, 12, 13, 14, 15, 20, 21, 22, 23, 24, 25, 30, 31, 32, 33, 34, 35, 8, 18, 28, 9, 19, 29, 16, 26, 36, 17, 27, 37, 2, 3, 4, 5, 6, 7, 1, 0, 38, 39, 40, 41, 42, 43, 44, 45, 46, 47] : List Nat).getD i 0 ≠ ([48, 50, 51, 52, 53, 54, 55, 56, 57, 49, 58, 59, 60, 61, 62, 63] : List Nat).getD j 0 := by decide +kernel
  refine ⟨fun i hi => ?_, fun i hi => ?_, fun i j hi hj h => ?_, fun i j hi hj h => ?_, fun i j hi hj h => ?_⟩
  · obtain ⟨e, he⟩ := pc i hi
    exact hD.2 _ _ he
  · obtain ⟨e, he⟩ := pm i hi
    exact hD.2 _ _ he
  · obtain ⟨e, he⟩ := pc i hi
    obtain ⟨e2, he2⟩ := pc j hj
    exact nc i hi j hj (hD.1 _ _ _ _ he he2 h)
  · obtain ⟨e, he⟩ := pm i hi
    obtain ⟨e2, he2⟩ := pm j hj
    exact nm i hi j hj (hD.1 _ _ _ _ he he2 h)
  · obtain ⟨e, he⟩ := pc i hi
    obtain ⟨e2, he2⟩ := pm j hj
    exact nx i hi j hj (hD.1 _ _ _ _ he he2 h)
set_option maxHeartbeats 8000000 in
set_option maxRecDepth 100000 in
theorem whole_start {p : Program} {e : Env} {s : State} {m : MethodId} {below : List Frame} {meth : Method} {c : Code} (l : Launch) (hflags : l.flags = flags0) {b L : Nat} {xs : Nat → Int32} (hL : L ≤ 3072) (C0 : lw_At p s m meth c b L xs) : W p l e room_1 s m #[Value.ref b] below meth c s.heap [] 0 0 (lw_Z below #[Value.ref b] s) (entryFrame m ([Value.ref b] : List Value).toArray 4) := by
  obtain ⟨hx, hb, hr, hml, hown, hts, hX, hbl, hlocks, hgv⟩ := id C0
  have hgd : ∀ w ∈ lw_gd, w.before #[Value.ref b] s = true := fun w h => hts w (List.mem_filter.mp h).1
  have hA : ∀ q : Nat, s.heap.size ≤ q → (fun q : Nat => s.heap.size ≤ q) q := fun _ h => h
  have hbA : ¬ (fun q : Nat => s.heap.size ≤ q) b := Nat.not_le.mpr hbl
  obtain ⟨dC, dI, hKc⟩ := lw_known hgd
  obtain ⟨cI, cC, cW, hKt⟩ := lw_types hts
  have hK : va_K (dC, dI) vwCl (z_ty cI cC cW) s := ⟨hKc, hKt⟩
  have hE : zE s := lw_zE hts
  have hl := lv_entry ([.ref b]) (n := 4) (Nat.le_of_ble_eq_true rfl)
  rw [lg_entry_eq]
  let G : zG := (p, e, room_1, s, m, #[Value.ref b], below, meth, c, l)
  have C : gF G code 4 RL := ⟨hx, hb, hml, hown, hgd⟩
  have main : gW G 4 (zJ dC dI (fun q : Nat => s.heap.size ≤ q) (gS G) []) 0 0 (lw_Z below #[Value.ref b] s) 0 [(0, .ref b)] [] := by
    refine gx_new (ci := 10) (fs := [.null, .null, .null, .null, .int 0, .null, .null, .null, .int 0, .null]) C q_50 q_51 q_36 inX10 tyX10 tyX10_ok rfl hK hA (fun j hj => by rcases (show j = 0 ∨ j = 1 ∨ j = 2 ∨ j = 3 ∨ j = 4 ∨ j = 5 ∨ j = 6 ∨ j = 7 ∨ j = 8 ∨ j = 9 by omega) with rfl | rfl | rfl | rfl | rfl | rfl | rfl | rfl | rfl | rfl <;> rfl) (Nat.le_of_ble_eq_true rfl) (Nat.le_of_ble_eq_true rfl) dL_law_0 (fun c37 => ?_)
    refine gx_ws (ws1 := [(c37, .inr (10, [.null, .null, .null, .null, .int 0, .null, .null, .null, .int 0, .null]))]) rfl ?_
    refine gx_dup C dL_law_3 rfl ?_
    refine gx_init (d1 := 4) (mc := 47) (ms := 379) (As := []) (st := [.ref c37]) (wc := [(c37, .inr (10, [.null, .null, .null, .null, .int 0, .null, .null, .null, .int 0, .null]))]) (wr := []) C hK hE hA (n_X10_init c37) yk_X10_init q_52 q_53 (by decide) [0] [] rfl rfl (by decide) (by decide) (by decide) rfl rfl (Nat.le_of_ble_eq_true rfl) (Nat.le_of_ble_eq_true rfl) (Nat.le_of_ble_eq_true rfl) (Nat.le_of_ble_eq_true rfl) (Nat.le_of_ble_eq_true rfl) dL_law_4 (fun w hw => ?_)
    obtain ⟨c36, c30, c31, c32, c33, c34, c35, c18, c21, c0, c1, c2, c3, c4, c5, c24, c27, c19, c22, c6, c7, c8, c9, c10, c11, c25, c28, c20, c23, c12, c13, c14, c15, c16, c17, c26, c29, c38, c39, c40, c41, c42, c43, c44, c45, c46, c47, rfl⟩ := hw
    refine gx_ws (ws1 := [(c37, .inr (10, [.ref c36, .ref c18, .ref c19, .ref c20, .int 0, .ref c38, .ref c40, .ref c46, .int 0, .ref c47])), (c36, .inl (cW, 6, .inr (.inr (.inr (.inr (va_up (va_up (va_up (va_up (va_up (va_up (fun _ => none) 0 (some c30)) 1 (some c31)) 2 (some c32)) 3 (some c33)) 4 (some c34)) 5 (some c35))))))), (c30, .inr (8, [])), (c31, .inr (0, [])), (c32, .inr (2, [])), (c33, .inr (7, [])), (c34, .inr (6, [])), (c35, .inr (3, [])), (c18, .inr (4, [.ref c36, .ref c21, .ref c24, .ref c27, .int 0, .int 0, .int 0, .int 0, .int 0])), (c21, .inl (cC, 6, .inr (.inr (.inr (.inr (va_up (va_up (va_up (va_up (va_up (va_up (fun _ => none) 0 (some c0)) 1 (some c1)) 2 (some c2)) 3 (some c3)) 4 (some c4)) 5 (some c5))))))), (c0, .inr (1, [.int 0, .int 0, .int 0, .int 0, .int 0, .int 0])), (c1, .inr (1, [.int 0, .int 0, .int 0, .int 0, .int 0, .int 0])), (c2, .inr (1, [.int 0, .int 0, .int 0, .int 0, .int 0, .int 0])), (c3, .inr (1, [.int 0, .int 0, .int 0, .int 0, .int 0, .int 0])), (c4, .inr (1, [.int 0, .int 0, .int 0, .int 0, .int 0, .int 0])), (c5, .inr (1, [.int 0, .int 0, .int 0, .int 0, .int 0, .int 0])), (c24, .inl (cI, 4, .inl (fun _ => 0))), (c27, .inl (cI, 16, .inl (fun _ => 0))), (c19, .inr (4, [.ref c36, .ref c22, .ref c25, .ref c28, .int 0, .int 0, .int 0, .int 0, .int 0])), (c22, .inl (cC, 6, .inr (.inr (.inr (.inr (va_up (va_up (va_up (va_up (va_up (va_up (fun _ => none) 0 (some c6)) 1 (some c7)) 2 (some c8)) 3 (some c9)) 4 (some c10)) 5 (some c11))))))), (c6, .inr (1, [.int 0, .int 0, .int 0, .int 0, .int 0, .int 0])), (c7, .inr (1, [.int 0, .int 0, .int 0, .int 0, .int 0, .int 0])), (c8, .inr (1, [.int 0, .int 0, .int 0, .int 0, .int 0, .int 0])), (c9, .inr (1, [.int 0, .int 0, .int 0, .int 0, .int 0, .int 0])), (c10, .inr (1, [.int 0, .int 0, .int 0, .int 0, .int 0, .int 0])), (c11, .inr (1, [.int 0, .int 0, .int 0, .int 0, .int 0, .int 0])), (c25, .inl (cI, 4, .inl (fun _ => 0))), (c28, .inl (cI, 16, .inl (fun _ => 0))), (c20, .inr (4, [.ref c36, .ref c23, .ref c26, .ref c29, .int 0, .int 0, .int 0, .int 0, .int 0])), (c23, .inl (cC, 6, .inr (.inr (.inr (.inr (va_up (va_up (va_up (va_up (va_up (va_up (fun _ => none) 0 (some c12)) 1 (some c13)) 2 (some c14)) 3 (some c15)) 4 (some c16)) 5 (some c17))))))), (c12, .inr (1, [.int 0, .int 0, .int 0, .int 0, .int 0, .int 0])), (c13, .inr (1, [.int 0, .int 0, .int 0, .int 0, .int 0, .int 0])), (c14, .inr (1, [.int 0, .int 0, .int 0, .int 0, .int 0, .int 0])), (c15, .inr (1, [.int 0, .int 0, .int 0, .int 0, .int 0, .int 0])), (c16, .inr (1, [.int 0, .int 0, .int 0, .int 0, .int 0, .int 0])), (c17, .inr (1, [.int 0, .int 0, .int 0, .int 0, .int 0, .int 0])), (c26, .inl (cI, 4, .inl (fun _ => 0))), (c29, .inl (cI, 16, .inl (fun _ => 0))), (c38, .inr (5, [.ref c39, .int 0])), (c39, .inl (cI, 80, .inl (fun _ => 0))), (c40, .inr (9, [.ref c41, .ref c42, .ref c43, .ref c44, .ref c45, .int 0])), (c41, .inl (cI, 16, .inl (fun _ => 0))), (c42, .inl (cI, 24, .inl (fun _ => 0))), (c43, .inl (cI, 7, .inl (fun _ => 0))), (c44, .inl (cI, 6, .inl (fun _ => 0))), (c45, .inl (cI, 6, .inl (fun _ => 0))), (c46, .inl (cI, 6, .inl (fun _ => 0))), (c47, .inl (cI, 7, .inl (fun _ => 0)))]) rfl ?_
    refine gx_astore_n (L1 := [(1, .ref c37), (0, .ref b)]) C dL_law_7 rfl (by decide) rfl ?_
    refine gx_new (ci := 11) (fs := [.null, .null, .null, .null, .null, .null, .null, .null, .null, .int 0, .int 0, .int 0, .int 0, .int 0, .null, .null, .null, .null, .int 0, .int 0, .int 0, .null, .int 0, .int 0, .int 0, .int 0, .int 0, .null, .int 0]) C q_646 q_647 q_47 inX11 tyX11 tyX11_ok rfl hK hA (fun j hj => by rcases (show j = 0 ∨ j = 1 ∨ j = 2 ∨ j = 3 ∨ j = 4 ∨ j = 5 ∨ j = 6 ∨ j = 7 ∨ j = 8 ∨ j = 9 ∨ j = 10 ∨ j = 11 ∨ j = 12 ∨ j = 13 ∨ j = 14 ∨ j = 15 ∨ j = 16 ∨ j = 17 ∨ j = 18 ∨ j = 19 ∨ j = 20 ∨ j = 21 ∨ j = 22 ∨ j = 23 ∨ j = 24 ∨ j = 25 ∨ j = 26 ∨ j = 27 ∨ j = 28 by omega) with rfl | rfl | rfl | rfl | rfl | rfl | rfl | rfl | rfl | rfl | rfl | rfl | rfl | rfl | rfl | rfl | rfl | rfl | rfl | rfl | rfl | rfl | rfl | rfl | rfl | rfl | rfl | rfl | rfl <;> rfl) (Nat.le_of_ble_eq_true rfl) (Nat.le_of_ble_eq_true rfl) dL_law_8 (fun m0 => ?_)
    refine gx_ws (ws1 := [(c37, .inr (10, [.ref c36, .ref c18, .ref c19, .ref c20, .int 0, .ref c38, .ref c40, .ref c46, .int 0, .ref c47])), (c36, .inl (cW, 6, .inr (.inr (.inr (.inr (va_up (va_up (va_up (va_up (va_up (va_up (fun _ => none) 0 (some c30)) 1 (some c31)) 2 (some c32)) 3 (some c33)) 4 (some c34)) 5 (some c35))))))), (c30, .inr (8, [])), (c31, .inr (0, [])), (c32, .inr (2, [])), (c33, .inr (7, [])), (c34, .inr (6, [])), (c35, .inr (3, [])), (c18, .inr (4, [.ref c36, .ref c21, .ref c24, .ref c27, .int 0, .int 0, .int 0, .int 0, .int 0])), (c21, .inl (cC, 6, .inr (.inr (.inr (.inr (va_up (va_up (va_up (va_up (va_up (va_up (fun _ => none) 0 (some c0)) 1 (some c1)) 2 (some c2)) 3 (some c3)) 4 (some c4)) 5 (some c5))))))), (c0, .inr (1, [.int 0, .int 0, .int 0, .int 0, .int 0, .int 0])), (c1, .inr (1, [.int 0, .int 0, .int 0, .int 0, .int 0, .int 0])), (c2, .inr (1, [.int 0, .int 0, .int 0, .int 0, .int 0, .int 0])), (c3, .inr (1, [.int 0, .int 0, .int 0, .int 0, .int 0, .int 0])), (c4, .inr (1, [.int 0, .int 0, .int 0, .int 0, .int 0, .int 0])), (c5, .inr (1, [.int 0, .int 0, .int 0, .int 0, .int 0, .int 0])), (c24, .inl (cI, 4, .inl (fun _ => 0))), (c27, .inl (cI, 16, .inl (fun _ => 0))), (c19, .inr (4, [.ref c36, .ref c22, .ref c25, .ref c28, .int 0, .int 0, .int 0, .int 0, .int 0])), (c22, .inl (cC, 6, .inr (.inr (.inr (.inr (va_up (va_up (va_up (va_up (va_up (va_up (fun _ => none) 0 (some c6)) 1 (some c7)) 2 (some c8)) 3 (some c9)) 4 (some c10)) 5 (some c11))))))), (c6, .inr (1, [.int 0, .int 0, .int 0, .int 0, .int 0, .int 0])), (c7, .inr (1, [.int 0, .int 0, .int 0, .int 0, .int 0, .int 0])), (c8, .inr (1, [.int 0, .int 0, .int 0, .int 0, .int 0, .int 0])), (c9, .inr (1, [.int 0, .int 0, .int 0, .int 0, .int 0, .int 0])), (c10, .inr (1, [.int 0, .int 0, .int 0, .int 0, .int 0, .int 0])), (c11, .inr (1, [.int 0, .int 0, .int 0, .int 0, .int 0, .int 0])), (c25, .inl (cI, 4, .inl (fun _ => 0))), (c28, .inl (cI, 16, .inl (fun _ => 0))), (c20, .inr (4, [.ref c36, .ref c23, .ref c26, .ref c29, .int 0, .int 0, .int 0, .int 0, .int 0])), (c23, .inl (cC, 6, .inr (.inr (.inr (.inr (va_up (va_up (va_up (va_up (va_up (va_up (fun _ => none) 0 (some c12)) 1 (some c13)) 2 (some c14)) 3 (some c15)) 4 (some c16)) 5 (some c17))))))), (c12, .inr (1, [.int 0, .int 0, .int 0, .int 0, .int 0, .int 0])), (c13, .inr (1, [.int 0, .int 0, .int 0, .int 0, .int 0, .int 0])), (c14, .inr (1, [.int 0, .int 0, .int 0, .int 0, .int 0, .int 0])), (c15, .inr (1, [.int 0, .int 0, .int 0, .int 0, .int 0, .int 0])), (c16, .inr (1, [.int 0, .int 0, .int 0, .int 0, .int 0, .int 0])), (c17, .inr (1, [.int 0, .int 0, .int 0, .int 0, .int 0, .int 0])), (c26, .inl (cI, 4, .inl (fun _ => 0))), (c29, .inl (cI, 16, .inl (fun _ => 0))), (c38, .inr (5, [.ref c39, .int 0])), (c39, .inl (cI, 80, .inl (fun _ => 0))), (c40, .inr (9, [.ref c41, .ref c42, .ref c43, .ref c44, .ref c45, .int 0])), (c41, .inl (cI, 16, .inl (fun _ => 0))), (c42, .inl (cI, 24, .inl (fun _ => 0))), (c43, .inl (cI, 7, .inl (fun _ => 0))), (c44, .inl (cI, 6, .inl (fun _ => 0))), (c45, .inl (cI, 6, .inl (fun _ => 0))), (c46, .inl (cI, 6, .inl (fun _ => 0))), (c47, .inl (cI, 7, .inl (fun _ => 0))), (m0, .inr (11, [.null, .null, .null, .null, .null, .null, .null, .null, .null, .int 0, .int 0, .int 0, .int 0, .int 0, .null, .null, .null, .null, .int 0, .int 0, .int 0, .null, .int 0, .int 0, .int 0, .int 0, .int 0, .null, .int 0]))]) rfl ?_
    refine gx_dup C dL_law_11 rfl ?_
    refine gx_init (d1 := 1) (mc := 15) (ms := 529) (As := []) (st := [.ref m0]) (wc := [(m0, .inr (11, [.null, .null, .null, .null, .null, .null, .null, .null, .null, .int 0, .int 0, .int 0, .int 0, .int 0, .null, .null, .null, .null, .int 0, .int 0, .int 0, .null, .int 0, .int 0, .int 0, .int 0, .int 0, .null, .int 0]))]) (wr := [(c37, .inr (10, [.ref c36, .ref c18, .ref c19, .ref c20, .int 0, .ref c38, .ref c40, .ref c46, .int 0, .ref c47])), (c36, .inl (cW, 6, .inr (.inr (.inr (.inr (va_up (va_up (va_up (va_up (va_up (va_up (fun _ => none) 0 (some c30)) 1 (some c31)) 2 (some c32)) 3 (some c33)) 4 (some c34)) 5 (some c35))))))), (c30, .inr (8, [])), (c31, .inr (0, [])), (c32, .inr (2, [])), (c33, .inr (7, [])), (c34, .inr (6, [])), (c35, .inr (3, [])), (c18, .inr (4, [.ref c36, .ref c21, .ref c24, .ref c27, .int 0, .int 0, .int 0, .int 0, .int 0])), (c21, .inl (cC, 6, .inr (.inr (.inr (.inr (va_up (va_up (va_up (va_up (va_up (va_up (fun _ => none) 0 (some c0)) 1 (some c1)) 2 (some c2)) 3 (some c3)) 4 (some c4)) 5 (some c5))))))), (c0, .inr (1, [.int 0, .int 0, .int 0, .int 0, .int 0, .int 0])), (c1, .inr (1, [.int 0, .int 0, .int 0, .int 0, .int 0, .int 0])), (c2, .inr (1, [.int 0, .int 0, .int 0, .int 0, .int 0, .int 0])), (c3, .inr (1, [.int 0, .int 0, .int 0, .int 0, .int 0, .int 0])), (c4, .inr (1, [.int 0, .int 0, .int 0, .int 0, .int 0, .int 0])), (c5, .inr (1, [.int 0, .int 0, .int 0, .int 0, .int 0, .int 0])), (c24, .inl (cI, 4, .inl (fun _ => 0))), (c27, .inl (cI, 16, .inl (fun _ => 0))), (c19, .inr (4, [.ref c36, .ref c22, .ref c25, .ref c28, .int 0, .int 0, .int 0, .int 0, .int 0])), (c22, .inl (cC, 6, .inr (.inr (.inr (.inr (va_up (va_up (va_up (va_up (va_up (va_up (fun _ => none) 0 (some c6)) 1 (some c7)) 2 (some c8)) 3 (some c9)) 4 (some c10)) 5 (some c11))))))), (c6, .inr (1, [.int 0, .int 0, .int 0, .int 0, .int 0, .int 0])), (c7, .inr (1, [.int 0, .int 0, .int 0, .int 0, .int 0, .int 0])), (c8, .inr (1, [.int 0, .int 0, .int 0, .int 0, .int 0, .int 0])), (c9, .inr (1, [.int 0, .int 0, .int 0, .int 0, .int 0, .int 0])), (c10, .inr (1, [.int 0, .int 0, .int 0, .int 0, .int 0, .int 0])), (c11, .inr (1, [.int 0, .int 0, .int 0, .int 0, .int 0, .int 0])), (c25, .inl (cI, 4, .inl (fun _ => 0))), (c28, .inl (cI, 16, .inl (fun _ => 0))), (c20, .inr (4, [.ref c36, .ref c23, .ref c26, .ref c29, .int 0, .int 0, .int 0, .int 0, .int 0])), (c23, .inl (cC, 6, .inr (.inr (.inr (.inr (va_up (va_up (va_up (va_up (va_up (va_up (fun _ => none) 0 (some c12)) 1 (some c13)) 2 (some c14)) 3 (some c15)) 4 (some c16)) 5 (some c17))))))), (c12, .inr (1, [.int 0, .int 0, .int 0, .int 0, .int 0, .int 0])), (c13, .inr (1, [.int 0, .int 0, .int 0, .int 0, .int 0, .int 0])), (c14, .inr (1, [.int 0, .int 0, .int 0, .int 0, .int 0, .int 0])), (c15, .inr (1, [.int 0, .int 0, .int 0, .int 0, .int 0, .int 0])), (c16, .inr (1, [.int 0, .int 0, .int 0, .int 0, .int 0, .int 0])), (c17, .inr (1, [.int 0, .int 0, .int 0, .int 0, .int 0, .int 0])), (c26, .inl (cI, 4, .inl (fun _ => 0))), (c29, .inl (cI, 16, .inl (fun _ => 0))), (c38, .inr (5, [.ref c39, .int 0])), (c39, .inl (cI, 80, .inl (fun _ => 0))), (c40, .inr (9, [.ref c41, .ref c42, .ref c43, .ref c44, .ref c45, .int 0])), (c41, .inl (cI, 16, .inl (fun _ => 0))), (c42, .inl (cI, 24, .inl (fun _ => 0))), (c43, .inl (cI, 7, .inl (fun _ => 0))), (c44, .inl (cI, 6, .inl (fun _ => 0))), (c45, .inl (cI, 6, .inl (fun _ => 0))), (c46, .inl (cI, 6, .inl (fun _ => 0))), (c47, .inl (cI, 7, .inl (fun _ => 0)))]) C hK hE hA (n_X11_init m0) yk_X11_init q_648 q_649 (by decide) [48] [0, 1, 2, 3, 4, 5, 6, 7, 8, 9, 10, 11, 12, 13, 14, 15, 16, 17, 18, 19, 20, 21, 22, 23, 24, 25, 26, 27, 28, 29, 30, 31, 32, 33, 34, 35, 36, 37, 38, 39, 40, 41, 42, 43, 44, 45, 46, 47] rfl rfl (by decide) (by decide) (by decide) rfl rfl (Nat.le_of_ble_eq_true rfl) (Nat.le_of_ble_eq_true rfl) (Nat.le_of_ble_eq_true rfl) (Nat.le_of_ble_eq_true rfl) (Nat.le_of_ble_eq_true rfl) dL_law_12 (fun w hw => ?_)
    obtain ⟨m9, m1, m2, m3, m4, m5, m6, m7, m8, m10, m11, m12, m13, m14, m15, rfl⟩ := hw
    refine gx_ws (ws1 := [(c37, .inr (10, [.ref c36, .ref c18, .ref c19, .ref c20, .int 0, .ref c38, .ref c40, .ref c46, .int 0, .ref c47])), (c36, .inl (cW, 6, .inr (.inr (.inr (.inr (va_up (va_up (va_up (va_up (va_up (va_up (fun _ => none) 0 (some c30)) 1 (some c31)) 2 (some c32)) 3 (some c33)) 4 (some c34)) 5 (some c35))))))), (c30, .inr (8, [])), (c31, .inr (0, [])), (c32, .inr (2, [])), (c33, .inr (7, [])), (c34, .inr (6, [])), (c35, .inr (3, [])), (c18, .inr (4, [.ref c36, .ref c21, .ref c24, .ref c27, .int 0, .int 0, .int 0, .int 0, .int 0])), (c21, .inl (cC, 6, .inr (.inr (.inr (.inr (va_up (va_up (va_up (va_up (va_up (va_up (fun _ => none) 0 (some c0)) 1 (some c1)) 2 (some c2)) 3 (some c3)) 4 (some c4)) 5 (some c5))))))), (c0, .inr (1, [.int 0, .int 0, .int 0, .int 0, .int 0, .int 0])), (c1, .inr (1, [.int 0, .int 0, .int 0, .int 0, .int 0, .int 0])), (c2, .inr (1, [.int 0, .int 0, .int 0, .int 0, .int 0, .int 0])), (c3, .inr (1, [.int 0, .int 0, .int 0, .int 0, .int 0, .int 0])), (c4, .inr (1, [.int 0, .int 0, .int 0, .int 0, .int 0, .int 0])), (c5, .inr (1, [.int 0, .int 0, .int 0, .int 0, .int 0, .int 0])), (c24, .inl (cI, 4, .inl (fun _ => 0))), (c27, .inl (cI, 16, .inl (fun _ => 0))), (c19, .inr (4, [.ref c36, .ref c22, .ref c25, .ref c28, .int 0, .int 0, .int 0, .int 0, .int 0])), (c22, .inl (cC, 6, .inr (.inr (.inr (.inr (va_up (va_up (va_up (va_up (va_up (va_up (fun _ => none) 0 (some c6)) 1 (some c7)) 2 (some c8)) 3 (some c9)) 4 (some c10)) 5 (some c11))))))), (c6, .inr (1, [.int 0, .int 0, .int 0, .int 0, .int 0, .int 0])), (c7, .inr (1, [.int 0, .int 0, .int 0, .int 0, .int 0, .int 0])), (c8, .inr (1, [.int 0, .int 0, .int 0, .int 0, .int 0, .int 0])), (c9, .inr (1, [.int 0, .int 0, .int 0, .int 0, .int 0, .int 0])), (c10, .inr (1, [.int 0, .int 0, .int 0, .int 0, .int 0, .int 0])), (c11, .inr (1, [.int 0, .int 0, .int 0, .int 0, .int 0, .int 0])), (c25, .inl (cI, 4, .inl (fun _ => 0))), (c28, .inl (cI, 16, .inl (fun _ => 0))), (c20, .inr (4, [.ref c36, .ref c23, .ref c26, .ref c29, .int 0, .int 0, .int 0, .int 0, .int 0])), (c23, .inl (cC, 6, .inr (.inr (.inr (.inr (va_up (va_up (va_up (va_up (va_up (va_up (fun _ => none) 0 (some c12)) 1 (some c13)) 2 (some c14)) 3 (some c15)) 4 (some c16)) 5 (some c17))))))), (c12, .inr (1, [.int 0, .int 0, .int 0, .int 0, .int 0, .int 0])), (c13, .inr (1, [.int 0, .int 0, .int 0, .int 0, .int 0, .int 0])), (c14, .inr (1, [.int 0, .int 0, .int 0, .int 0, .int 0, .int 0])), (c15, .inr (1, [.int 0, .int 0, .int 0, .int 0, .int 0, .int 0])), (c16, .inr (1, [.int 0, .int 0, .int 0, .int 0, .int 0, .int 0])), (c17, .inr (1, [.int 0, .int 0, .int 0, .int 0, .int 0, .int 0])), (c26, .inl (cI, 4, .inl (fun _ => 0))), (c29, .inl (cI, 16, .inl (fun _ => 0))), (c38, .inr (5, [.ref c39, .int 0])), (c39, .inl (cI, 80, .inl (fun _ => 0))), (c40, .inr (9, [.ref c41, .ref c42, .ref c43, .ref c44, .ref c45, .int 0])), (c41, .inl (cI, 16, .inl (fun _ => 0))), (c42, .inl (cI, 24, .inl (fun _ => 0))), (c43, .inl (cI, 7, .inl (fun _ => 0))), (c44, .inl (cI, 6, .inl (fun _ => 0))), (c45, .inl (cI, 6, .inl (fun _ => 0))), (c46, .inl (cI, 6, .inl (fun _ => 0))), (c47, .inl (cI, 7, .inl (fun _ => 0))), (m0, .inr (11, [.ref m9, .ref m1, .ref m2, .ref m3, .ref m4, .ref m5, .ref m6, .ref m7, .ref m8, .int 0, .int 0, .int 0, .int 0, .int 0, .ref m10, .ref m11, .ref m12, .ref m13, .int 0, .int 0, .int 0, .ref m14, .int 0, .int 0, .int 0, .int 0, .int 0, .ref m15, .int 0])), (m9, .inl (cI, 7, .inl (fun _ => 0))), (m1, .inl (cI, 6, .inl (fun _ => 0))), (m2, .inl (cI, 6, .inl (fun _ => 0))), (m3, .inl (cI, 6, .inl (fun _ => 0))), (m4, .inl (cI, 6, .inl (fun _ => 0))), (m5, .inl (cI, 6, .inl (fun _ => 0))), (m6, .inl (cI, 6, .inl (fun _ => 0))), (m7, .inl (cI, 4, .inl (fun _ => 0))), (m8, .inl (cI, 16, .inl (fun _ => 0))), (m10, .inl (cI, 80, .inl (fun _ => 0))), (m11, .inl (cI, 40, .inl (fun _ => 0))), (m12, .inl (cI, 40, .inl (fun _ => 0))), (m13, .inl (cI, 160, .inl (fun _ => 0))), (m14, .inl (cI, 140, .inl (fun _ => 0))), (m15, .inl (cI, 6, .inl (fun _ => 0)))]) rfl ?_
    refine gx_astore_n (L1 := [(2, .ref m0), (1, .ref c37), (0, .ref b)]) C dL_law_15 rfl (by decide) rfl ?_
    refine gx_iconst (v := 0) C dL_law_16 (by decide) ?_
    refine gx_istore_n (L1 := [(3, .int 0), (2, .ref m0), (1, .ref c37), (0, .ref b)]) C dL_law_17 rfl (by decide) rfl ?_
    refine gx_widen (cells1 := 600000) (slots1 := 7302250) (Nat.le_of_ble_eq_true rfl) (Nat.le_of_ble_eq_true rfl) ?_
    intro H locs ls hJ hl
    have hdd := lw_DD (cI := cI) (cC := cC) (cW := cW) c0 c1 c2 c3 c4 c5 c6 c7 c8 c9 c10 c11 c12 c13 c14 c15 c16 c17 c18 c19 c20 c21 c22 c23 c24 c25 c26 c27 c28 c29 c30 c31 c32 c33 c34 c35 c36 c37 c38 c39 c40 c41 c42 c43 c44 c45 c46 c47 m0 m1 m2 m3 m4 m5 m6 m7 m8 m9 m10 m11 m12 m13 m14 m15 hJ.2.1
    have B : zB G dC dI (fun q : Nat => s.heap.size ≤ q) (fun i : Nat => [c0, c1, c2, c3, c4, c5, c6, c7, c8, c9, c10, c11, c12, c13, c14, c15, c16, c17, c18, c19, c20, c21, c22, c23, c24, c25, c26, c27, c28, c29, c30, c31, c32, c33, c34, c35, c36, c37, c38, c39, c40, c41, c42, c43, c44, c45, c46, c47].getD i 0) (fun i : Nat => [m0, m1, m2, m3, m4, m5, m6, m7, m8, m9, m10, m11, m12, m13, m14, m15].getD i 0) cI cC cW b L xs := ⟨C, hK, hE.1, rfl, hX, hbl, hbA, hdd.1, hdd.2.1, hdd.2.2.1, hdd.2.2.2.1, hdd.2.2.2.2⟩
    refine law_loop B hL (fun σ τ x3 => ?_) (L + 7) 0 0 (by omega) (by omega) rfl (fun _ _ => 0) (fun _ _ => 0) zInv_0 H locs ls ⟨lw_PC c0 c1 c2 c3 c4 c5 c6 c7 c8 c9 c10 c11 c12 c13 c14 c15 c16 c17 c18 c19 c20 c21 c22 c23 c24 c25 c26 c27 c28 c29 c30 c31 c32 c33 c34 c35 c36 c37 c38 c39 c40 c41 c42 c43 c44 c45 c46 c47 m0 m1 m2 m3 m4 m5 m6 m7 m8 m9 m10 m11 m12 m13 m14 m15 hJ.1, lw_PM c0 c1 c2 c3 c4 c5 c6 c7 c8 c9 c10 c11 c12 c13 c14 c15 c16 c17 c18 c19 c20 c21 c22 c23 c24 c25 c26 c27 c28 c29 c30 c31 c32 c33 c34 c35 c36 c37 c38 c39 c40 c41 c42 c43 c44 c45 c46 c47 m0 m1 m2 m3 m4 m5 m6 m7 m8 m9 m10 m11 m12 m13 m14 m15 hJ.1, hJ.2.2⟩ (lv_sub hl [3, 2, 1, 0] rfl)
    intro H locs ls hJ hl
    refine lv_iconst (v := 1) hx hb dL_law_969 (by decide) ?_
    refine va_forget (fun q hq => hJ.2.2.2.2 q hq) ?_
    exact lw_ret hx hb hr hlocks dL_law_970
  exact main s.heap [] _ ⟨fun k q h => by simp at h, ⟨fun i j p q h => by simp at h, fun k q h => by simp at h⟩, va_S.rf⟩ hl
set_option maxHeartbeats 4000000 in
theorem lw_walk (l : Launch) (hflags : l.flags = flags0) (b : Addr) (xs : List Int32) : MetFree l x (headSpec (Jvm.Cond.code x code maxLocals ret :: tables_1) room_1) (lw_P b xs) (fun _ _ _ _ _ => True) lw_Q := by
  refine MetFree.of_bodyS (code := code) (maxLocals := maxLocals) (ret := ret) (by decide) ?_ ?_
  · intro args s m h hn
    obtain ⟨meth, c, h1, h2, h3, h4, h5, h6, -, -⟩ := Cond.code_spec hn (atoms_spec (ws := Jvm.Cond.code x code maxLocals ret :: tables_1) h _ List.mem_cons_self)
    exact ⟨meth, c, h1, h2, h3, h4, h5, h6⟩
  · intro p e s m args below meth c s₁ B hml0 hP _
    obtain ⟨rfl, hx, hbd, hgv⟩ := hP
    obtain ⟨scr, harrAt, hlist, hof, hsmall⟩ := hx
    obtain ⟨hcb, hkn, -, -⟩ := State.arrayAt?_spec harrAt
    have hown : s.vm.findClass R_law = some m.cls := findClass_of_methodNamed B.named
    have hts0 : ∀ c ∈ (Jvm.Cond.code x code maxLocals ret :: tables_1), c.before #[Value.ref b] s = true := atoms_spec (ws := Jvm.Cond.code x code maxLocals ret :: tables_1) B.pre
    have hts : ∀ w ∈ lw_tbl, w.before #[Value.ref b] s = true := k2_hts_sels lw_privs (fun w hw => hts0 w (List.mem_cons_of_mem _ hw)) lw_privs_ok
    have hml : c.maxLocals = 4 := B.maxLocals_eq (hts0 _ List.mem_cons_self)
    have X₀ : Stand p l e room_1 s m #[Value.ref b] below meth c s₁ [] 0 0 := Stand.of_body B
    have hh0 : s₁.heap = s.heap := by rw [B.state]; rfl
    have hsz : scr.slots.size = xs.length := by rw [← Array.length_toList, hlist, List.length_map]
    have hval : ∀ j : Nat, j < xs.length → scr.slots[j]? = some (.int (xs.getD j 0)) := fun j hj => by
      rw [← Array.getElem?_toList, hlist]
      simp [hj]
    have hbl : b < s.heap.size := (Array.getElem?_eq_some_iff.mp hcb).1
    have hX : va_X b xs.length (fun j => xs.getD j 0) s s.heap := ⟨scr, hcb, hof, hkn, hsz, hval⟩
    have K : W p l e room_1 s m #[Value.ref b] below meth c s₁.heap [] 0 0 (lw_Z below #[Value.ref b] s) (entryFrame m ([Value.ref b] : List Value).toArray 4) := by
      rw [hh0]
      exact whole_start l hflags hbd ⟨B.exec, B.bytes, B.returns, hml, hown, hts, hX, hbl, B.notSynchronized, hgv⟩
    obtain ⟨t, a1, o, b1, b2, b3⟩ := K s₁ rfl X₀
    exact ⟨t, o, a1, b1, b2, b3⟩
theorem lw_pre_spec {args : Array Value} {s : State} (h : (Jvm.Cond.and given_1 narrow_1).before args s = true) (hr : rest_1_c.before args s = true) : ∃ (b : Addr) (xs : List Int32), lw_P b xs args s := by
  have hs := flat_of_before _ h
  have hq := flat_of_before _ hr
  have hc : (Cond.count 1).before args s = true := hs _ (by decide +kernel)
  have harr : (Cond.arrayOf (.arg 0) .int).before args s = true := hs _ (by decide +kernel)
  have hle : (Cond.le (.length (.arg 0)) (.int 3072)).before args s = true := hs _ (by decide +kernel)
  have hlen : (Cond.isInt (.length (.arg 0))).before args s = true := hq _ (by decide +kernel)
  have hall : (Cond.all (.arg 0) (.isInt (.elem (.arg 0) (.index 0)))).before args s = true := hq _ (by decide +kernel)
  obtain ⟨b, xs, hb, hx⟩ := State.ints_of_pre rfl harr hlen hall
  have hsm : xs.length < 2 ^ 31 := hx.choose_spec.2.2.2
  have hev : (Term.length (.arg 0)).eval args s none [] s = some (.int xs.length.toInt32) := hx.length_eval hb
  have hv := Cond.le_ints hev (show (Term.int 3072).eval args s none [] s = some (.int 3072) from rfl)
  have hd : xs.length.toInt32 ≤ 3072 := by
    simpa [Cond.before, Cond.holds, hv] using hle
  have hN : xs.length ≤ 3072 := (Int32.ofNat_le_ofNat hsm (by decide)).mp (show Int32.ofNat xs.length ≤ Int32.ofNat 3072 from hd)
  exact ⟨b, xs, Cond.one_arg hc (show args[0]? = some (.ref b) from hb), hx, hN, h⟩
theorem lw_comes (l : Launch) (hflags : l.flags = flags0) : Comes l x (Jvm.Cond.code x code maxLocals ret :: tables_1) room_1 (fun tb e args s => Calls_1 tb e args s ∧ rest_1 tb e args s ∧ Pre_1 tb e args s)
    (fun _ _ args s o t => lw_Q args s o t) := by
  intro p e ha hc hk s m args below hf hfit hheap happ hpre
  obtain ⟨b, xs, hP⟩ := lw_pre_spec hpre.2.2 hpre.2.1
  obtain ⟨k, o, h1, h2, h3, hQ⟩ := lw_walk l hflags b xs p e ha hc hk s m args below hf ((Spec.applies_iff_loose hf).mp happ).1 hP trivial
  exact ⟨k, o, h1, h2, h3, hQ⟩
theorem lw_frame {s t : State} {o : Outcome} {args : Array Value} (h : Framed s o t [] 600000 7302250) :
    Framed s o t (fieldLocs frame_1_writes args s ++ arrayLocs frame_1_arrays args s ++ staticLocs frame_1_statics s) 600000 7302250 := h
theorem lw_limb (L : Cond) (hL : ∀ (args : Array Value) (s t : State), L.after args s (.returned (some (.int 1))) t = true) :
    ArmFor flags0 classFile x code maxLocals ret World_1 tables_1 room_1 Calls_1 rest_1 Pre_1
      (fun tb e a s o t => postC L tb e a s o t ∧ Framed s o t (fieldLocs frame_1_writes a s ++ arrayLocs frame_1_arrays a s ++ staticLocs frame_1_statics s) 600000 7302250) := by
  intro l hflags _ _ p e ha hc hk s m args below hf hfit hheap happ hpre
  obtain ⟨k, o, h1, h2, h3, rfl, hF⟩ := lw_comes l hflags p e ha hc hk s m args below hf hfit hheap happ hpre
  exact ⟨k, _, h1, h2, h3, hL args s _, lw_frame hF⟩
theorem i_vc : Claimed_1_1 ∧ Claimed_1_2 := ⟨lw_limb limb_1_1 (fun args s t => by simp [limb_1_1, Cond.after, Cond.holds, Cond.value]), lw_limb limb_1_2 (fun args s t => Cond.after_iff.mpr (by
  first | (rw [show limb_1_2 = Cond.eq .result (.int 1) from rfl, Cond.eq_ints (x := 1) (y := 1) rfl rfl]; simp; done) | (simp [limb_1_2, Cond.value, Term.eval]; done)))⟩
