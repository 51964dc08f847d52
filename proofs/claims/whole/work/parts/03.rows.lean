/-! The machine's rows over a world of a fixed shape: n cells at addresses ad i, cell i is cf σ i, σ the numbers (cell, slot). A walk's goal is zW: 'if the pure text o answers (r, σ2), then from here the method returns r with the numbers σ2'. -/
abbrev zS : Type := Nat → Nat → Int32
def z_row (σ : zS) (i : Nat) (r : Nat → Int32) : zS := fun a => if a = i then r else σ a
def z_put (σ : zS) (i k : Nat) (v : Int32) : zS := z_row σ i (upd (σ i) k v)
theorem z_row_same (σ : zS) (i : Nat) (r : Nat → Int32) : z_row σ i r i = r := if_pos rfl
theorem z_row_ne (σ : zS) {i j : Nat} (r : Nat → Int32) (h : j ≠ i) : z_row σ i r j = σ j := if_neg h
theorem z_put_same (σ : zS) (i k : Nat) (v : Int32) : z_put σ i k v i = upd (σ i) k v := if_pos rfl
theorem z_put_ne (σ : zS) {i j : Nat} (k : Nat) (v : Int32) (h : j ≠ i) : z_put σ i k v j = σ j := if_neg h
def z_in (x : Int32) (n : Nat) : Bool := decide (0 ≤ x) && decide (x.toNatClampNeg < n)
def z_nz (x : Int32) : Bool := decide (¬ x = 0)
def z_bo (x : Int32) : Bool := decide (x = 0 ∨ x = 1)
theorem z_in_vp {x : Int32} {n : Nat} (h : z_in x n = true) : vp_in x n := by
  simp only [z_in, Bool.and_eq_true, decide_eq_true_eq] at h
  intro hh
  rcases hh with hh | hh
  · exact absurd hh (Int32.not_lt.mpr h.1)
  · omega
theorem z_bo_n {x : Int32} (h : z_bo x = true) : narrow .boolean (.int x) = .int x := by
  simp only [z_bo, decide_eq_true_eq] at h
  rcases h with rfl | rfl <;> rfl
theorem z_bo_f {x : Int32} (h : z_bo x = true) : fits .boolean (.int x) = true := by
  simp only [z_bo, decide_eq_true_eq] at h
  rcases h with rfl | rfl <;> rfl
abbrev zA : Type := Option (Int32 × zS)
def z_g (b : Bool) (o : zA) : zA := match b with
  | true => o
  | false => none
def z_b (o : zA) (k : Int32 → zS → zA) : zA := match o with
  | none => none
  | some q => k q.1 q.2
def z_n (x : Int32) (k : Int32 → zA) : zA := k x
def z_m (σ : zS) (k : zS → zA) : zA := k σ
def z_wl (n : Nat) (ad : Nat → Nat) (cf : zS → Nat → va_E) (σ : zS) : va_W := (List.range n).map (fun i => (ad i, cf σ i))
theorem z_wl_get {n : Nat} {ad : Nat → Nat} {cf : zS → Nat → va_E} {σ : zS} {i : Nat} (h : i < n) : (z_wl n ad cf σ)[i]? = some (ad i, cf σ i) := by
  simp [z_wl, h]
theorem z_wl_at {n : Nat} {ad : Nat → Nat} {cf : zS → Nat → va_E} {σ : zS} {i : Nat} {x : va_E} (h : i < n) (hc : cf σ i = x) : (z_wl n ad cf σ)[i]? = some (ad i, x) := by
  rw [z_wl_get h, hc]
def zO (A : Nat → Prop) (n : Nat) (ad : Nat → Nat) (cf : zS → Nat → va_E) : Prop := (∀ σ, va_D A (z_wl n ad cf σ)) ∧ ∀ (σ τ : zS) (i : Nat), σ i = τ i → cf σ i = cf τ i
theorem z_wl_set {n : Nat} {ad : Nat → Nat} {cf : zS → Nat → va_E} (hloc : ∀ (σ τ : zS) (i : Nat), σ i = τ i → cf σ i = cf τ i) {σ : zS} {i : Nat} {r : Nat → Int32} {x : va_E} (h : i < n) (hx : cf (z_row σ i r) i = x) : (z_wl n ad cf σ).set i (ad i, x) = z_wl n ad cf (z_row σ i r) := by
  apply List.ext_getElem?
  intro j
  by_cases hj : j = i
  · subst hj
    rw [List.getElem?_set_self (by simp [z_wl, h]), z_wl_get h, hx]
  · rw [List.getElem?_set_ne (Ne.symm hj)]
    by_cases hl : j < n
    · rw [z_wl_get hl, z_wl_get hl, hloc σ (z_row σ i r) j (z_row_ne σ r hj).symm]
    · rw [List.getElem?_eq_none (by simp [z_wl]; omega), List.getElem?_eq_none (by simp [z_wl]; omega)]
def zR (d : Nat) : Room := { frames := d, cells := 0, slots := 0, locals := 100 * d }
/-- the links to private methods of nest mates -/
def z_nest : List (String × Nat × MethodName × String) := [(RX10, 9, yX8_init, "PaidInLight"), (RX10, 12, yX0_init, "PaidInLight"), (RX0, 1, yX8_init, "PaidInLight"), (RX10, 15, yX2_init, "PaidInLight"), (RX2, 1, yX8_init, "PaidInLight"), (RX10, 18, yX7_init, "PaidInLight"), (RX7, 1, yX0_init, "PaidInLight"), (RX10, 21, yX6_init, "PaidInLight"), (RX6, 1, yX2_init, "PaidInLight"), (RX10, 24, yX3_init, "PaidInLight"), (RX3, 1, yX8_init, "PaidInLight"), (RX4, 21, yX1_init, "PaidInLight"), (RX10, 48, yX5_init, "PaidInLight"), (RX10, 55, yX9_init, "PaidInLight"), (RX4, 114, yX10_isKind, "PaidInLight"), (RX4, 118, yX10_isPerson, "PaidInLight"), (RX4, 121, yX10_areTwo, "PaidInLight"), (RX4, 99, yX10_pair, "PaidInLight"), (RX9, 59, yX10_pair, "PaidInLight")]
def zN (U : State) : Prop := ∀ q ∈ z_nest, va_Nw (.methodLinkNest q.1 q.2.1 q.2.2.1 q.2.2.2) U
theorem zN.same {u U : State} (h : u.vm = U.vm) (hz : zN u) : zN U := fun q hq => va_Nw.same rfl h (hz q hq)
theorem zN.warm {s U : State} (h : s.WarmedH U.vm) (hz : zN s) : zN U := fun q hq => va_Nw.warmM h (hz q hq)
abbrev zG : Type := Program × Env × Room × State × MethodId × Array Value × List Frame × Method × Code × Launch
abbrev gP (G : zG) : Program := G.1
abbrev gE (G : zG) : Env := G.2.1
abbrev gR (G : zG) : Room := G.2.2.1
abbrev gS (G : zG) : State := G.2.2.2.1
abbrev gM (G : zG) : MethodId := G.2.2.2.2.1
abbrev gA (G : zG) : Array Value := G.2.2.2.2.2.1
abbrev gB (G : zG) : List Frame := G.2.2.2.2.2.2.1
abbrev gH (G : zG) : Method := G.2.2.2.2.2.2.2.1
abbrev gC (G : zG) : Code := G.2.2.2.2.2.2.2.2.1
abbrev gL (G : zG) : Launch := G.2.2.2.2.2.2.2.2.2
def zQ (rt : Bool) (dC : Nat → ClassId) (dI : Nat → Nat → Nat) (A : Nat → Prop) (n : Nat) (ad : Nat → Nat) (cf : zS → Nat → va_E) (r : Int32) (τ : zS) : Array Value → State → Outcome → State → Prop := match rt with
  | true => va_Qi (fun (q : Int32) (_ : Unit) => q = r) (fun _ t => va_P (dC, dI) vwCl (z_wl n ad cf τ) t.heap) A
  | false => va_Qv (fun (_ : Unit) => True) (fun _ t => va_P (dC, dI) vwCl (z_wl n ad cf τ) t.heap) A
def zP (dC : Nat → ClassId) (dI : Nat → Nat → Nat) (n : Nat) (ad : Nat → Nat) (cf : zS → Nat → va_E) (tys : List (ClassId × FieldType)) (σ : zS) : State → Prop := fun U => va_P (dC, dI) vwCl (z_wl n ad cf σ) U.heap ∧ va_K (dC, dI) vwCl tys U ∧ zN U
/-- a method's contract: what the pure text o answers, it answers -/
def zM (l : Launch) (dC : Nat → ClassId) (dI : Nat → Nat → Nat) (A : Nat → Prop) (n : Nat) (ad : Nat → Nat) (cf : zS → Nat → va_E) (tys : List (ClassId × FieldType)) (rt : Bool) (y : MethodName) (bytes : ByteArray) (nL : Nat) (ret : Option FieldType) (d : Nat) (av : List Value) (σ : zS) (o : zA) : Prop :=
  ∀ (r : Int32) (τ : zS), o = some (r, τ) → Met l y (.code y bytes nL ret :: lw_gd) (zR d) (va_Pc av (zP dC dI n ad cf tys σ)) (zQ rt dC dI A n ad cf r τ) 0 0 A
def zC (G : zG) (dC : Nat → ClassId) (dI : Nat → Nat → Nat) (A : Nat → Prop) (n : Nat) (ad : Nat → Nat) (cf : zS → Nat → va_E) (tys : List (ClassId × FieldType)) (cc : ByteArray) (own : String) (nL d : Nat) (ret : Option FieldType) : Prop :=
  (gP G).tables.exec = Jvm.exec ∧ (gC G).code = cc ∧ (gC G).maxLocals = nL ∧ (gS G).vm.findClass own = some (gM G).cls ∧ (∀ w ∈ lw_gd, w.before (gA G) (gS G) = true) ∧ va_K (dC, dI) vwCl tys (gS G) ∧ zN (gS G) ∧ zO A n ad cf ∧ (gH G).locks = false ∧ gR G = zR d ∧ (gH G).sig.returnType = ret
def zW (G : zG) (dC : Nat → ClassId) (dI : Nat → Nat → Nat) (A : Nat → Prop) (n : Nat) (ad : Nat → Nat) (cf : zS → Nat → va_E) (nL : Nat) (rt : Bool) (o : zA) (σ : zS) (pc : Nat) (L : List (Nat × Value)) (st : List Value) : Prop :=
  ∀ (r : Int32) (τ : zS), o = some (r, τ) → ∀ (H : Heap) (locs : List Loc) (ls : Array Slot), va_P (dC, dI) vwCl (z_wl n ad cf σ) H → va_S A (gS G).heap H locs → lv_has ls nL L →
    W (gP G) (gL G) (gE G) (gR G) (gS G) (gM G) (gA G) (gB G) (gH G) (gC G) H locs 0 0 (MQ (gB G) (zQ rt dC dI A n ad cf r τ) (gA G) (gS G) 0 0 A) (F0 (gM G) pc ls st)
section ZR
variable {G : zG} {dC : Nat → ClassId} {dI : Nat → Nat → Nat} {A : Nat → Prop} {n : Nat} {ad : Nat → Nat} {cf : zS → Nat → va_E} {tys : List (ClassId × FieldType)} {cc : ByteArray} {own : String} {nL d : Nat} {ret : Option FieldType} {rt : Bool} {o o1 o2 : zA} {σ : zS} {pc : Nat} {L L1 : List (Nat × Value)} {st : List Value} {x y v : Int32}
theorem zC.hx (C : zC G dC dI A n ad cf tys cc own nL d ret) : (gP G).tables.exec = Jvm.exec := C.1
theorem zC.hb (C : zC G dC dI A n ad cf tys cc own nL d ret) : (gC G).code = cc := C.2.1
theorem zC.hml (C : zC G dC dI A n ad cf tys cc own nL d ret) : (gC G).maxLocals = nL := C.2.2.1
theorem zC.hown (C : zC G dC dI A n ad cf tys cc own nL d ret) : (gS G).vm.findClass own = some (gM G).cls := C.2.2.2.1
theorem zC.hts (C : zC G dC dI A n ad cf tys cc own nL d ret) : ∀ w ∈ lw_gd, w.before (gA G) (gS G) = true := C.2.2.2.2.1
theorem zC.hK (C : zC G dC dI A n ad cf tys cc own nL d ret) : va_K (dC, dI) vwCl tys (gS G) := C.2.2.2.2.2.1
theorem zC.hN (C : zC G dC dI A n ad cf tys cc own nL d ret) : zN (gS G) := C.2.2.2.2.2.2.1
theorem zC.hO (C : zC G dC dI A n ad cf tys cc own nL d ret) : zO A n ad cf := C.2.2.2.2.2.2.2.1
theorem zC.hlk (C : zC G dC dI A n ad cf tys cc own nL d ret) : (gH G).locks = false := C.2.2.2.2.2.2.2.2.1
theorem zC.hR (C : zC G dC dI A n ad cf tys cc own nL d ret) : gR G = zR d := C.2.2.2.2.2.2.2.2.2.1
theorem zC.hr (C : zC G dC dI A n ad cf tys cc own nL d ret) : (gH G).sig.returnType = ret := C.2.2.2.2.2.2.2.2.2.2
theorem zx_none {pc : Nat} : zW G dC dI A n ad cf nL rt none σ pc L st := fun _ _ h => nomatch h
theorem zx_eq (h : o1 = o) (k : zW G dC dI A n ad cf nL rt o σ pc L st) : zW G dC dI A n ad cf nL rt o1 σ pc L st := h ▸ k
theorem zx_sub (ks : List Nat) (h : lv_pick L ks = L1) (k : zW G dC dI A n ad cf nL rt o σ pc L1 st) : zW G dC dI A n ad cf nL rt o σ pc L st := fun r τ ho H locs ls hP hS hl => k r τ ho H locs ls hP hS (lv_sub hl ks h)
theorem zx_ite {c : Prop} {dc : Decidable c} (kt : c → zW G dC dI A n ad cf nL rt o1 σ pc L st) (kf : ¬ c → zW G dC dI A n ad cf nL rt o2 σ pc L st) : zW G dC dI A n ad cf nL rt (@ite _ c dc o1 o2) σ pc L st := by
  by_cases h : c
  · rw [if_pos h]; exact kt h
  · rw [if_neg h]; exact kf h
theorem zx_g {b : Bool} (k : b = true → zW G dC dI A n ad cf nL rt o σ pc L st) : zW G dC dI A n ad cf nL rt (z_g b o) σ pc L st := by
  cases b with
  | true => exact k rfl
  | false => exact zx_none
theorem zx_n {K : Int32 → zA} (k : ∀ z : Int32, zW G dC dI A n ad cf nL rt (K z) σ pc L (.int z :: st)) : zW G dC dI A n ad cf nL rt (z_n x K) σ pc L (.int x :: st) := k x
theorem zx_m {K : zS → zA} (k : ∀ τ : zS, zW G dC dI A n ad cf nL rt (K τ) τ pc L st) : zW G dC dI A n ad cf nL rt (z_m σ K) σ pc L st := k σ
theorem zx_iadd (C : zC G dC dI A n ad cf tys cc own nL d ret) (hd : decode cc pc = .ok (.iadd, 1)) (k : zW G dC dI A n ad cf nL rt o σ (pc + 1) L (.int (x + y) :: st)) : zW G dC dI A n ad cf nL rt o σ pc L (.int y :: .int x :: st) := fun r τ ho H locs ls hP hS hl => lv_iadd C.hx C.hb hd (k r τ ho H locs ls hP hS hl)
theorem zx_isub (C : zC G dC dI A n ad cf tys cc own nL d ret) (hd : decode cc pc = .ok (.isub, 1)) (k : zW G dC dI A n ad cf nL rt o σ (pc + 1) L (.int (x - y) :: st)) : zW G dC dI A n ad cf nL rt o σ pc L (.int y :: .int x :: st) := fun r τ ho H locs ls hP hS hl => lv_isub C.hx C.hb hd (k r τ ho H locs ls hP hS hl)
theorem zx_imul (C : zC G dC dI A n ad cf tys cc own nL d ret) (hd : decode cc pc = .ok (.imul, 1)) (k : zW G dC dI A n ad cf nL rt o σ (pc + 1) L (.int (x * y) :: st)) : zW G dC dI A n ad cf nL rt o σ pc L (.int y :: .int x :: st) := fun r τ ho H locs ls hP hS hl => lv_imul C.hx C.hb hd (k r τ ho H locs ls hP hS hl)
theorem zx_iand (C : zC G dC dI A n ad cf tys cc own nL d ret) (hd : decode cc pc = .ok (.iand, 1)) (k : zW G dC dI A n ad cf nL rt o σ (pc + 1) L (.int (x &&& y) :: st)) : zW G dC dI A n ad cf nL rt o σ pc L (.int y :: .int x :: st) := fun r τ ho H locs ls hP hS hl => lv_iand C.hx C.hb hd (k r τ ho H locs ls hP hS hl)
theorem zx_ior (C : zC G dC dI A n ad cf tys cc own nL d ret) (hd : decode cc pc = .ok (.ior, 1)) (k : zW G dC dI A n ad cf nL rt o σ (pc + 1) L (.int (x ||| y) :: st)) : zW G dC dI A n ad cf nL rt o σ pc L (.int y :: .int x :: st) := fun r τ ho H locs ls hP hS hl => lv_ior C.hx C.hb hd (k r τ ho H locs ls hP hS hl)
theorem zx_ixor (C : zC G dC dI A n ad cf tys cc own nL d ret) (hd : decode cc pc = .ok (.ixor, 1)) (k : zW G dC dI A n ad cf nL rt o σ (pc + 1) L (.int (x ^^^ y) :: st)) : zW G dC dI A n ad cf nL rt o σ pc L (.int y :: .int x :: st) := fun r τ ho H locs ls hP hS hl => lv_ixor C.hx C.hb hd (k r τ ho H locs ls hP hS hl)
theorem zx_ishl (C : zC G dC dI A n ad cf tys cc own nL d ret) (hd : decode cc pc = .ok (.ishl, 1)) (k : zW G dC dI A n ad cf nL rt o σ (pc + 1) L (.int (x <<< (y &&& 31)) :: st)) : zW G dC dI A n ad cf nL rt o σ pc L (.int y :: .int x :: st) := fun r τ ho H locs ls hP hS hl => lv_ishl C.hx C.hb hd (k r τ ho H locs ls hP hS hl)
theorem zx_ishr (C : zC G dC dI A n ad cf tys cc own nL d ret) (hd : decode cc pc = .ok (.ishr, 1)) (k : zW G dC dI A n ad cf nL rt o σ (pc + 1) L (.int (x >>> (y &&& 31)) :: st)) : zW G dC dI A n ad cf nL rt o σ pc L (.int y :: .int x :: st) := fun r τ ho H locs ls hP hS hl => lv_ishr C.hx C.hb hd (k r τ ho H locs ls hP hS hl)
theorem zx_ineg (C : zC G dC dI A n ad cf tys cc own nL d ret) (hd : decode cc pc = .ok (.ineg, 1)) (k : zW G dC dI A n ad cf nL rt o σ (pc + 1) L (.int (-x) :: st)) : zW G dC dI A n ad cf nL rt o σ pc L (.int x :: st) := fun r τ ho H locs ls hP hS hl => lv_ineg C.hx C.hb hd (k r τ ho H locs ls hP hS hl)
theorem zx_if_eq (C : zC G dC dI A n ad cf tys cc own nL d ret) {off : Int} {tgt : Nat} (hd : decode cc pc = .ok (.ifCond .eq off, 3)) (ht : (pc : Int) + off = (tgt : Int)) (kt : x = 0 → zW G dC dI A n ad cf nL rt o1 σ tgt L st) (kf : ¬ x = 0 → zW G dC dI A n ad cf nL rt o2 σ (pc + 3) L st) : zW G dC dI A n ad cf nL rt (if x = 0 then o1 else o2) σ pc L (.int x :: st) := fun r τ ho H locs ls hP hS hl => lv_if_eq C.hx C.hb hd ht (fun h => kt h r τ (by first | rwa [if_pos h] at ho | rwa [if_neg h] at ho) H locs ls hP hS hl) (fun h => kf h r τ (by first | rwa [if_neg h] at ho | rwa [if_pos h] at ho) H locs ls hP hS hl)
theorem zx_if_ne (C : zC G dC dI A n ad cf tys cc own nL d ret) {off : Int} {tgt : Nat} (hd : decode cc pc = .ok (.ifCond .ne off, 3)) (ht : (pc : Int) + off = (tgt : Int)) (kt : ¬ x = 0 → zW G dC dI A n ad cf nL rt o1 σ tgt L st) (kf : x = 0 → zW G dC dI A n ad cf nL rt o2 σ (pc + 3) L st) : zW G dC dI A n ad cf nL rt (if x = 0 then o2 else o1) σ pc L (.int x :: st) := fun r τ ho H locs ls hP hS hl => lv_if_ne C.hx C.hb hd ht (fun h => kt h r τ (by first | rwa [if_pos h] at ho | rwa [if_neg h] at ho) H locs ls hP hS hl) (fun h => kf h r τ (by first | rwa [if_neg h] at ho | rwa [if_pos h] at ho) H locs ls hP hS hl)
theorem zx_if_lt (C : zC G dC dI A n ad cf tys cc own nL d ret) {off : Int} {tgt : Nat} (hd : decode cc pc = .ok (.ifCond .lt off, 3)) (ht : (pc : Int) + off = (tgt : Int)) (kt : x < 0 → zW G dC dI A n ad cf nL rt o1 σ tgt L st) (kf : ¬ x < 0 → zW G dC dI A n ad cf nL rt o2 σ (pc + 3) L st) : zW G dC dI A n ad cf nL rt (if x < 0 then o1 else o2) σ pc L (.int x :: st) := fun r τ ho H locs ls hP hS hl => lv_if_lt C.hx C.hb hd ht (fun h => kt h r τ (by first | rwa [if_pos h] at ho | rwa [if_neg h] at ho) H locs ls hP hS hl) (fun h => kf h r τ (by first | rwa [if_neg h] at ho | rwa [if_pos h] at ho) H locs ls hP hS hl)
theorem zx_if_ge (C : zC G dC dI A n ad cf tys cc own nL d ret) {off : Int} {tgt : Nat} (hd : decode cc pc = .ok (.ifCond .ge off, 3)) (ht : (pc : Int) + off = (tgt : Int)) (kt : 0 ≤ x → zW G dC dI A n ad cf nL rt o1 σ tgt L st) (kf : ¬ 0 ≤ x → zW G dC dI A n ad cf nL rt o2 σ (pc + 3) L st) : zW G dC dI A n ad cf nL rt (if 0 ≤ x then o1 else o2) σ pc L (.int x :: st) := fun r τ ho H locs ls hP hS hl => lv_if_ge C.hx C.hb hd ht (fun h => kt h r τ (by first | rwa [if_pos h] at ho | rwa [if_neg h] at ho) H locs ls hP hS hl) (fun h => kf h r τ (by first | rwa [if_neg h] at ho | rwa [if_pos h] at ho) H locs ls hP hS hl)
theorem zx_if_gt (C : zC G dC dI A n ad cf tys cc own nL d ret) {off : Int} {tgt : Nat} (hd : decode cc pc = .ok (.ifCond .gt off, 3)) (ht : (pc : Int) + off = (tgt : Int)) (kt : 0 < x → zW G dC dI A n ad cf nL rt o1 σ tgt L st) (kf : ¬ 0 < x → zW G dC dI A n ad cf nL rt o2 σ (pc + 3) L st) : zW G dC dI A n ad cf nL rt (if 0 < x then o1 else o2) σ pc L (.int x :: st) := fun r τ ho H locs ls hP hS hl => lv_if_gt C.hx C.hb hd ht (fun h => kt h r τ (by first | rwa [if_pos h] at ho | rwa [if_neg h] at ho) H locs ls hP hS hl) (fun h => kf h r τ (by first | rwa [if_neg h] at ho | rwa [if_pos h] at ho) H locs ls hP hS hl)
theorem zx_if_le (C : zC G dC dI A n ad cf tys cc own nL d ret) {off : Int} {tgt : Nat} (hd : decode cc pc = .ok (.ifCond .le off, 3)) (ht : (pc : Int) + off = (tgt : Int)) (kt : x ≤ 0 → zW G dC dI A n ad cf nL rt o1 σ tgt L st) (kf : ¬ x ≤ 0 → zW G dC dI A n ad cf nL rt o2 σ (pc + 3) L st) : zW G dC dI A n ad cf nL rt (if x ≤ 0 then o1 else o2) σ pc L (.int x :: st) := fun r τ ho H locs ls hP hS hl => lv_if_le C.hx C.hb hd ht (fun h => kt h r τ (by first | rwa [if_pos h] at ho | rwa [if_neg h] at ho) H locs ls hP hS hl) (fun h => kf h r τ (by first | rwa [if_neg h] at ho | rwa [if_pos h] at ho) H locs ls hP hS hl)
theorem zx_icmp_eq (C : zC G dC dI A n ad cf tys cc own nL d ret) {off : Int} {tgt : Nat} (hd : decode cc pc = .ok (.if_icmp .eq off, 3)) (ht : (pc : Int) + off = (tgt : Int)) (kt : x = y → zW G dC dI A n ad cf nL rt o1 σ tgt L st) (kf : ¬ x = y → zW G dC dI A n ad cf nL rt o2 σ (pc + 3) L st) : zW G dC dI A n ad cf nL rt (if x = y then o1 else o2) σ pc L (.int y :: .int x :: st) := fun r τ ho H locs ls hP hS hl => lv_icmp_eq C.hx C.hb hd ht (fun h => kt h r τ (by first | rwa [if_pos h] at ho | rwa [if_neg h] at ho) H locs ls hP hS hl) (fun h => kf h r τ (by first | rwa [if_neg h] at ho | rwa [if_pos h] at ho) H locs ls hP hS hl)
theorem zx_icmp_ne (C : zC G dC dI A n ad cf tys cc own nL d ret) {off : Int} {tgt : Nat} (hd : decode cc pc = .ok (.if_icmp .ne off, 3)) (ht : (pc : Int) + off = (tgt : Int)) (kt : ¬ x = y → zW G dC dI A n ad cf nL rt o1 σ tgt L st) (kf : x = y → zW G dC dI A n ad cf nL rt o2 σ (pc + 3) L st) : zW G dC dI A n ad cf nL rt (if x = y then o2 else o1) σ pc L (.int y :: .int x :: st) := fun r τ ho H locs ls hP hS hl => lv_icmp_ne C.hx C.hb hd ht (fun h => kt h r τ (by first | rwa [if_pos h] at ho | rwa [if_neg h] at ho) H locs ls hP hS hl) (fun h => kf h r τ (by first | rwa [if_neg h] at ho | rwa [if_pos h] at ho) H locs ls hP hS hl)
theorem zx_icmp_lt (C : zC G dC dI A n ad cf tys cc own nL d ret) {off : Int} {tgt : Nat} (hd : decode cc pc = .ok (.if_icmp .lt off, 3)) (ht : (pc : Int) + off = (tgt : Int)) (kt : x < y → zW G dC dI A n ad cf nL rt o1 σ tgt L st) (kf : ¬ x < y → zW G dC dI A n ad cf nL rt o2 σ (pc + 3) L st) : zW G dC dI A n ad cf nL rt (if x < y then o1 else o2) σ pc L (.int y :: .int x :: st) := fun r τ ho H locs ls hP hS hl => lv_icmp_lt C.hx C.hb hd ht (fun h => kt h r τ (by first | rwa [if_pos h] at ho | rwa [if_neg h] at ho) H locs ls hP hS hl) (fun h => kf h r τ (by first | rwa [if_neg h] at ho | rwa [if_pos h] at ho) H locs ls hP hS hl)
theorem zx_icmp_ge (C : zC G dC dI A n ad cf tys cc own nL d ret) {off : Int} {tgt : Nat} (hd : decode cc pc = .ok (.if_icmp .ge off, 3)) (ht : (pc : Int) + off = (tgt : Int)) (kt : y ≤ x → zW G dC dI A n ad cf nL rt o1 σ tgt L st) (kf : ¬ y ≤ x → zW G dC dI A n ad cf nL rt o2 σ (pc + 3) L st) : zW G dC dI A n ad cf nL rt (if y ≤ x then o1 else o2) σ pc L (.int y :: .int x :: st) := fun r τ ho H locs ls hP hS hl => lv_icmp_ge C.hx C.hb hd ht (fun h => kt h r τ (by first | rwa [if_pos h] at ho | rwa [if_neg h] at ho) H locs ls hP hS hl) (fun h => kf h r τ (by first | rwa [if_neg h] at ho | rwa [if_pos h] at ho) H locs ls hP hS hl)
theorem zx_icmp_gt (C : zC G dC dI A n ad cf tys cc own nL d ret) {off : Int} {tgt : Nat} (hd : decode cc pc = .ok (.if_icmp .gt off, 3)) (ht : (pc : Int) + off = (tgt : Int)) (kt : y < x → zW G dC dI A n ad cf nL rt o1 σ tgt L st) (kf : ¬ y < x → zW G dC dI A n ad cf nL rt o2 σ (pc + 3) L st) : zW G dC dI A n ad cf nL rt (if y < x then o1 else o2) σ pc L (.int y :: .int x :: st) := fun r τ ho H locs ls hP hS hl => lv_icmp_gt C.hx C.hb hd ht (fun h => kt h r τ (by first | rwa [if_pos h] at ho | rwa [if_neg h] at ho) H locs ls hP hS hl) (fun h => kf h r τ (by first | rwa [if_neg h] at ho | rwa [if_pos h] at ho) H locs ls hP hS hl)
theorem zx_icmp_le (C : zC G dC dI A n ad cf tys cc own nL d ret) {off : Int} {tgt : Nat} (hd : decode cc pc = .ok (.if_icmp .le off, 3)) (ht : (pc : Int) + off = (tgt : Int)) (kt : x ≤ y → zW G dC dI A n ad cf nL rt o1 σ tgt L st) (kf : ¬ x ≤ y → zW G dC dI A n ad cf nL rt o2 σ (pc + 3) L st) : zW G dC dI A n ad cf nL rt (if x ≤ y then o1 else o2) σ pc L (.int y :: .int x :: st) := fun r τ ho H locs ls hP hS hl => lv_icmp_le C.hx C.hb hd ht (fun h => kt h r τ (by first | rwa [if_pos h] at ho | rwa [if_neg h] at ho) H locs ls hP hS hl) (fun h => kf h r τ (by first | rwa [if_neg h] at ho | rwa [if_pos h] at ho) H locs ls hP hS hl)
theorem zx_iconst (C : zC G dC dI A n ad cf tys cc own nL d ret) {i : Int} (hd : decode cc pc = .ok (.iconst i, 1)) (hv : Int32.ofInt i = v) (k : zW G dC dI A n ad cf nL rt o σ (pc + 1) L (.int v :: st)) : zW G dC dI A n ad cf nL rt o σ pc L st := fun r τ ho H locs ls hP hS hl => lv_iconst C.hx C.hb hd hv (k r τ ho H locs ls hP hS hl)
theorem zx_bipush (C : zC G dC dI A n ad cf tys cc own nL d ret) {i : Int} (hd : decode cc pc = .ok (.bipush i, 2)) (hv : (Int8.ofInt i).toInt32 = v) (k : zW G dC dI A n ad cf nL rt o σ (pc + 2) L (.int v :: st)) : zW G dC dI A n ad cf nL rt o σ pc L st := fun r τ ho H locs ls hP hS hl => lv_bipush C.hx C.hb hd hv (k r τ ho H locs ls hP hS hl)
theorem zx_sipush (C : zC G dC dI A n ad cf tys cc own nL d ret) {i : Int} (hd : decode cc pc = .ok (.sipush i, 3)) (hv : (Int16.ofInt i).toInt32 = v) (k : zW G dC dI A n ad cf nL rt o σ (pc + 3) L (.int v :: st)) : zW G dC dI A n ad cf nL rt o σ pc L st := fun r τ ho H locs ls hP hS hl => lv_sipush C.hx C.hb hd hv (k r τ ho H locs ls hP hS hl)
theorem zx_ldc (C : zC G dC dI A n ad cf tys cc own nL d ret) {i : Nat} (hd : decode cc pc = .ok (.ldc i, 2)) (hw : Cond.constant own i v ∈ lw_gd) (k : zW G dC dI A n ad cf nL rt o σ (pc + 2) L (.int v :: st)) : zW G dC dI A n ad cf nL rt o σ pc L st := fun r τ ho H locs ls hP hS hl => lv_ldc C.hx C.hb C.hown (C.hts _ hw) hd (k r τ ho H locs ls hP hS hl)
theorem zx_iload_n (C : zC G dC dI A n ad cf tys cc own nL d ret) (k : Nat) {f : Fin 4} {i : Nat} (hd : decode cc pc = .ok (.iload_n f, 1)) (hf : (f : Nat) = i) (hk : L[k]? = some (i, .int x)) (kk : zW G dC dI A n ad cf nL rt o σ (pc + 1) L (.int x :: st)) : zW G dC dI A n ad cf nL rt o σ pc L st := fun r τ ho H locs ls hP hS hl => lv_iload_n C.hx C.hb hd hf (lv_at hl k hk) (kk r τ ho H locs ls hP hS hl)
theorem zx_iload (C : zC G dC dI A n ad cf tys cc own nL d ret) (k : Nat) {i : Nat} (hd : decode cc pc = .ok (.iload i, 2)) (hk : L[k]? = some (i, .int x)) (kk : zW G dC dI A n ad cf nL rt o σ (pc + 2) L (.int x :: st)) : zW G dC dI A n ad cf nL rt o σ pc L st := fun r τ ho H locs ls hP hS hl => lv_iload C.hx C.hb hd (lv_at hl k hk) (kk r τ ho H locs ls hP hS hl)
theorem zx_aload_n (C : zC G dC dI A n ad cf tys cc own nL d ret) (k : Nat) {f : Fin 4} {i a : Nat} (hd : decode cc pc = .ok (.aload_n f, 1)) (hf : (f : Nat) = i) (hk : L[k]? = some (i, .ref a)) (kk : zW G dC dI A n ad cf nL rt o σ (pc + 1) L (.ref a :: st)) : zW G dC dI A n ad cf nL rt o σ pc L st := fun r τ ho H locs ls hP hS hl => lv_aload_n C.hx C.hb hd hf (lv_at hl k hk) (kk r τ ho H locs ls hP hS hl)
theorem zx_aload (C : zC G dC dI A n ad cf tys cc own nL d ret) (k : Nat) {i a : Nat} (hd : decode cc pc = .ok (.aload i, 2)) (hk : L[k]? = some (i, .ref a)) (kk : zW G dC dI A n ad cf nL rt o σ (pc + 2) L (.ref a :: st)) : zW G dC dI A n ad cf nL rt o σ pc L st := fun r τ ho H locs ls hP hS hl => lv_aload C.hx C.hb hd (lv_at hl k hk) (kk r τ ho H locs ls hP hS hl)
def z_fl (i : Nat) (q : Nat × Value) : Bool := !(q.1 == i) && !(q.1 + 1 == i && q.2.category == 2)
theorem zx_istore_n (C : zC G dC dI A n ad cf tys cc own nL d ret) {f : Fin 4} {i : Nat} (hd : decode cc pc = .ok (.istore_n f, 1)) (hf : (f : Nat) = i) (hn : i < nL) (hL : (i, Value.int x) :: L.filter (z_fl i) = L1) (kk : zW G dC dI A n ad cf nL rt o σ (pc + 1) L1 st) : zW G dC dI A n ad cf nL rt o σ pc L (.int x :: st) := fun r τ ho H locs ls hP hS hl => lv_istore_n C.hx C.hb hd hf hl hn hL (fun ls hl => kk r τ ho H locs ls hP hS hl)
theorem zx_istore (C : zC G dC dI A n ad cf tys cc own nL d ret) {i : Nat} (hd : decode cc pc = .ok (.istore i, 2)) (hn : i < nL) (hL : (i, Value.int x) :: L.filter (z_fl i) = L1) (kk : zW G dC dI A n ad cf nL rt o σ (pc + 2) L1 st) : zW G dC dI A n ad cf nL rt o σ pc L (.int x :: st) := fun r τ ho H locs ls hP hS hl => lv_istore C.hx C.hb hd hl hn hL (fun ls hl => kk r τ ho H locs ls hP hS hl)
theorem zx_astore_n (C : zC G dC dI A n ad cf tys cc own nL d ret) {f : Fin 4} {i a : Nat} (hd : decode cc pc = .ok (.astore_n f, 1)) (hf : (f : Nat) = i) (hn : i < nL) (hL : (i, Value.ref a) :: L.filter (z_fl i) = L1) (kk : zW G dC dI A n ad cf nL rt o σ (pc + 1) L1 st) : zW G dC dI A n ad cf nL rt o σ pc L (.ref a :: st) := fun r τ ho H locs ls hP hS hl => lv_astore_n C.hx C.hb hd hf hl hn hL (fun ls hl => kk r τ ho H locs ls hP hS hl)
theorem zx_astore (C : zC G dC dI A n ad cf tys cc own nL d ret) {i a : Nat} (hd : decode cc pc = .ok (.astore i, 2)) (hn : i < nL) (hL : (i, Value.ref a) :: L.filter (z_fl i) = L1) (kk : zW G dC dI A n ad cf nL rt o σ (pc + 2) L1 st) : zW G dC dI A n ad cf nL rt o σ pc L (.ref a :: st) := fun r τ ho H locs ls hP hS hl => lv_astore C.hx C.hb hd hl hn hL (fun ls hl => kk r τ ho H locs ls hP hS hl)
theorem zx_iinc (C : zC G dC dI A n ad cf tys cc own nL d ret) (k : Nat) {i : Nat} {j : Int} (hd : decode cc pc = .ok (.iinc i j, 3)) (hk : L[k]? = some (i, .int x)) (hv : x + Int32.ofInt j = v) (hn : i < nL) (hL : (i, Value.int v) :: L.filter (z_fl i) = L1) (kk : zW G dC dI A n ad cf nL rt o σ (pc + 3) L1 st) : zW G dC dI A n ad cf nL rt o σ pc L st := fun r τ ho H locs ls hP hS hl => lv_iinc C.hx C.hb hd hl hk hv hn hL (fun ls hl => kk r τ ho H locs ls hP hS hl)
theorem zx_goto (C : zC G dC dI A n ad cf tys cc own nL d ret) {off : Int} {tgt : Nat} (hd : decode cc pc = .ok (.goto off, 3)) (ht : (pc : Int) + off = (tgt : Int)) (kk : zW G dC dI A n ad cf nL rt o σ tgt L st) : zW G dC dI A n ad cf nL rt o σ pc L st := fun r τ ho H locs ls hP hS hl => lv_goto C.hx C.hb hd ht (kk r τ ho H locs ls hP hS hl)
theorem zx_dup (C : zC G dC dI A n ad cf tys cc own nL d ret) {u : Value} (hd : decode cc pc = .ok (.dup, 1)) (hu : u.category = 1) (kk : zW G dC dI A n ad cf nL rt o σ (pc + 1) L (u :: u :: st)) : zW G dC dI A n ad cf nL rt o σ pc L (u :: st) := fun r τ ho H locs ls hP hS hl => lv_dup C.hx C.hb hd hu (kk r τ ho H locs ls hP hS hl)
theorem zx_pop (C : zC G dC dI A n ad cf tys cc own nL d ret) {u : Value} (hd : decode cc pc = .ok (.pop, 1)) (hu : u.category = 1) (kk : zW G dC dI A n ad cf nL rt o σ (pc + 1) L st) : zW G dC dI A n ad cf nL rt o σ pc L (u :: st) := fun r τ ho H locs ls hP hS hl => lv_pop C.hx C.hb hd hu (kk r τ ho H locs ls hP hS hl)
theorem zx_dup2 (C : zC G dC dI A n ad cf tys cc own nL d ret) {u w : Value} (hd : decode cc pc = .ok (.dup2, 1)) (hu : u.category = 1) (hw : w.category = 1) (kk : zW G dC dI A n ad cf nL rt o σ (pc + 1) L (u :: w :: u :: w :: st)) : zW G dC dI A n ad cf nL rt o σ pc L (u :: w :: st) := fun r τ ho H locs ls hP hS hl => lv_dup2_11 C.hx C.hb hd hu hw (kk r τ ho H locs ls hP hS hl)
theorem zx_idiv (C : zC G dC dI A n ad cf tys cc own nL d ret) (hd : decode cc pc = .ok (.idiv, 1)) (hy : ¬ y = 0) (kk : zW G dC dI A n ad cf nL rt o σ (pc + 1) L (.int (x / y) :: st)) : zW G dC dI A n ad cf nL rt o σ pc L (.int y :: .int x :: st) := fun r τ ho H locs ls hP hS hl => lv_idiv C.hx C.hb hd hy (kk r τ ho H locs ls hP hS hl)
theorem zx_irem (C : zC G dC dI A n ad cf tys cc own nL d ret) (hd : decode cc pc = .ok (.irem, 1)) (hy : ¬ y = 0) (kk : zW G dC dI A n ad cf nL rt o σ (pc + 1) L (.int (x - x / y * y) :: st)) : zW G dC dI A n ad cf nL rt o σ pc L (.int y :: .int x :: st) := fun r τ ho H locs ls hP hS hl => lv_irem C.hx C.hb hd hy (kk r τ ho H locs ls hP hS hl)
theorem zx_iremg (C : zC G dC dI A n ad cf tys cc own nL d ret) (hd : decode cc pc = .ok (.irem, 1)) (kk : zW G dC dI A n ad cf nL rt o σ (pc + 1) L (.int (x - x / y * y) :: st)) : zW G dC dI A n ad cf nL rt (z_g (z_nz y) o) σ pc L (.int y :: .int x :: st) := zx_g (fun h => zx_irem C hd (by simpa [z_nz] using h) kk)
theorem zx_tableIn (C : zC G dC dI A n ad cf tys cc own nL d ret) {df lo hi : Int} {offs : Array Int} {len : Nat} {off : Int} {tgt : Nat} (hd : decode cc pc = .ok (.tableswitch df lo hi offs, len)) (h1 : ¬ x.toInt < lo) (h2 : ¬ hi < x.toInt) (ho1 : offs[(x.toInt - lo).toNat]? = some off) (ht : (pc : Int) + off = (tgt : Int)) (kk : zW G dC dI A n ad cf nL rt o σ tgt L st) : zW G dC dI A n ad cf nL rt o σ pc L (.int x :: st) := fun r τ ho H locs ls hP hS hl => lv_tableIn C.hx C.hb hd h1 h2 ho1 ht (kk r τ ho H locs ls hP hS hl)
theorem zx_tableOut (C : zC G dC dI A n ad cf tys cc own nL d ret) {df lo hi : Int} {offs : Array Int} {len : Nat} {tgt : Nat} (hd : decode cc pc = .ok (.tableswitch df lo hi offs, len)) (h : x.toInt < lo ∨ hi < x.toInt) (ht : (pc : Int) + df = (tgt : Int)) (kk : zW G dC dI A n ad cf nL rt o σ tgt L st) : zW G dC dI A n ad cf nL rt o σ pc L (.int x :: st) := fun r τ ho H locs ls hP hS hl => lv_tableOut C.hx C.hb hd h ht (kk r τ ho H locs ls hP hS hl)
theorem zx_lookup (C : zC G dC dI A n ad cf tys cc own nL d ret) {df : Int} {ps : Array (Int × Int)} {len : Nat} {off : Int} {tgt : Nat} (hd : decode cc pc = .ok (.lookupswitch df ps, len)) (hp : (ps.toList.zip (ps.toList.drop 1)).all (fun (a, next) => a.1 < next.1) = true) (ho1 : Op.lookupswitch.offset ps.toList df x.toInt = off) (ht : (pc : Int) + off = (tgt : Int)) (kk : zW G dC dI A n ad cf nL rt o σ tgt L st) : zW G dC dI A n ad cf nL rt o σ pc L (.int x :: st) := fun r τ ho H locs ls hP hS hl => lv_lookup C.hx C.hb hd hp ho1 ht (kk r τ ho H locs ls hP hS hl)
theorem z_out {lo hi : Int} (h : ∀ c : Int, lo ≤ c → c ≤ hi → x ≠ Int32.ofInt c) : x.toInt < lo ∨ hi < x.toInt := by
  by_cases h1 : x.toInt < lo
  · exact Or.inl h1
  · by_cases h2 : hi < x.toInt
    · exact Or.inr h2
    · exact absurd (Int32.ofInt_toInt x).symm (h x.toInt (by omega) (by omega))
theorem zx_get (C : zC G dC dI A n ad cf tys cc own nL d ret) {id ci index : Nat} (k : Nat) {fs : List Value} {u : Value} {ref Cn : String} {T : u_T} {N : Nat} (hi : id < n) (hc : cf σ id = .inr (ci, fs)) (hcl : vwCl[ci]? = some (Cn, T, N)) (hk : k < N) (hin : ∀ w ∈ u_ws Cn T N, w ∈ lw_gd) (hw : Cond.fieldLink own index ref (T k).2.1 (T k).2.2.1 ∈ lw_gd) (href : (T k).1 = ref) (hv : fs[k]? = some u) (hd : decode cc pc = .ok (.getfield index, 3)) (kk : zW G dC dI A n ad cf nL rt o σ (pc + 3) L (u :: st)) : zW G dC dI A n ad cf nL rt o σ pc L (.ref (ad id) :: st) := fun r τ ho H locs ls hP hS hl =>
  va_get C.hx C.hb C.hts hin C.hown C.hK hP id (z_wl_at hi hc) hcl k hk (C.hts _ hw) (by subst href; exact fun _ h => h) hv hd (kk r τ ho H locs ls hP hS hl)
theorem zx_put (C : zC G dC dI A n ad cf tys cc own nL d ret) {id ci index : Nat} (k : Nat) {fs : List Value} {ref Cn : String} {T : u_T} {N : Nat} {K : zS → zA} {ty : FieldType} (hi : id < n) (hc : cf σ id = .inr (ci, fs)) (hcl : vwCl[ci]? = some (Cn, T, N)) (hk : k < N) (hin : ∀ w ∈ u_ws Cn T N, w ∈ lw_gd) (ty0 : Nat → FieldType) (hty : ∀ k, k < N → parseFieldDescriptor (T k).2.2.1 = some (ty0 k)) (hnm : ∀ a, a < N → ∀ b, b < N → a ≠ b → (T a).2.1 ≠ (T b).2.1) (hw : Cond.fieldLink own index ref (T k).2.1 (T k).2.2.1 ∈ lw_gd) (href : (T k).1 = ref) (hfin : (T k).2.2.2 = false) (hpd : parseFieldDescriptor (T k).2.2.1 = some ty) (hn : narrow ty (.int v) = .int v) (hft : fits ty (.int v) = true) (hlen : k < fs.length) (hset : cf (z_put σ id k v) id = .inr (ci, fs.set k (.int v))) (hd : decode cc pc = .ok (.putfield index, 3)) (kk : ∀ τ : zS, zW G dC dI A n ad cf nL rt (K τ) τ (pc + 3) L st) : zW G dC dI A n ad cf nL rt (z_m (z_put σ id k v) K) σ pc L (.int v :: .ref (ad id) :: st) := fun r τ ho H locs ls hP hS hl =>
  va_put C.hx C.hb C.hts hin ty0 hty hnm C.hown C.hK hP (C.hO.1 σ) hS id (z_wl_at hi hc) hcl k hk (C.hts _ hw) (by subst href; exact fun _ h => h) hfin hpd hn hft hlen hd (fun H1 locs1 hP1 _ hS1 => kk (z_put σ id k v) r τ ho H1 locs1 ls (by rw [z_wl_set C.hO.2 hi hset] at hP1; exact hP1) hS1 hl)
theorem zx_iald (C : zC G dC dI A n ad cf tys cc own nL d ret) {id len : Nat} {cA : ClassId} (t0 : Nat) (hi : id < n) (hc : cf σ id = .inl (cA, len, .inl (σ id))) (ht : tys[t0]? = some (cA, .int)) (hd : decode cc pc = .ok (.iaload, 1)) (kk : zW G dC dI A n ad cf nL rt o σ (pc + 1) L (.int (σ id x.toNatClampNeg) :: st)) : zW G dC dI A n ad cf nL rt (z_g (z_in x len) o) σ pc L (.int x :: .ref (ad id) :: st) :=
  zx_g (fun hx r τ ho H locs ls hP hS hl => va_iald C.hx C.hb C.hK hP id t0 (z_wl_at hi hc) ht (z_in_vp hx) hd (kk r τ ho H locs ls hP hS hl))
theorem zx_iast (C : zC G dC dI A n ad cf tys cc own nL d ret) {id len : Nat} {cA : ClassId} (t0 : Nat) {K : zS → zA} (hi : id < n) (hc : ∀ σ, cf σ id = .inl (cA, len, .inl (σ id))) (ht : tys[t0]? = some (cA, .int)) (hd : decode cc pc = .ok (.iastore, 1)) (kk : ∀ τ : zS, zW G dC dI A n ad cf nL rt (K τ) τ (pc + 1) L st) : zW G dC dI A n ad cf nL rt (z_g (z_in x len) (z_m (z_put σ id x.toNatClampNeg v) K)) σ pc L (.int v :: .int x :: .ref (ad id) :: st) :=
  zx_g (fun hx r τ ho H locs ls hP hS hl => va_iast C.hx C.hb C.hK hP (C.hO.1 σ) hS id t0 (z_wl_at hi (hc σ)) ht (z_in_vp hx) hd (fun H1 locs1 hP1 _ hS1 => kk (z_put σ id x.toNatClampNeg v) r τ ho H1 locs1 ls (by rw [z_wl_set C.hO.2 hi (r := upd (σ id) x.toNatClampNeg v) (by rw [hc, z_row_same])] at hP1; exact hP1) hS1 hl))
theorem zx_aald (C : zC G dC dI A n ad cf tys cc own nL d ret) {id len : Nat} {cA : ClassId} {Cn : String} {g : Nat → Nat} (t0 : Nat) (hi : id < n) (hc : cf σ id = .inl (cA, len, .inr (.inr (.inr (.inr (fun k => some (ad (g k)))))))) (ht : tys[t0]? = some (cA, .object Cn)) (hd : decode cc pc = .ok (.aaload, 1)) (kk : z_in x len = true → zW G dC dI A n ad cf nL rt o σ (pc + 1) L (.ref (ad (g x.toNatClampNeg)) :: st)) : zW G dC dI A n ad cf nL rt (z_g (z_in x len) o) σ pc L (.int x :: .ref (ad id) :: st) :=
  zx_g (fun hx r τ ho H locs ls hP hS hl => va_aldq C.hx C.hb C.hK hP id t0 (z_wl_at hi hc) ht (z_in_vp hx) hd (kk hx r τ ho H locs ls hP hS hl))
theorem zx_alen (C : zC G dC dI A n ad cf tys cc own nL d ret) {id : Nat} {cA : ClassId} {w : vp_A} {ty : FieldType} (t0 : Nat) (hi : id < n) (hc : cf σ id = .inl (cA, w)) (ht : tys[t0]? = some (cA, ty)) (hv : Int32.ofNat w.1 = v) (hd : decode cc pc = .ok (.arraylength, 1)) (kk : zW G dC dI A n ad cf nL rt o σ (pc + 1) L (.int v :: st)) : zW G dC dI A n ad cf nL rt o σ pc L (.ref (ad id) :: st) := fun r τ ho H locs ls hP hS hl =>
  va_alen C.hx C.hb C.hK hP id t0 (z_wl_at hi hc) ht hv hd (kk r τ ho H locs ls hP hS hl)
theorem zx_copy (C : zC G dC dI A n ad cf tys cc own nL d ret) {i0 i1 n0 n1 index : Nat} {cA : ClassId} (t0 : Nat) {K : zS → zA} {a b m : Int32} (hi0 : i0 < n) (hi1 : i1 < n) (hc0 : cf σ i0 = .inl (cA, n0, .inl (σ i0))) (hc1 : ∀ σ, cf σ i1 = .inl (cA, n1, .inl (σ i1))) (ht : tys[t0]? = some (cA, .int)) (hw1 : Cond.methodLink own index arraycopyName ∈ lw_gd) (hw2 : Cond.native arraycopyName ∈ lw_gd) (hw3 : Cond.static arraycopyName ∈ lw_gd) (hw4 : Cond.initialized "java/lang/System" ∈ lw_gd) (h1 : ¬ a < 0) (h2 : ¬ b < 0) (h3 : ¬ m < 0) (h4 : a.toNatClampNeg + m.toNatClampNeg ≤ n0) (h5 : b.toNatClampNeg + m.toNatClampNeg ≤ n1) (hd1 : 1 ≤ d) (hrm : (st.map fun v => v.category).sum ≤ 8) (hd : decode cc pc = .ok (.invokestatic index, 3)) (kk : ∀ τ : zS, zW G dC dI A n ad cf nL rt (K τ) τ (pc + 3) L st) : zW G dC dI A n ad cf nL rt (z_m (z_row σ i1 (va_cpy (σ i0) (σ i1) a.toNatClampNeg b.toNatClampNeg m.toNatClampNeg)) K) σ pc L (.int m :: .int b :: .ref (ad i1) :: .int a :: .ref (ad i0) :: st) := fun r τ ho H locs ls hP hS hl =>
  va_copyi C.hx C.hb (C.hml.trans hl.1.symm) C.hown (C.hts _ hw1) (C.hts _ hw2) (C.hts _ hw3) (C.hts _ hw4) C.hK hP (C.hO.1 σ) hS i0 i1 t0 t0 (z_wl_at hi0 hc0) (z_wl_at hi1 (hc1 σ)) ht ht rfl h1 h2 h3 h4 h5 (fun _ _ => rfl) (by rw [C.hR]; exact hd1) (by
    rw [C.hR]
    have hq : nativeFrameWords "java/lang/System" "arraycopy" 5 ≤ 60 := by decide +kernel
    show _ ≤ 100 * d
    omega) hd (fun H1 locs1 hP1 _ hS1 => kk _ r τ ho H1 locs1 ls (by rw [z_wl_set C.hO.2 hi1 (r := va_cpy (σ i0) (σ i1) a.toNatClampNeg b.toNatClampNeg m.toNatClampNeg) (by rw [hc1, z_row_same])] at hP1; exact hP1) hS1 hl)
theorem zx_max (C : zC G dC dI A n ad cf tys cc own nL d ret) {index : Nat} (hw1 : Cond.methodLink own index Lib.Math.max.name ∈ lw_gd) (hw2 : Cond.static Lib.Math.max.name ∈ lw_gd) (hw3 : Cond.initialized "java/lang/Math" ∈ lw_gd) (hw4 : Cond.code Lib.Math.max.name Lib.Math.max.code 2 (some .int) ∈ lw_gd) (hd1 : 1 ≤ d) (hrm : (st.map fun v => v.category).sum ≤ 8) (hd : decode cc pc = .ok (.invokestatic index, 3)) (kk : zW G dC dI A n ad cf nL rt o σ (pc + 3) L (.int (if x < y then y else x) :: st)) : zW G dC dI A n ad cf nL rt o σ pc L (.int y :: .int x :: st) := fun r τ ho H locs ls hP hS hl =>
  va_mmax C.hx C.hb (C.hml.trans hl.1.symm) C.hown (C.hts _ hw1) (C.hts _ hw2) (C.hts _ hw3) (C.hts _ hw4) (by rw [C.hR]; exact hd1) (by rw [C.hR]; show _ ≤ 100 * d; omega) (Nat.zero_le _) (Nat.zero_le _) hd (kk r τ ho H locs ls hP hS hl)
theorem zx_min (C : zC G dC dI A n ad cf tys cc own nL d ret) {index : Nat} (hw1 : Cond.methodLink own index Lib.Math.min.name ∈ lw_gd) (hw2 : Cond.static Lib.Math.min.name ∈ lw_gd) (hw3 : Cond.initialized "java/lang/Math" ∈ lw_gd) (hw4 : Cond.code Lib.Math.min.name Lib.Math.min.code 2 (some .int) ∈ lw_gd) (hd1 : 1 ≤ d) (hrm : (st.map fun v => v.category).sum ≤ 8) (hd : decode cc pc = .ok (.invokestatic index, 3)) (kk : zW G dC dI A n ad cf nL rt o σ (pc + 3) L (.int (if y < x then y else x) :: st)) : zW G dC dI A n ad cf nL rt o σ pc L (.int y :: .int x :: st) := fun r τ ho H locs ls hP hS hl =>
  va_mmin C.hx C.hb (C.hml.trans hl.1.symm) C.hown (C.hts _ hw1) (C.hts _ hw2) (C.hts _ hw3) (C.hts _ hw4) (by rw [C.hR]; exact hd1) (by rw [C.hR]; show _ ≤ 100 * d; omega) (Nat.zero_le _) (Nat.zero_le _) hd (kk r τ ho H locs ls hP hS hl)
theorem zx_iret (C : zC G dC dI A n ad cf tys cc own nL d (some .int)) (hd : decode cc pc = .ok (.ireturn, 1)) : zW G dC dI A n ad cf nL true (some (x, σ)) σ pc L [.int x] := fun r τ ho H locs ls hP hS hl => by
  cases ho
  exact W.iret (hlocks := C.hlk) C.hx C.hb C.hr (fun t ht _ => ⟨⟨x, (), rfl, rfl, (by show va_P _ _ _ t.heap; rw [ht]; exact hP)⟩, hS.F ht⟩) hS.2.2 hd
theorem zx_zret (C : zC G dC dI A n ad cf tys cc own nL d (some .boolean)) (hb : z_bo x = true) (hd : decode cc pc = .ok (.ireturn, 1)) : zW G dC dI A n ad cf nL true (some (x, σ)) σ pc L [.int x] := fun r τ ho H locs ls hP hS hl => by
  cases ho
  exact W.zret (hlocks := C.hlk) C.hx C.hb C.hr (z_bo_n hb) (fun t ht _ => ⟨⟨x, (), rfl, rfl, (by show va_P _ _ _ t.heap; rw [ht]; exact hP)⟩, hS.F ht⟩) hS.2.2 hd
theorem zx_zretg (C : zC G dC dI A n ad cf tys cc own nL d (some .boolean)) (hd : decode cc pc = .ok (.ireturn, 1)) : zW G dC dI A n ad cf nL true (z_g (z_bo x) (some (x, σ))) σ pc L [.int x] := zx_g (fun hb => zx_zret C hb hd)
theorem zx_vret (C : zC G dC dI A n ad cf tys cc own nL d none) (hd : decode cc pc = .ok (.return_, 1)) : zW G dC dI A n ad cf nL false (some (0, σ)) σ pc L [] := fun r τ ho H locs ls hP hS hl => by
  cases ho
  exact W.vret (hlocks := C.hlk) C.hx C.hb C.hr (fun t ht _ => ⟨⟨(), rfl, trivial, (by show va_P _ _ _ t.heap; rw [ht]; exact hP)⟩, hS.F ht⟩) hS.2.2 hd
/-- what the tables say of a method: its code, its class, its parameters -/
def zY (y : MethodName) (bytes : ByteArray) (nL : Nat) (ret : Option FieldType) (np : Nat) : Prop := Cond.code y bytes nL ret ∈ lw_gd ∧ Cond.initialized y.cls ∈ lw_gd ∧ (y.cls ≠ "java/lang/invoke/MethodHandle" ∧ y.cls ≠ "java/lang/invoke/VarHandle" ∧ (parseMethodDescriptor y.desc).map (fun d => d.parameters.length) = some np) ∧ nL ≤ 60 ∧ goodWord (Cond.code y bytes nL ret) = true
theorem zY.good {y : MethodName} {bytes : ByteArray} {nL np : Nat} {ret : Option FieldType} (h : zY y bytes nL ret np) : GoodIn lw_gd (.code y bytes nL ret :: lw_gd) := fun w hw => (List.mem_cons.mp hw).elim (fun e => e ▸ ⟨h.1, good_of_word h.2.2.2.2⟩) (gd_good w)
theorem zP_blind {av : List Value} : FrameBlind (va_Pc av (zP dC dI n ad cf tys σ)) := fun a U g mk q => by
  obtain ⟨q0, qP, qK, qN⟩ := q
  exact ⟨q0, qP, va_K.moved (u := U) (U := U.calling g mk a) (Vm.Alike.refl U.vm) qK, zN.same rfl qN⟩
theorem z_pre (C : zC G dC dI A n ad cf tys cc own nL d ret) {av : List Value} {H : Heap} (hP : va_P (dC, dI) vwCl (z_wl n ad cf σ) H) : ∀ U : State, U.heap = H → (gS G).WarmedH U.vm → va_Pc av (zP dC dI n ad cf tys σ) av.toArray U := fun U hU hW => ⟨rfl, by rw [hU]; exact hP, va_K.moved hW.alike C.hK, C.hN.warm hW⟩
theorem z_run (C : zC G dC dI A n ad cf tys cc own nL d ret) {stk : List Value} {K : Int32 → zS → zA} {av : Array Value} {rt1 : Bool} (hM : ∀ (r : Int32) (τ : zS) (H : Heap) (locs : List Loc) (ls : Array Slot), o1 = some (r, τ) → va_P (dC, dI) vwCl (z_wl n ad cf σ) H → lv_has ls nL L → va_Run (gP G) (gL G) (gE G) (gR G) (gS G) (gM G) (gA G) (gB G) (gH G) (gC G) H locs 0 0 0 0 (F0 (gM G) pc ls stk) st (zQ rt1 dC dI A n ad cf r τ av) A)
    (ki : rt1 = true → ∀ (r : Int32) (τ : zS), zW G dC dI A n ad cf nL rt (K r τ) τ (pc + 3) L (.int r :: st)) (kv : rt1 = false → ∀ (r : Int32) (τ : zS), zW G dC dI A n ad cf nL rt (K r τ) τ (pc + 3) L st) : zW G dC dI A n ad cf nL rt (z_b o1 K) σ pc L stk := by
  intro r τ ho H locs ls hP hS hl
  cases h1 : o1 with
  | none => rw [h1] at ho; exact nomatch ho
  | some q =>
    obtain ⟨r1, τ1⟩ := q
    rw [h1] at ho
    have hrun := hM r1 τ1 H locs ls h1 hP hl
    cases rt1 with
    | true =>
      refine va_calli (A0 := A) (A1 := A) (a := av) hrun hS (fun _ _ h => h) (fun _ h => h) (fun r2 u t H1 locs1 ht _ hw hB _ _ hS1 => ?_)
      subst hw
      rw [ht] at hB
      exact ki rfl r2 τ1 r τ ho H1 locs1 ls hB hS1 hl
    | false =>
      refine va_callv (A0 := A) (A1 := A) (a := av) hrun hS (fun _ _ h => h) (fun _ h => h) (fun u t H1 locs1 ht _ _ hB _ _ hS1 => ?_)
      rw [ht] at hB
      exact kv rfl r1 τ1 r τ ho H1 locs1 ls hB hS1 hl
theorem z_rm {nL1 d1 : Nat} (C : zC G dC dI A n ad cf tys cc own nL d ret) (hd : d1 + 1 ≤ d) (hn : nL1 ≤ 60) : (zR d1).frames + 1 ≤ (gR G).frames ∧ 8 + (nL1 + 11) + (zR d1).locals ≤ (gR G).locals := by
  rw [C.hR]
  exact ⟨hd, by show _ + 100 * d1 ≤ 100 * d; omega⟩
theorem z_fix (C : zC G dC dI A n ad cf tys cc own nL d ret) : CallFix (gP G) (gM G) (gC G) cc nL (gS G) (gA G) lw_gd own := ⟨C.hx, C.hb, C.hml, C.hown, C.hts⟩
/-- a static method of the same class, or one that isn't private -/
theorem zx_callS (C : zC G dC dI A n ad cf tys cc own nL d ret) {y : MethodName} {bytes : ByteArray} {nL1 d1 np index : Nat} {ret1 : Option FieldType} {rt1 : Bool} {stk av : List Value} {K : Int32 → zS → zA} (hY : zY y bytes nL1 ret1 np) (hw : Cond.methodLink own index y ∈ lw_gd) (hst : Cond.static y ∈ lw_gd) (hM : zM (gL G) dC dI A n ad cf tys rt1 y bytes nL1 ret1 d1 av σ o1) (hd1 : d1 + 1 ≤ d) (hn : av.length = np) (hs : stk = av.reverse ++ st) (hrm : (st.map fun v => v.category).sum ≤ 8) (hd : decode cc pc = .ok (.invokestatic index, 3))
    (ki : rt1 = true → ∀ (r : Int32) (τ : zS), zW G dC dI A n ad cf nL rt (K r τ) τ (pc + 3) L (.int r :: st)) (kv : rt1 = false → ∀ (r : Int32) (τ : zS), zW G dC dI A n ad cf nL rt (K r τ) τ (pc + 3) L st) : zW G dC dI A n ad cf nL rt (z_b o1 K) σ pc L stk :=
  z_run C (fun r τ H locs ls h1 hP hl => va_runS (As := av) (rest := st) (z_fix C) (hM r τ h1) ⟨callB_of np C.hts hY.good rfl rfl rfl (C.hts _ hY.2.1) (C.hts _ hw) hY.2.2.1 (z_rm C hd1 hY.2.2.2.1), C.hts _ hst⟩ ⟨zP_blind, z_pre C hP⟩ rfl hn hl.1 hs (lv_room hrm) hd ⟨Nat.zero_le _, Nat.zero_le _⟩) ki kv
/-- a private static method of a nest mate -/
theorem zx_callSN (C : zC G dC dI A n ad cf tys cc own nL d ret) {y : MethodName} {bytes : ByteArray} {nL1 d1 np index : Nat} {ret1 : Option FieldType} {rt1 : Bool} {host : String} {stk av : List Value} {K : Int32 → zS → zA} (hY : zY y bytes nL1 ret1 np) (hw : (own, index, y, host) ∈ z_nest) (hst : Cond.static y ∈ lw_gd) (hM : zM (gL G) dC dI A n ad cf tys rt1 y bytes nL1 ret1 d1 av σ o1) (hd1 : d1 + 1 ≤ d) (hn : av.length = np) (hs : stk = av.reverse ++ st) (hrm : (st.map fun v => v.category).sum ≤ 8) (hd : decode cc pc = .ok (.invokestatic index, 3))
    (ki : rt1 = true → ∀ (r : Int32) (τ : zS), zW G dC dI A n ad cf nL rt (K r τ) τ (pc + 3) L (.int r :: st)) (kv : rt1 = false → ∀ (r : Int32) (τ : zS), zW G dC dI A n ad cf nL rt (K r τ) τ (pc + 3) L st) : zW G dC dI A n ad cf nL rt (z_b o1 K) σ pc L stk :=
  z_run C (fun r τ H locs ls h1 hP hl => va_runSN (As := av) (rest := st) (z_fix C) (hM r τ h1) ⟨va_cnB np C.hts hY.good rfl rfl rfl (C.hN _ hw) (C.hts _ hY.2.1) hY.2.2.1 (z_rm C hd1 hY.2.2.2.1), C.hts _ hst, trivial⟩ ⟨zP_blind, z_pre C hP⟩ rfl hn hl.1 hs (lv_room hrm) hd ⟨Nat.zero_le _, Nat.zero_le _⟩) ki kv
/-- a method of the receiver's own class -/
theorem zx_callV (C : zC G dC dI A n ad cf tys cc own nL d ret) {y : MethodName} {bytes : ByteArray} {nL1 d1 np index id ci : Nat} {ret1 : Option FieldType} {rt1 : Bool} {Cn : String} {T : u_T} {N : Nat} {fs stk As : List Value} {K : Int32 → zS → zA} (hY : zY y bytes nL1 ret1 np) (hw : Cond.methodLink own index y ∈ lw_gd) (hin : Cond.instanceMethod y ∈ lw_gd) (hse : Cond.selects Cn y y ∈ lw_gd) (hi : id < n) (hc : cf σ id = .inr (ci, fs)) (hcl : vwCl[ci]? = some (Cn, T, N)) (hM : zM (gL G) dC dI A n ad cf tys rt1 y bytes nL1 ret1 d1 (.ref (ad id) :: As) σ o1) (hd1 : d1 + 1 ≤ d) (hn : As.length = np) (hs : stk = As.reverse ++ .ref (ad id) :: st) (hrm : (st.map fun v => v.category).sum ≤ 8) (hd : decode cc pc = .ok (.invokevirtual index, 3))
    (ki : rt1 = true → ∀ (r : Int32) (τ : zS), zW G dC dI A n ad cf nL rt (K r τ) τ (pc + 3) L (.int r :: st)) (kv : rt1 = false → ∀ (r : Int32) (τ : zS), zW G dC dI A n ad cf nL rt (K r τ) τ (pc + 3) L st) : zW G dC dI A n ad cf nL rt (z_b o1 K) σ pc L stk :=
  z_run C (fun r τ H locs ls h1 hP hl => va_runV (As := As) (rest := st) (z_fix C) (hM r τ h1) ⟨callB_of np C.hts hY.good rfl rfl rfl (C.hts _ hY.2.1) (C.hts _ hw) hY.2.2.1 (z_rm C hd1 hY.2.2.2.1), C.hts _ hin, C.hts _ hse⟩ ⟨zP_blind, va_recv C.hK hP hcl (z_wl_at hi hc), z_pre C hP⟩ rfl hn hl.1 hs (lv_room hrm) hd ⟨Nat.zero_le _, Nat.zero_le _⟩) ki kv
/-- a method that the receiver's class overrides or inherits: the reference names zx, zy is run -/
theorem zx_callO (C : zC G dC dI A n ad cf tys cc own nL d ret) {xn y : MethodName} {bytes b0 : ByteArray} {nL1 d1 np index id ci m0 : Nat} {ret1 r0 : Option FieldType} {rt1 : Bool} {Cn : String} {T : u_T} {N : Nat} {fs stk As : List Value} {K : Int32 → zS → zA} (hY : zY y bytes nL1 ret1 np) (hX : zY xn b0 m0 r0 np) (hw : Cond.methodLink own index xn ∈ lw_gd) (hsm : Cond.sameMethod xn.cls xn.cls xn.name xn.desc ∈ lw_gd) (hin0 : Cond.instanceMethod xn ∈ lw_gd) (hin : Cond.instanceMethod y ∈ lw_gd) (hse : Cond.selects Cn xn y ∈ lw_gd) (hi : id < n) (hc : cf σ id = .inr (ci, fs)) (hcl : vwCl[ci]? = some (Cn, T, N)) (hM : zM (gL G) dC dI A n ad cf tys rt1 y bytes nL1 ret1 d1 (.ref (ad id) :: As) σ o1) (hd1 : d1 + 1 ≤ d) (hn : As.length = np) (hs : stk = As.reverse ++ .ref (ad id) :: st) (hrm : (st.map fun v => v.category).sum ≤ 8) (hd : decode cc pc = .ok (.invokevirtual index, 3))
    (ki : rt1 = true → ∀ (r : Int32) (τ : zS), zW G dC dI A n ad cf nL rt (K r τ) τ (pc + 3) L (.int r :: st)) (kv : rt1 = false → ∀ (r : Int32) (τ : zS), zW G dC dI A n ad cf nL rt (K r τ) τ (pc + 3) L st) : zW G dC dI A n ad cf nL rt (z_b o1 K) σ pc L stk :=
  z_run C (fun r τ H locs ls h1 hP hl => va_runU (As := As) (rest := st) (owner := xn.cls) (z_fix C) (hM r τ h1) (by
    have hrm1 := z_rm C hd1 hY.2.2.2.1
    refine ⟨⟨rfl, rfl, hrm1.1, hrm1.2, pay_in C.hts hY.good, List.mem_cons_self⟩, C.hts _ hY.1, C.hts _ hY.2.1, ⟨hX.2.2.1.1, hX.2.2.1.2.1⟩, fun sig h => ?_, C.hts _ hw, C.hts _ hsm, va_Decl.of (C.hts _ hin0) (C.hts _ hX.1), C.hts _ hse, C.hts _ hin⟩
    have h2 := hX.2.2.1.2.2
    rw [h] at h2
    exact (Option.some.inj h2).symm) ⟨zP_blind, va_recv C.hK hP hcl (z_wl_at hi hc), z_pre C hP⟩ rfl hn hl.1 hs (lv_room hrm) hd ⟨Nat.zero_le _, Nat.zero_le _⟩) ki kv
/-- super.y(..) -/
theorem zx_callSU (C : zC G dC dI A n ad cf tys cc own nL d ret) {y : MethodName} {bytes : ByteArray} {nL1 d1 np index id ci : Nat} {ret1 : Option FieldType} {rt1 : Bool} {Cn : String} {T : u_T} {N : Nat} {fs stk As : List Value} {K : Int32 → zS → zA} (hY : zY y bytes nL1 ret1 np) (hw : Cond.methodLink own index y ∈ lw_gd) (hsm : Cond.sameMethod y.cls y.cls y.name y.desc ∈ lw_gd) (hsu : Cond.superclass own y.cls ∈ lw_gd) (hin : Cond.instanceMethod y ∈ lw_gd) (hno : y.name ≠ "<init>") (hi : id < n) (hc : cf σ id = .inr (ci, fs)) (hcl : vwCl[ci]? = some (Cn, T, N)) (hM : zM (gL G) dC dI A n ad cf tys rt1 y bytes nL1 ret1 d1 (.ref (ad id) :: As) σ o1) (hd1 : d1 + 1 ≤ d) (hn : As.length = np) (hs : stk = As.reverse ++ .ref (ad id) :: st) (hrm : (st.map fun v => v.category).sum ≤ 8) (hd : decode cc pc = .ok (.invokespecial index, 3))
    (ki : rt1 = true → ∀ (r : Int32) (τ : zS), zW G dC dI A n ad cf nL rt (K r τ) τ (pc + 3) L (.int r :: st)) (kv : rt1 = false → ∀ (r : Int32) (τ : zS), zW G dC dI A n ad cf nL rt (K r τ) τ (pc + 3) L st) : zW G dC dI A n ad cf nL rt (z_b o1 K) σ pc L stk :=
  z_run C (fun r τ H locs ls h1 hP hl => va_runSU (As := As) (rest := st) (C.hK.1 ci _ hcl).2 (z_fix C) (hM r τ h1) (by
    have hrm1 := z_rm C hd1 hY.2.2.2.1
    refine ⟨⟨rfl, rfl, hrm1.1, hrm1.2, pay_in C.hts hY.good, List.mem_cons_self⟩, C.hts _ hw, C.hts _ hsm, C.hts _ hsu, C.hts _ hin, C.hts _ hY.2.1, C.hts _ hY.1, hno, fun sig h => ?_⟩
    have h2 := hY.2.2.1.2.2
    rw [h] at h2
    exact (Option.some.inj h2).symm) ⟨zP_blind, va_recv C.hK hP hcl (z_wl_at hi hc), z_pre C hP⟩ rfl hn hl.1 hs (lv_room hrm) hd ⟨Nat.zero_le _, Nat.zero_le _⟩) ki kv
end ZR
/-- a contract out of the walk from its entry -/
theorem zM_of {l : Launch} {dC : Nat → ClassId} {dI : Nat → Nat → Nat} {A : Nat → Prop} {n : Nat} {ad : Nat → Nat} {cf : zS → Nat → va_E} {tys : List (ClassId × FieldType)} {rt : Bool} {y : MethodName} {bytes : ByteArray} {nL : Nat} {ret : Option FieldType} {d : Nat} {av : List Value} {σ : zS} {o : zA} (hO : zO A n ad cf) (hy : plainName y.cls = true) (hav : (lg_sl av).length ≤ nL)
    (h : ∀ G : zG, gL G = l → zC G dC dI A n ad cf tys bytes y.cls nL d ret → zW G dC dI A n ad cf nL rt o σ 0 (lv_args 0 av) []) : zM l dC dI A n ad cf tys rt y bytes nL ret d av σ o := by
  intro r τ ho
  refine Met.ofW (cc := bytes) (maxL := nL) (ret := ret) hy rfl ?_
  intro p e s m args below meth c s₁ B hml hv
  obtain ⟨rfl, hP, hK, hN⟩ := hv
  have hts := atoms_spec (ws := .code y bytes nL ret :: lw_gd) B.pre
  have hown : s.vm.findClass y.cls = some m.cls := findClass_of_methodNamed B.named
  have hl := lv_entry av (n := nL) hav
  rw [lg_entry_eq]
  exact h (p, e, zR d, s, m, av.toArray, below, meth, c, l) rfl ⟨B.exec, B.bytes, hml, hown, fun w hw => hts w (List.mem_cons_of_mem _ hw), hK, hN, hO, B.notSynchronized, rfl, B.returns⟩ r τ ho s.heap [] _ hP va_S.rf hl
