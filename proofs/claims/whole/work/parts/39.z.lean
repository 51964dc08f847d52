/-! The twenty-seven calls, in the form that the law asks. -/
theorem hN2 : 2000 ≤ z_N := by decide
theorem hN4 : 4200 ≤ z_N := by decide
theorem hN7 : 7 ≤ z_N := by decide
theorem hN20 : 20 ≤ z_N := by decide
theorem hN17 : 17 ≤ z_N := by decide
theorem s_feed {σ τ : zS} (hI : zInv σ τ) (a0 : Int32) : ∃ (r : Int32) (σ1 τ1 : zS), f_X10_feed z_N a0 σ = some (r, σ1) ∧ f_X11_feed z_N a0 τ = some (r, τ1) ∧ zInv σ1 τ1 := st_feed hI a0
theorem s_night {σ τ : zS} (hI : zInv σ τ) : ∃ (r : Int32) (σ1 τ1 : zS), f_X10_night z_N  σ = some (r, σ1) ∧ f_X11_night z_N  τ = some (r, τ1) ∧ zInv σ1 τ1 := st_night hN2 hI
theorem s_candle {σ τ : zS} (hI : zInv σ τ) (a0 a1 : Int32) : ∃ (r : Int32) (σ1 τ1 : zS), f_X10_candle z_N a0 a1 σ = some (r, σ1) ∧ f_X11_candle z_N a0 a1 τ = some (r, τ1) ∧ zInv σ1 τ1 := st_candle hI a0 a1
theorem s_put {σ τ : zS} (hI : zInv σ τ) (a0 a1 : Int32) : ∃ (r : Int32) (σ1 τ1 : zS), f_X10_put z_N a0 a1 σ = some (r, σ1) ∧ f_X11_put z_N a0 a1 τ = some (r, τ1) ∧ zInv σ1 τ1 := st_put hI a0 a1
theorem s_light {σ τ : zS} (hI : zInv σ τ) (a0 a1 : Int32) (hw : a1 = 0 ∨ a1 = 1) : ∃ (r : Int32) (σ1 τ1 : zS), f_X10_light z_N a0 a1 σ = some (r, σ1) ∧ f_X11_light z_N a0 a1 τ = some (r, τ1) ∧ zInv σ1 τ1 := st_light hI a0 a1 hw
theorem s_draught {σ τ : zS} (hI : zInv σ τ) (a0 a1 : Int32) : ∃ (r : Int32) (σ1 τ1 : zS), f_X10_draught z_N a0 a1 σ = some (r, σ1) ∧ f_X11_draught z_N a0 a1 τ = some (r, τ1) ∧ zInv σ1 τ1 := st_draught hI a0 a1
theorem s_owe {σ τ : zS} (hI : zInv σ τ) (a0 a1 a2 : Int32) : ∃ (r : Int32) (σ1 τ1 : zS), f_X10_owe z_N a0 a1 a2 σ = some (r, σ1) ∧ f_X11_owe z_N a0 a1 a2 τ = some (r, τ1) ∧ zInv σ1 τ1 := st_owe hI a0 a1 a2
theorem s_debt {σ τ : zS} (hI : zInv σ τ) (a0 a1 : Int32) : ∃ (r : Int32) (σ1 τ1 : zS), f_X10_debt z_N a0 a1 σ = some (r, σ1) ∧ f_X11_debt z_N a0 a1 τ = some (r, τ1) ∧ zInv σ1 τ1 := st_debt hI a0 a1
theorem s_go {σ τ : zS} (hI : zInv σ τ) (a0 : Int32) : ∃ (r : Int32) (σ1 τ1 : zS), f_X10_go z_N a0 σ = some (r, σ1) ∧ f_X11_go z_N a0 τ = some (r, τ1) ∧ zInv σ1 τ1 := st_go hN2 hI a0
theorem s_behind {σ τ : zS} (hI : zInv σ τ) (a0 a1 : Int32) : ∃ (r : Int32) (σ1 τ1 : zS), f_X10_behind z_N a0 a1 σ = some (r, σ1) ∧ f_X11_behind z_N a0 a1 τ = some (r, τ1) ∧ zInv σ1 τ1 := st_behind hN2 hI a0 a1
theorem s_owes {σ τ : zS} (hI : zInv σ τ) (a0 a1 a2 : Int32) : ∃ (r : Int32) (σ1 τ1 : zS), f_X10_owes z_N a0 a1 a2 σ = some (r, σ1) ∧ f_X11_owes z_N a0 a1 a2 τ = some (r, τ1) ∧ zInv σ1 τ1 := st_owes hN2 hI a0 a1 a2
theorem s_reads {σ τ : zS} (hI : zInv σ τ) (a0 a1 : Int32) : ∃ (r : Int32) (σ1 τ1 : zS), f_X10_reads z_N a0 a1 σ = some (r, σ1) ∧ f_X11_reads z_N a0 a1 τ = some (r, τ1) ∧ zInv σ1 τ1 := st_reads hN2 hI a0 a1
theorem s_ends {σ τ : zS} (hI : zInv σ τ) (a0 : Int32) : ∃ (r : Int32) (σ1 τ1 : zS), f_X10_ends z_N a0 σ = some (r, σ1) ∧ f_X11_ends z_N a0 τ = some (r, τ1) ∧ zInv σ1 τ1 := st_ends hN2 hI a0
theorem s_clearBy {σ τ : zS} (hI : zInv σ τ) : ∃ (r : Int32) (σ1 τ1 : zS), f_X10_clearBy z_N  σ = some (r, σ1) ∧ f_X11_clearBy z_N  τ = some (r, τ1) ∧ zInv σ1 τ1 := st_clearBy hN2 hI
theorem s_dark {σ τ : zS} (hI : zInv σ τ) (a0 : Int32) : ∃ (r : Int32) (σ1 τ1 : zS), f_X10_dark z_N a0 σ = some (r, σ1) ∧ f_X11_dark z_N a0 τ = some (r, τ1) ∧ zInv σ1 τ1 := st_dark hN2 hI a0
theorem s_best {σ τ : zS} (hI : zInv σ τ) (a0 a1 : Int32) : ∃ (r : Int32) (σ1 τ1 : zS), f_X10_best z_N a0 a1 σ = some (r, σ1) ∧ f_X11_best z_N a0 a1 τ = some (r, τ1) ∧ zInv σ1 τ1 := st_best hN4 hI a0 a1
theorem s_pour {σ τ : zS} (hI : zInv σ τ) (a0 a1 a2 a3 : Int32) : ∃ (r : Int32) (σ1 τ1 : zS), f_X10_pour z_N a0 a1 a2 a3 σ = some (r, σ1) ∧ f_X11_pour z_N a0 a1 a2 a3 τ = some (r, τ1) ∧ zInv σ1 τ1 := st_pour hN2 hI a0 a1 a2 a3
theorem s_strike {σ τ : zS} (hI : zInv σ τ) : ∃ (r : Int32) (σ1 τ1 : zS), f_X10_strike z_N  σ = some (r, σ1) ∧ f_X11_strike z_N  τ = some (r, τ1) ∧ zInv σ1 τ1 := st_strike hN2 hI
theorem s_owed {σ τ : zS} (hI : zInv σ τ) (a0 : Int32) : ∃ (r : Int32) (σ1 τ1 : zS), f_X10_owed z_N a0 σ = some (r, σ1) ∧ f_X11_owed z_N a0 τ = some (r, τ1) ∧ zInv σ1 τ1 := st_owed hN7 hI a0
theorem s_cheat {σ τ : zS} (hI : zInv σ τ) (a0 a1 a2 a3 a4 : Int32) : ∃ (r : Int32) (σ1 τ1 : zS), f_X10_cheat z_N a0 a1 a2 a3 a4 σ = some (r, σ1) ∧ f_X11_cheat z_N a0 a1 a2 a3 a4 τ = some (r, τ1) ∧ zInv σ1 τ1 := st_cheat hN2 hI a0 a1 a2 a3 a4
theorem s_dripped {σ τ : zS} (hI : zInv σ τ) (a0 a1 a2 a3 : Int32) : ∃ (r : Int32) (σ1 τ1 : zS), f_X10_dripped z_N a0 a1 a2 a3 σ = some (r, σ1) ∧ f_X11_dripped z_N a0 a1 a2 a3 τ = some (r, τ1) ∧ zInv σ1 τ1 := st_dripped hN2 hI a0 a1 a2 a3
theorem s_row {σ τ : zS} (hI : zInv σ τ) (a0 : Int32) : ∃ (r : Int32) (σ1 τ1 : zS), f_X10_row z_N a0 σ = some (r, σ1) ∧ f_X11_row z_N a0 τ = some (r, τ1) ∧ zInv σ1 τ1 := st_row hI a0
theorem s_judge {σ τ : zS} (hI : zInv σ τ) : ∃ (r : Int32) (σ1 τ1 : zS), f_X10_judge z_N  σ = some (r, σ1) ∧ f_X11_judge z_N  τ = some (r, τ1) ∧ zInv σ1 τ1 := st_judge hN7 hI
theorem s_seeds {σ τ : zS} (hI : zInv σ τ) (a0 a1 : Int32) : ∃ (r : Int32) (σ1 τ1 : zS), f_X10_seeds z_N a0 a1 σ = some (r, σ1) ∧ f_X11_seeds z_N a0 a1 τ = some (r, τ1) ∧ zInv σ1 τ1 := st_seeds hN2 hI a0 a1
theorem s_image {σ τ : zS} (hI : zInv σ τ) : ∃ (r : Int32) (σ1 τ1 : zS), f_X10_image z_N  σ = some (r, σ1) ∧ f_X11_image z_N  τ = some (r, τ1) ∧ zInv σ1 τ1 := st_image hN20 hI
theorem s_restore {σ τ : zS} (hI : zInv σ τ) : ∃ (r : Int32) (σ1 τ1 : zS), f_X10_restore z_N  σ = some (r, σ1) ∧ f_X11_restore z_N  τ = some (r, τ1) ∧ zInv σ1 τ1 := st_restore hN20 hI
theorem s_count {σ τ : zS} (hI : zInv σ τ) (a0 : Int32) : ∃ (r : Int32) (σ1 τ1 : zS), f_X10_count z_N a0 σ = some (r, σ1) ∧ f_X11_count z_N a0 τ = some (r, τ1) ∧ zInv σ1 τ1 := st_count hN17 hI a0
