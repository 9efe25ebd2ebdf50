theorem okT_sh {f : Int → Int} (h : okT f) (b : Int) : okT (sh f b) := fun i => h (b + i)
theorem okC_sh {f : Int → Int} (h : okC f) (b : Int) : okC (sh f b) := fun i => h (b + i)
theorem pv_0 (f : Int → Int) {i : Int} (h : i = 0) : pvZ f i = 0 := if_pos h
theorem pv_s (f : Int → Int) {b i : Int} (h : i ≠ 0) : pvZ (sh f b) i = f (b + i - 1) := by
  unfold pvZ sh
  rw [if_neg h, show b + (i - 1) = b + i - 1 by omega]
theorem tdiv2 {v : Int} (h : 0 ≤ v) : v.tdiv 2 = v / 2 := Int.tdiv_eq_ediv_of_nonneg h
theorem back_e {v : Int} (h0 : 0 ≤ v) (h : v % 2 = 0) : v.tdiv 2 = backZ v := by unfold backZ; rw [if_pos h, tdiv2 h0]
theorem back_o {v : Int} (h0 : 0 ≤ v) (h : v % 2 ≠ 0) : (-(v + 1)).tdiv 2 = backZ v := by
  unfold backZ
  rw [if_neg h, Int.neg_tdiv, tdiv2 (by omega)]
  omega
