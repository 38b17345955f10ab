/-! ===== small answers ===== -/
theorem lg_i0 : (0 : Int64).toInt = 0 := by decide
theorem lg_i32 : (32 : Int64).toInt = 32 := by decide
theorem has_1 {b : Int64} {n : Nat} (c : lg_cmp b 0 < 0) : (0 : Int32) = if 0 ≤ b.toInt ∧ b.toInt < n then 1 else 0 := by
  have h := Int64.lt_iff_toInt_lt.mp ((lg_cmp_lt b 0).mp c)
  rw [lg_i0] at h
  rw [if_neg (fun q => by omega)]
theorem has_2 {b : Int64} {n : Nat} (hn : n ≤ 32) (c : 0 ≤ lg_cmp b (lN n)) : (0 : Int32) = if 0 ≤ b.toInt ∧ b.toInt < n then 1 else 0 := by
  have h := Int64.le_iff_toInt_le.mp ((lg_cmp_ge b (lN n)).mp c)
  rw [lN_toInt (by omega)] at h
  rw [if_neg (fun q => by omega)]
theorem has_3 {b : Int64} {n : Nat} (hn : n ≤ 32) (c : 0 ≤ lg_cmp b 32) : (0 : Int32) = if 0 ≤ b.toInt ∧ b.toInt < n then 1 else 0 := by
  have h := Int64.le_iff_toInt_le.mp ((lg_cmp_ge b 32).mp c)
  rw [lg_i32] at h
  rw [if_neg (fun q => by omega)]
theorem has_4 {b : Int64} {n : Nat} (hn : n ≤ 32) (c : ¬ lg_cmp b 0 < 0) (c2 : ¬ 0 ≤ lg_cmp b (lN n)) : (1 : Int32) = if 0 ≤ b.toInt ∧ b.toInt < n then 1 else 0 := by
  have h : ¬ b < 0 := fun q => c ((lg_cmp_lt b 0).mpr q)
  have h2 : ¬ lN n ≤ b := fun q => c2 ((lg_cmp_ge b (lN n)).mpr q)
  rw [Int64.lt_iff_toInt_lt, lg_i0] at h
  rw [Int64.le_iff_toInt_le, lN_toInt (by omega)] at h2
  rw [if_pos (by omega)]
def tl_ans (kn oc dn ld sr what : Int32) : Int32 := if what < 0 ∨ 3 < what then -1 else if kn = 0 then -2 else if what = 0 then oc else if what = 1 then dn else if what = 2 then ld else sr
theorem tl_what {w : Int32} (h1 : ¬ w < 0) (h2 : w ≤ 3) : w = 0 ∨ w = 1 ∨ w = 2 ∨ w = 3 := by
  obtain ⟨j, hj, rfl⟩ := nI_of2 (M := 3) (n := 3) (by decide) h1 h2
  have : j = 0 ∨ j = 1 ∨ j = 2 ∨ j = 3 := by omega
  rcases this with rfl | rfl | rfl | rfl
  · exact Or.inl rfl
  · exact Or.inr (Or.inl rfl)
  · exact Or.inr (Or.inr (Or.inl rfl))
  · exact Or.inr (Or.inr (Or.inr rfl))
theorem tl_k0 {kn oc dn ld sr : Int32} (h : ¬ kn = 0) : oc = tl_ans kn oc dn ld sr 0 := by unfold tl_ans; rw [if_neg (by decide), if_neg h, if_pos rfl]
theorem tl_k1 {kn oc dn ld sr : Int32} (h : ¬ kn = 0) : dn = tl_ans kn oc dn ld sr 1 := by unfold tl_ans; rw [if_neg (by decide), if_neg h, if_neg (by decide), if_pos rfl]
theorem tl_k2 {kn oc dn ld sr : Int32} (h : ¬ kn = 0) : ld = tl_ans kn oc dn ld sr 2 := by unfold tl_ans; rw [if_neg (by decide), if_neg h, if_neg (by decide), if_neg (by decide), if_pos rfl]
theorem tl_k3 {kn oc dn ld sr : Int32} (h : ¬ kn = 0) : sr = tl_ans kn oc dn ld sr 3 := by unfold tl_ans; rw [if_neg (by decide), if_neg h, if_neg (by decide), if_neg (by decide), if_neg (by decide)]
theorem fl_s {g : Nat → Int64} {v : Int64} {i : Nat} (h : ∀ j, j < i → g j = v) : ∀ j, j < i + 1 → vp_updL g i v j = v := by
  intro j hj
  by_cases hji : j = i
  · subst hji; rw [pk_uLs]
  · rw [pk_uLn hji]; exact h j (by omega)
