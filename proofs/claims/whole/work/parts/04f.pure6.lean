/-! ===== the next instruction, what was seen, what is stored: numbers against cells ===== -/
theorem i32_l (x : Int32) : x.toInt64.toInt = x.toInt := by simp
theorem nxR_yes {n : Nat} {nx : Int32} {na : Option Nat} {r : Int32} (hn : n ≤ 32) (h : nxR n nx na) (hr : r = if 0 ≤ nx.toInt64.toInt ∧ nx.toInt64.toInt < n then 1 else 0) (c : ¬ r = 0) : ∃ i, na = some i ∧ i < n ∧ nx = nI i := by
  have hy := jp_yes hr c
  rw [i32_l] at hy
  cases na with
  | some i => exact ⟨i, rfl, h.1, h.2⟩
  | none =>
    rcases h with h | h
    · rw [h] at hy
      exact absurd hy.1 (by decide)
    · rw [h, nI_toInt (by omega)] at hy
      omega
theorem nxR_no {n : Nat} {nx : Int32} {na : Option Nat} {r : Int32} (hn : n ≤ 32) (h : nxR n nx na) (hr : r = if 0 ≤ nx.toInt64.toInt ∧ nx.toInt64.toInt < n then 1 else 0) (c : r = 0) : na = none := by
  cases na with
  | none => rfl
  | some i =>
    obtain ⟨h1, h2⟩ := h
    rw [h2, i32_l, nI_toInt (by omega), if_pos (by omega)] at hr
    rw [hr] at c
    exact absurd c (by decide)
theorem wk_sn_none {pg : Pg} {P : Nat → Int64} {M : Ms} {sn : Nat → Option Int64} (h : sp_ne M = none) : wk_sn pg P M sn = sn := by
  have : wk_at pg M = none := by
    unfold wk_at
    split
    · rw [h]
    · rfl
  unfold wk_sn
  rw [this]
theorem wk_sn_long {pg : Pg} {P : Nat → Int64} {M : Ms} {sn : Nat → Option Int64} {i : Nat} (hn : sp_ne M = some i) (h : 300 ≤ sp_dn M) : wk_sn pg P M sn = sn := by
  have : wk_at pg M = none := by
    unfold wk_at
    split
    · rw [hn]
      try (dsimp only; rw [if_pos h])
    · rfl
  unfold wk_sn
  rw [this]
theorem wk_sn_go {pg : Pg} {P : Nat → Int64} {rg : Nat → Int64} {wr sn : Nat → Option Int64} {ct i d L : Nat} (h : ¬ 300 ≤ d) : wk_sn pg P (rg, wr, ct, some i, d, L, 0) sn = snE (sp_in pg i).1 (sp_in pg i).2.2 rg wr sn P := by
  have e : wk_at pg (rg, wr, ct, some i, d, L, 0) = if (sp_in pg i).1 = 2 then (if wr (sp_pl (rg (sp_rg (sp_in pg i).2.2))) = none then some (sp_pl (rg (sp_rg (sp_in pg i).2.2))) else none) else none := by
    unfold wk_at
    rw [if_pos (show sp_oc (rg, wr, ct, some i, d, L, 0) = 0 from rfl)]
    show (if 300 ≤ d then none else _) = _
    rw [if_neg h]
  unfold wk_sn snE
  rw [e]
  by_cases h2 : (sp_in pg i).1 = 2
  · rw [if_pos h2, if_pos h2]
    by_cases hw : wr (sp_pl (rg (sp_rg (sp_in pg i).2.2))) = none
    · rw [if_pos hw, if_pos hw]
    · rw [if_neg hw, if_neg hw]
  · rw [if_neg h2, if_neg h2]
theorem ag_all {ps : List Nat} {num P : Nat → Int64} (h : ∀ j, j < ps.length → num (ps.getD j 0) = P (ps.getD j 0)) : wk_ag (dm ps num) P := by
  intro p v hv
  by_cases hp : p ∈ ps
  · rw [dm, if_pos hp] at hv
    obtain ⟨j, hj, e⟩ := List.getElem_of_mem hp
    have := h j hj
    rw [List.getD_eq_getElem?_getD, List.getElem?_eq_getElem hj] at this
    simp only [Option.getD_some, e] at this
    rw [← this]
    exact Option.some.inj hv
  · rw [dm, if_neg hp] at hv
    cases hv
theorem ag_not {ps : List Nat} {num P : Nat → Int64} {j : Nat} (hj : j < ps.length) (h : ¬ num (ps.getD j 0) = P (ps.getD j 0)) : ¬ wk_ag (dm ps num) P := by
  intro q
  have hm : ps.getD j 0 ∈ ps := by
    rw [List.getD_eq_getElem?_getD, List.getElem?_eq_getElem hj]
    exact List.getElem_mem hj
  exact h (q (ps.getD j 0) (num (ps.getD j 0)) (if_pos hm)).symm
/-- what storing makes of the places, i of them done -/
def ov_i (ps : List Nat) (num P : Nat → Int64) (i : Nat) : Nat → Int64 := fun p => if p ∈ ps.take i then num p else P p
theorem ov_0 (ps : List Nat) (num P : Nat → Int64) : ov_i ps num P 0 = P := by funext p; simp [ov_i]
theorem ov_s {ps : List Nat} {num P : Nat → Int64} {i : Nat} (hi : i < ps.length) : vp_updL (ov_i ps num P i) (ps.getD i 0) (num (ps.getD i 0)) = ov_i ps num P (i + 1) := by
  funext p
  have e : ps.take (i + 1) = ps.take i ++ [ps.getD i 0] := by
    rw [List.take_succ, List.getD_eq_getElem?_getD, List.getElem?_eq_getElem hi]; rfl
  by_cases hp : p = ps.getD i 0
  · subst hp
    rw [pk_uLs, ov_i, e, if_pos (by simp)]
  · rw [pk_uLn hp, ov_i, ov_i, e]
    simp only [List.mem_append, List.mem_singleton, hp, or_false]
theorem ov_end (ps : List Nat) (num P : Nat → Int64) : ov_i ps num P ps.length = fun p => (dm ps num p).getD (P p) := by
  funext p
  by_cases hp : p ∈ ps <;> simp [ov_i, dm, hp]
theorem st_none9 {pg : Pg} {ld rg : Nat → Int64} {wr : Nat → Option Int64} {ct d L : Nat} : sp_st pg ld (rg, wr, ct, none, d, L, 0) = (rg, wr, ct, none, d, L, 1) := sp_st_none rfl rfl
theorem st_long9 {pg : Pg} {ld rg : Nat → Int64} {wr : Nat → Option Int64} {ct i d L : Nat} (h : 300 ≤ d) : sp_st pg ld (rg, wr, ct, some i, d, L, 0) = (rg, wr, ct, some i, d, L, 3) := sp_st_long (M := (rg, wr, ct, some i, d, L, 0)) rfl rfl h
theorem st_go9 {pg : Pg} {ld rg : Nat → Int64} {wr : Nat → Option Int64} {ct i d L : Nat} (h : ¬ 300 ≤ d) : sp_st pg ld (rg, wr, ct, some i, d, L, 0) = sp_ex pg.length (sp_in pg i).1 (sp_in pg i).2.1 (sp_in pg i).2.2 i ld (rg, wr, ct, some i, d, L, 0) := sp_st_go (M := (rg, wr, ct, some i, d, L, 0)) rfl rfl h
theorem sn_none9 {pg : Pg} {P rg : Nat → Int64} {wr sn : Nat → Option Int64} {ct d L : Nat} : wk_sn pg P (rg, wr, ct, none, d, L, 0) sn = sn := wk_sn_none rfl
theorem sn_long9 {pg : Pg} {P rg : Nat → Int64} {wr sn : Nat → Option Int64} {ct i d L : Nat} (h : 300 ≤ d) : wk_sn pg P (rg, wr, ct, some i, d, L, 0) sn = sn := wk_sn_long (M := (rg, wr, ct, some i, d, L, 0)) rfl h
