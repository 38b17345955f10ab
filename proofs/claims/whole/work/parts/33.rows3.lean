/-- what the reference's last loop makes of the places, p of them looked at -/
def ovM (si : Nat → Int32) (sv P : Nat → Int64) (p : Nat) : Nat → Int64 := fun x => if x < p then (mw si sv x).getD (P x) else P x
theorem ovM_0 (si : Nat → Int32) (sv P : Nat → Int64) : ovM si sv P 0 = P := by funext x; simp [ovM]
theorem ovM_T {si : Nat → Int32} {sv P : Nat → Int64} {p : Nat} (h : ¬ si p = 0) : vp_updL (ovM si sv P p) p (sv p) = ovM si sv P (p + 1) := by
  funext x
  by_cases hx : x = p
  · subst hx
    rw [pk_uLs]
    simp [ovM, mw, h]
  · rw [pk_uLn hx]
    unfold ovM
    by_cases hl : x < p
    · rw [if_pos hl, if_pos (by omega)]
    · rw [if_neg hl, if_neg (by omega)]
theorem ovM_F {si : Nat → Int32} {sv P : Nat → Int64} {p : Nat} (h : si p = 0) : ovM si sv P p = ovM si sv P (p + 1) := by
  funext x
  unfold ovM
  by_cases hx : x = p
  · subst hx
    rw [if_neg (by omega), if_pos (by omega)]
    simp [mw, h]
  · by_cases hl : x < p
    · rw [if_pos hl, if_pos (by omega)]
    · rw [if_neg hl, if_neg (by omega)]
theorem ovM_end {si : Nat → Int32} {sv P : Nat → Int64} (h : ∀ x, 256 ≤ x → si x = 0) : ovM si sv P 256 = fun x => (mw si sv x).getD (P x) := by
  funext x
  unfold ovM
  by_cases hl : x < 256
  · rw [if_pos hl]
  · rw [if_neg hl]
    simp [mw, h x (by omega)]
theorem cnS_T {si : Nat → Int32} {p : Nat} (h : ¬ si p = 0) : cnS si (p + 1) = cnS si p + 1 := by show cnS si p + (if si p = 0 then 0 else 1) = _; rw [if_neg h]
theorem cnS_F {si : Nat → Int32} {p : Nat} (h : si p = 0) : cnS si (p + 1) = cnS si p := by show cnS si p + (if si p = 0 then 0 else 1) = _; rw [if_pos h]; rfl
section AL
variable {pg : Pg} {P rg sv : Nat → Int64} {si : Nat → Int32} {a : Option Nat} {d L o : Nat}
theorem al_1 (hf : (rg, mw si sv, cnS si 256, a, d, L, o) = sp_fin pg P) : (tdM (sp_fin pg P)).1 = o ∧ (tdM (sp_fin pg P)).2.1 = d ∧ (tdM (sp_fin pg P)).2.2.1 = L ∧ (tdM (sp_fin pg P)).2.2.2.2 = (if o = 3 then 0 else rg 0) := by
  rw [← hf]
  exact ⟨rfl, rfl, rfl, rfl⟩
theorem al_y (hf : (rg, mw si sv, cnS si 256, a, d, L, 1) = sp_fin pg P) (hs : ∀ x, 256 ≤ x → si x = 0) : ovM si sv P 256 = bk_ov P (sp_fin pg P) ∧ cnS si 256 = (tdM (sp_fin pg P)).2.2.2.1 := by
  rw [← hf, ovM_end hs]
  exact ⟨rfl, rfl⟩
theorem al_n (hf : (rg, mw si sv, cnS si 256, a, d, L, o) = sp_fin pg P) (ho : ¬ o = 1) : ovM si sv P 0 = bk_ov P (sp_fin pg P) ∧ cnS si 0 = (tdM (sp_fin pg P)).2.2.2.1 := by
  rw [← hf, ovM_0]
  refine ⟨?_, ?_⟩
  · show P = if o = 1 then _ else P
    rw [if_neg ho]
  · show 0 = if o = 1 then _ else 0
    rw [if_neg ho]
end AL
theorem bk_H_y {pgs : Nat → Pg} {P : Nat → Int64} {t : Nat} (h : sp_oc (bk_M pgs P t) = 1) : nI (bk_H pgs P t) + nI 1 = nI (bk_H pgs P (t + 1)) := by
  rw [nI_add]
  show nI (bk_H pgs P t + 1) = nI (bk_H pgs P t + (if sp_oc (bk_M pgs P t) = 1 then 1 else 0))
  rw [if_pos h]
theorem bk_H_n {pgs : Nat → Pg} {P : Nat → Int64} {t : Nat} (h : ¬ sp_oc (bk_M pgs P t) = 1) : nI (bk_H pgs P t) + nI 0 = nI (bk_H pgs P (t + 1)) := by
  rw [nI_add]
  show nI (bk_H pgs P t + 0) = nI (bk_H pgs P t + (if sp_oc (bk_M pgs P t) = 1 then 1 else 0))
  rw [if_neg h]
theorem sp_run_oc (pg : Pg) (P : Nat → Int64) : sp_oc (sp_fin pg P) < 2 ^ 31 := by
  have key : ∀ (M : Ms) (f : Nat → Int64), sp_oc M ≤ 3 → sp_oc (sp_st pg f M) ≤ 3 := by
    intro M f h
    by_cases h0 : sp_oc M = 0
    · cases hn : sp_ne M with
      | none => rw [sp_st_none h0 hn]; show 1 ≤ 3; decide
      | some i =>
        by_cases hd : 300 ≤ sp_dn M
        · rw [sp_st_long h0 hn hd]; show 3 ≤ 3; decide
        · rw [sp_st_go h0 hn hd]
          obtain ⟨rg, wr, ct, nx, dn, ls, oc⟩ := M
          have h0' : oc = 0 := h0
          subst h0'
          unfold sp_ex sp_oc
          dsimp only
          repeat' split
          all_goals (dsimp only; omega)
    · rw [sp_st_end h0]; exact h
  have all : ∀ k, sp_oc (sp_run pg P k) ≤ 3 := by
    intro k
    induction k with
    | zero => show 0 ≤ 3; decide
    | succ k ih => exact key _ _ ih
  have := all 301
  show sp_oc (sp_run pg P 301) < 2 ^ 31
  omega
