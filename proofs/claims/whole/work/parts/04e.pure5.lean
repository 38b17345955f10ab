/-! ===== a worker's cells against the machine's state ===== -/
def nxR (n : Nat) (nx : Int32) (a : Option Nat) : Prop := match a with
  | some i => i < n ∧ nx = nI i
  | none => nx = -1 ∨ nx = nI n
def pgR (pg : Pg) (ops fs : Nat → Int32) (ss : Nat → Int64) : Prop := pg.length ≤ 32 ∧ ∀ j, j < pg.length → ops j = nI (sp_in pg j).1 ∧ (sp_in pg j).1 ≤ 10 ∧ fs j = nI (sp_in pg j).2.1 ∧ (sp_in pg j).2.1 < 8 ∧ ss j = (sp_in pg j).2.2
theorem pgR_at {pg : Pg} {ops fs : Nat → Int32} {ss : Nat → Int64} (h : pgR pg ops fs ss) {i : Nat} (hi : i < pg.length) : ∃ op, ops i = nI op ∧ op ≤ 10 ∧ ∃ a, fs i = nI a ∧ a < 8 ∧ sp_in pg i = (op, a, ss i) := by
  obtain ⟨h1, h2, h3, h4, h5⟩ := h.2 i hi
  exact ⟨_, h1, h2, _, h3, h4, by rw [h5]⟩
/-- the class keeps register a as it was given: it is brought to 0 .. 7 where it is used -/
def pgC (pg : Pg) (ops fs : Nat → Int32) (ss : Nat → Int64) : Prop := pgR pg ops (fun j => nI (sp_rg (fs j).toInt64)) ss
theorem pgC_at {pg : Pg} {ops fs : Nat → Int32} {ss : Nat → Int64} (h : pgC pg ops fs ss) {i : Nat} (hi : i < pg.length) : ∃ op, ops i = nI op ∧ op ≤ 10 ∧ ∃ a, nI (sp_rg (fs i).toInt64) = nI a ∧ a < 8 ∧ sp_in pg i = (op, a, ss i) := pgR_at (show pgR pg ops (fun j => nI (sp_rg (fs j).toInt64)) ss from h) hi
/-- what the worker has seen behind an instruction -/
def snE (op : Nat) (b : Int64) (rg : Nat → Int64) (wr sn : Nat → Option Int64) (P : Nat → Int64) : Nat → Option Int64 := if op = 2 then (if wr (sp_pl (rg (sp_rg b))) = none then va_up sn (sp_pl (rg (sp_rg b))) (some (wk_ld sn P (sp_pl (rg (sp_rg b))))) else sn) else sn
theorem snE_2 (b : Int64) (rg : Nat → Int64) (wr sn : Nat → Option Int64) (P : Nat → Int64) : snE 2 b rg wr sn P = if wr (sp_pl (rg (sp_rg b))) = none then va_up sn (sp_pl (rg (sp_rg b))) (some (wk_ld sn P (sp_pl (rg (sp_rg b))))) else sn := rfl
theorem nxR_nx {n i : Nat} (h : i < n) : nxR n (nI (i + 1)) (sp_nx n (i + 1)) := by
  unfold sp_nx
  split
  · exact ⟨by assumption, rfl⟩
  · have : i + 1 = n := by omega
    exact Or.inr (by rw [this])
theorem ld_same {sn : Nat → Option Int64} {P : Nat → Int64} {p : Nat} {v : Int64} (h : sn p = some v) : va_up sn p (some (wk_ld sn P p)) = sn := by
  funext q
  by_cases hq : q = p
  · subst hq
    rw [va_up_self, h, wk_ld, h]; rfl
  · rw [va_up_ne _ _ hq]
theorem jp_no {b : Int64} {n : Nat} {r : Int32} (h : r = if 0 ≤ b.toInt ∧ b.toInt < n then 1 else 0) (c : r = 0) : sp_jp n b = none := by
  unfold sp_jp
  split
  · rename_i q
    rw [if_pos q] at h
    rw [h] at c
    exact absurd c (by decide)
  · rfl
theorem jp_yes {b : Int64} {n : Nat} {r : Int32} (h : r = if 0 ≤ b.toInt ∧ b.toInt < n then 1 else 0) (c : ¬ r = 0) : 0 ≤ b.toInt ∧ b.toInt < n := by
  by_cases q : 0 ≤ b.toInt ∧ b.toInt < n
  · exact q
  · rw [if_neg q] at h
    exact absurd h c
theorem jp_some {b : Int64} {n : Nat} (h : 0 ≤ b.toInt ∧ b.toInt < n) : sp_jp n b = some b.toInt.toNat := by unfold sp_jp; rw [if_pos h]
theorem jp_nx {b : Int64} {n : Nat} (hn : n ≤ 32) (h : 0 ≤ b.toInt ∧ b.toInt < n) : nxR n b.toInt32 (some b.toInt.toNat) := by
  refine ⟨by omega, ?_⟩
  have e : b = lN b.toInt.toNat := by
    apply Int64.toInt_inj.mp
    rw [lN_toInt (by omega)]
    omega
  rw [← lN_i, ← e]
theorem pf_7z {n a i d L ct : Nat} {b : Int64} {rg ld : Nat → Int64} {wr : Nat → Option Int64} {x : Option Nat} (h : rg a = 0) : sp_ex n 7 a b i ld (rg, wr, ct, x, d, L, 0) = (rg, wr, ct, sp_nx n (i + 1), d + 1, L, 0) := by simp [sp_ex, h]
theorem pf_7n {n a i d L ct : Nat} {b : Int64} {rg ld : Nat → Int64} {wr : Nat → Option Int64} {x y : Option Nat} (h : ¬ rg a = 0) (hj : sp_jp n b = y) : sp_ex n 7 a b i ld (rg, wr, ct, x, d, L, 0) = (rg, wr, ct, y, d + 1, L, 0) := by simp [sp_ex, h, hj]
theorem pf_8y {n a i d L ct : Nat} {b : Int64} {rg ld : Nat → Int64} {wr : Nat → Option Int64} {x : Option Nat} (h : rg a < rg (sp_rg b)) : sp_ex n 8 a b i ld (rg, wr, ct, x, d, L, 0) = (vp_updL rg a 1, wr, ct, sp_nx n (i + 1), d + 1, L, 0) := by simp [sp_ex, h]
theorem pf_8n {n a i d L ct : Nat} {b : Int64} {rg ld : Nat → Int64} {wr : Nat → Option Int64} {x : Option Nat} (h : ¬ rg a < rg (sp_rg b)) : sp_ex n 8 a b i ld (rg, wr, ct, x, d, L, 0) = (vp_updL rg a 0, wr, ct, sp_nx n (i + 1), d + 1, L, 0) := by simp [sp_ex, h]
