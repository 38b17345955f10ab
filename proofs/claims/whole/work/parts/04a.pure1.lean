/-! ===== one transaction, done alone: the machine of eight registers ===== -/
/-- an instruction: operation, first number (modulo 8), second number -/
abbrev Pg : Type := List (Nat × Nat × Int64)
/-- registers, what it has stored, in how many places, next instruction, done, loads, outcome -/
abbrev Ms : Type := (Nat → Int64) × (Nat → Option Int64) × Nat × Option Nat × Nat × Nat × Nat
def sp_rg (b : Int64) : Nat := b.toBitVec.toNat % 8
def sp_pl (b : Int64) : Nat := b.toBitVec.toNat % 256
def sp_nx (n i : Nat) : Option Nat := if i < n then some i else none
def sp_jp (n : Nat) (b : Int64) : Option Nat := if 0 ≤ b.toInt ∧ b.toInt < n then some b.toInt.toNat else none
def sp_0 (n : Nat) : Ms := (fun _ => 0, fun _ => none, 0, sp_nx n 0, 0, 0, 0)
def sp_oc (M : Ms) : Nat := M.2.2.2.2.2.2
def sp_ls (M : Ms) : Nat := M.2.2.2.2.2.1
def sp_dn (M : Ms) : Nat := M.2.2.2.2.1
def sp_ne (M : Ms) : Option Nat := M.2.2.2.1
def sp_ct (M : Ms) : Nat := M.2.2.1
def sp_wr (M : Ms) : Nat → Option Int64 := M.2.1
/-- instruction i of n: op with a and b; ld: what the places hold -/
def sp_ex (n op a : Nat) (b : Int64) (i : Nat) (ld : Nat → Int64) (M : Ms) : Ms :=
  match M with
  | (rg, wr, ct, _, dn, ls, oc) =>
    if op = 1 then (vp_updL rg a b, wr, ct, sp_nx n (i + 1), dn + 1, ls, oc)
    else if op = 2 then (vp_updL rg a ((wr (sp_pl (rg (sp_rg b)))).getD (ld (sp_pl (rg (sp_rg b))))), wr, ct, sp_nx n (i + 1), dn + 1, ls + 1, oc)
    else if op = 3 then (rg, va_up wr (sp_pl (rg (sp_rg b))) (some (rg a)), (if wr (sp_pl (rg (sp_rg b))) = none then ct + 1 else ct), sp_nx n (i + 1), dn + 1, ls, oc)
    else if op = 4 then (vp_updL rg a (rg a + rg (sp_rg b)), wr, ct, sp_nx n (i + 1), dn + 1, ls, oc)
    else if op = 5 then (vp_updL rg a (rg a - rg (sp_rg b)), wr, ct, sp_nx n (i + 1), dn + 1, ls, oc)
    else if op = 6 then (vp_updL rg a (rg a * rg (sp_rg b)), wr, ct, sp_nx n (i + 1), dn + 1, ls, oc)
    else if op = 7 then (rg, wr, ct, (if rg a = 0 then sp_nx n (i + 1) else sp_jp n b), dn + 1, ls, oc)
    else if op = 8 then (vp_updL rg a (if rg a < rg (sp_rg b) then 1 else 0), wr, ct, sp_nx n (i + 1), dn + 1, ls, oc)
    else if op = 9 then (rg, wr, ct, sp_nx n (i + 1), dn + 1, ls, 2)
    else if op = 10 then (vp_updL rg a (rg (sp_rg b)), wr, ct, sp_nx n (i + 1), dn + 1, ls, oc)
    else (rg, wr, ct, sp_nx n (i + 1), dn + 1, ls, 1)
def sp_in (pg : Pg) (i : Nat) : Nat × Nat × Int64 := pg.getD i (0, 0, 0)
/-- one step; nothing where it has ended -/
def sp_st (pg : Pg) (ld : Nat → Int64) (M : Ms) : Ms :=
  if sp_oc M = 0 then
    match sp_ne M with
    | none => (M.1, M.2.1, M.2.2.1, M.2.2.2.1, M.2.2.2.2.1, M.2.2.2.2.2.1, 1)
    | some i => if 300 ≤ sp_dn M then (M.1, M.2.1, M.2.2.1, M.2.2.2.1, M.2.2.2.2.1, M.2.2.2.2.2.1, 3)
      else sp_ex pg.length (sp_in pg i).1 (sp_in pg i).2.1 (sp_in pg i).2.2 i ld M
  else M
def sp_run (pg : Pg) (ld : Nat → Int64) : Nat → Ms
  | 0 => sp_0 pg.length
  | k + 1 => sp_st pg ld (sp_run pg ld k)
def sp_fin (pg : Pg) (ld : Nat → Int64) : Ms := sp_run pg ld 301
theorem sp_ex_dn (n op a : Nat) (b : Int64) (i : Nat) (ld : Nat → Int64) (M : Ms) : sp_dn (sp_ex n op a b i ld M) = sp_dn M + 1 := by
  obtain ⟨rg, wr, ct, nx, dn, ls, oc⟩ := M
  unfold sp_ex sp_dn
  dsimp only
  repeat' split
  all_goals rfl
theorem sp_st_end {pg : Pg} {ld : Nat → Int64} {M : Ms} (h : sp_oc M ≠ 0) : sp_st pg ld M = M := by
  unfold sp_st; rw [if_neg h]
theorem sp_st_none {pg : Pg} {ld : Nat → Int64} {M : Ms} (h : sp_oc M = 0) (hn : sp_ne M = none) : sp_st pg ld M = (M.1, M.2.1, M.2.2.1, M.2.2.2.1, M.2.2.2.2.1, M.2.2.2.2.2.1, 1) := by
  unfold sp_st; rw [if_pos h, hn]
theorem sp_st_long {pg : Pg} {ld : Nat → Int64} {M : Ms} {i : Nat} (h : sp_oc M = 0) (hn : sp_ne M = some i) (hd : 300 ≤ sp_dn M) : sp_st pg ld M = (M.1, M.2.1, M.2.2.1, M.2.2.2.1, M.2.2.2.2.1, M.2.2.2.2.2.1, 3) := by
  unfold sp_st; rw [if_pos h, hn]; dsimp only; rw [if_pos hd]
theorem sp_st_go {pg : Pg} {ld : Nat → Int64} {M : Ms} {i : Nat} (h : sp_oc M = 0) (hn : sp_ne M = some i) (hd : ¬ 300 ≤ sp_dn M) : sp_st pg ld M = sp_ex pg.length (sp_in pg i).1 (sp_in pg i).2.1 (sp_in pg i).2.2 i ld M := by
  unfold sp_st; rw [if_pos h, hn]; dsimp only; rw [if_neg hd]
/-- while it goes on, as many are done as steps were made, at most 300 -/
theorem sp_run_dn (pg : Pg) (ld : Nat → Int64) : ∀ k, sp_oc (sp_run pg ld k) = 0 → sp_dn (sp_run pg ld k) = k ∧ k ≤ 300 := by
  intro k
  induction k with
  | zero => intro _; exact ⟨rfl, Nat.zero_le _⟩
  | succ k ih =>
    intro h
    by_cases h0 : sp_oc (sp_run pg ld k) = 0
    · obtain ⟨h1, h2⟩ := ih h0
      cases hn : sp_ne (sp_run pg ld k) with
      | none =>
        have h' : sp_oc (sp_st pg ld (sp_run pg ld k)) = 0 := h
        rw [sp_st_none h0 hn] at h'
        exact absurd h' (by simp [sp_oc])
      | some i =>
        by_cases hd : 300 ≤ sp_dn (sp_run pg ld k)
        · have h' : sp_oc (sp_st pg ld (sp_run pg ld k)) = 0 := h
          rw [sp_st_long h0 hn hd] at h'
          exact absurd h' (by simp [sp_oc])
        · refine ⟨?_, by omega⟩
          show sp_dn (sp_st pg ld (sp_run pg ld k)) = k + 1
          rw [sp_st_go h0 hn hd, sp_ex_dn, h1]
    · have h' : sp_oc (sp_st pg ld (sp_run pg ld k)) = 0 := h
      rw [sp_st_end h0] at h'
      exact absurd h' h0
theorem sp_fin_end (pg : Pg) (ld : Nat → Int64) : sp_oc (sp_fin pg ld) ≠ 0 := fun h => by
  have := (sp_run_dn pg ld 301 h).2
  omega
theorem sp_run_stay {pg : Pg} {ld : Nat → Int64} {k : Nat} (h : sp_oc (sp_run pg ld k) ≠ 0) : ∀ j, sp_run pg ld (k + j) = sp_run pg ld k := by
  intro j
  induction j with
  | zero => rfl
  | succ j ih =>
    show sp_st pg ld (sp_run pg ld (k + j)) = _
    rw [ih, sp_st_end h]
/-- where it has ended, that is its end -/
theorem sp_run_fin {pg : Pg} {ld : Nat → Int64} {k : Nat} (h : sp_oc (sp_run pg ld k) ≠ 0) : sp_run pg ld k = sp_fin pg ld := by
  by_cases hk : k ≤ 301
  · have := sp_run_stay h (301 - k)
    rw [show k + (301 - k) = 301 by omega] at this
    exact this.symm
  · have := sp_run_stay (sp_fin_end pg ld) (k - 301)
    rw [show 301 + (k - 301) = k by omega] at this
    exact this
/-! ===== a worker: it loads from what it has seen, else from the places, and keeps what it saw ===== -/
def wk_ld (sn : Nat → Option Int64) (P : Nat → Int64) : Nat → Int64 := fun p => (sn p).getD (P p)
/-- the place that the next step loads from outside, if it does -/
def wk_at (pg : Pg) (M : Ms) : Option Nat :=
  if sp_oc M = 0 then
    match sp_ne M with
    | none => none
    | some i => if 300 ≤ sp_dn M then none
      else if (sp_in pg i).1 = 2 then
        (if M.2.1 (sp_pl (M.1 (sp_rg (sp_in pg i).2.2))) = none then some (sp_pl (M.1 (sp_rg (sp_in pg i).2.2))) else none)
      else none
  else none
def wk_sn (pg : Pg) (P : Nat → Int64) (M : Ms) (sn : Nat → Option Int64) : Nat → Option Int64 :=
  match wk_at pg M with
  | none => sn
  | some p => va_up sn p (some (wk_ld sn P p))
def wk_ag (sn : Nat → Option Int64) (P : Nat → Int64) : Prop := ∀ p v, sn p = some v → P p = v
/-- a step looks at one place at most -/
theorem sp_st_ld {pg : Pg} {M : Ms} {f g : Nat → Int64} (h : ∀ p, wk_at pg M = some p → f p = g p) : sp_st pg f M = sp_st pg g M := by
  by_cases h0 : sp_oc M = 0
  · cases hn : sp_ne M with
    | none => rw [sp_st_none h0 hn, sp_st_none h0 hn]
    | some i =>
      by_cases hd : 300 ≤ sp_dn M
      · rw [sp_st_long h0 hn hd, sp_st_long h0 hn hd]
      · rw [sp_st_go h0 hn hd, sp_st_go h0 hn hd]
        by_cases h2 : (sp_in pg i).1 = 2
        · obtain ⟨rg, wr, ct, nx, dn, ls, oc⟩ := M
          by_cases hw : wr (sp_pl (rg (sp_rg (sp_in pg i).2.2))) = none
          · have := h (sp_pl (rg (sp_rg (sp_in pg i).2.2))) (by
              unfold wk_at
              rw [if_pos h0, hn]
              dsimp only
              rw [if_neg hd, if_pos h2, if_pos hw])
            unfold sp_ex
            dsimp only
            rw [h2]
            simp [hw, this]
          · obtain ⟨v, hv⟩ := Option.ne_none_iff_exists'.mp hw
            unfold sp_ex
            dsimp only
            rw [h2]
            simp [hv]
        · obtain ⟨rg, wr, ct, nx, dn, ls, oc⟩ := M
          unfold sp_ex
          dsimp only
          simp only [if_neg h2]
  · rw [sp_st_end h0, sp_st_end h0]
theorem wk_ag_sn {pg : Pg} {P Q : Nat → Int64} {M : Ms} {sn : Nat → Option Int64} (h : wk_ag (wk_sn pg P M sn) Q) : wk_ag sn Q := by
  unfold wk_sn at h
  cases hp : wk_at pg M with
  | none => rw [hp] at h; exact h
  | some p =>
    rw [hp] at h
    dsimp only at h
    intro q v hq
    by_cases hqp : q = p
    · subst hqp
      refine h q v ?_
      rw [va_up_self, wk_ld, hq]; rfl
    · exact h q v (by rw [va_up_ne _ _ hqp]; exact hq)
theorem wk_st_ag {pg : Pg} {P Q : Nat → Int64} {M : Ms} {sn : Nat → Option Int64} (h : wk_ag (wk_sn pg P M sn) Q) : sp_st pg (wk_ld sn P) M = sp_st pg Q M := by
  refine sp_st_ld (fun p hp => ?_)
  have h2 := h p (wk_ld sn P p) (by unfold wk_sn; rw [hp]; exact va_up_self _ _ _)
  exact h2.symm
/-- where the seen agrees with the places, it goes on agreeing -/
theorem wk_sn_ag {pg : Pg} {P : Nat → Int64} {M : Ms} {sn : Nat → Option Int64} (h : wk_ag sn P) : wk_ag (wk_sn pg P M sn) P := by
  unfold wk_sn
  cases hp : wk_at pg M with
  | none => exact h
  | some p =>
    dsimp only
    intro q v hq
    by_cases hqp : q = p
    · subst hqp
      rw [va_up_self, wk_ld] at hq
      cases hs : sn q with
      | none => rw [hs] at hq; exact Option.some.inj hq
      | some w => rw [hs] at hq; exact (h q w hs).trans (Option.some.inj hq)
    · rw [va_up_ne _ _ hqp] at hq
      exact h q v hq
/-- what a worker has come to: the run over any places that agree with what it saw -/
def wk_fo (pg : Pg) (M : Ms) (sn : Nat → Option Int64) : Prop := ∃ k, ∀ Q, wk_ag sn Q → M = sp_run pg Q k
theorem wk_fo_0 (pg : Pg) : wk_fo pg (sp_0 pg.length) (fun _ => none) := ⟨0, fun _ _ => rfl⟩
theorem wk_fo_st {pg : Pg} {P : Nat → Int64} {M : Ms} {sn : Nat → Option Int64} (h : wk_fo pg M sn) : wk_fo pg (sp_st pg (wk_ld sn P) M) (wk_sn pg P M sn) := by
  obtain ⟨k, hk⟩ := h
  refine ⟨k + 1, fun Q hQ => ?_⟩
  show _ = sp_st pg Q (sp_run pg Q k)
  rw [← hk Q (wk_ag_sn hQ), wk_st_ag hQ]
theorem wk_fo_fin {pg : Pg} {P : Nat → Int64} {M : Ms} {sn : Nat → Option Int64} (h : wk_fo pg M sn) (ha : wk_ag sn P) (ho : sp_oc M ≠ 0) : M = sp_fin pg P := by
  obtain ⟨k, hk⟩ := h
  have e := hk P ha
  rw [e] at ho ⊢
  exact sp_run_fin ho
