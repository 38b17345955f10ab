/-! ===== the block: done one after the other ===== -/
def bk_ov (P : Nat → Int64) (M : Ms) : Nat → Int64 := if sp_oc M = 1 then fun p => (M.2.1 p).getD (P p) else P
def bk_P (pgs : Nat → Pg) (P0 : Nat → Int64) : Nat → Nat → Int64
  | 0 => P0
  | t + 1 => bk_ov (bk_P pgs P0 t) (sp_fin (pgs t) (bk_P pgs P0 t))
def bk_M (pgs : Nat → Pg) (P0 : Nat → Int64) (t : Nat) : Ms := sp_fin (pgs t) (bk_P pgs P0 t)
def bk_H (pgs : Nat → Pg) (P0 : Nat → Int64) : Nat → Nat
  | 0 => 0
  | t + 1 => bk_H pgs P0 t + (if sp_oc (bk_M pgs P0 t) = 1 then 1 else 0)
/-! ===== the block: done by m workers in any weave ===== -/
abbrev Wk : Type := Nat → Option (Nat × Ms × (Nat → Option Int64))
def ex_I (pgs : Nat → Pg) (P0 : Nat → Int64) (n m : Nat) (P : Nat → Int64) (tk st hl : Nat) (wk : Wk) : Prop :=
  st ≤ tk ∧ tk ≤ n ∧ P = bk_P pgs P0 st ∧ hl = bk_H pgs P0 st ∧
  (∀ w t M sn, w < m → wk w = some (t, M, sn) → st ≤ t ∧ t < tk ∧ wk_fo (pgs t) M sn) ∧
  (∀ t, st ≤ t → t < tk → ∃ w M sn, w < m ∧ wk w = some (t, M, sn)) ∧
  (∀ w w' t M sn M' sn', w < m → w' < m → wk w = some (t, M, sn) → wk w' = some (t, M', sn') → w = w')
section EX
variable {pgs : Nat → Pg} {P0 : Nat → Int64} {n m : Nat} {P : Nat → Int64} {tk st hl : Nat} {wk : Wk}
theorem ex_start (pgs : Nat → Pg) (P0 : Nat → Int64) (n m : Nat) {wk : Wk} (h : ∀ w, w < m → wk w = none) : ex_I pgs P0 n m P0 0 0 0 wk :=
  ⟨Nat.le_refl _, Nat.zero_le _, rfl, rfl, fun w t M sn hw e => (by rw [h w hw] at e; cases e), fun t _ h2 => absurd h2 (Nat.not_lt_zero _), fun w w' t M sn M' sn' hw hw' e => (by rw [h w hw] at e; cases e)⟩
theorem ex_take (I : ex_I pgs P0 n m P tk st hl wk) {w : Nat} (hw : w < m) (hf : wk w = none) (ht : tk < n) : ex_I pgs P0 n m P (tk + 1) st hl (va_up wk w (some (tk, sp_0 (pgs tk).length, fun _ => none))) := by
  obtain ⟨h1, h2, h3, h4, h5, h6, h7⟩ := I
  refine ⟨by omega, by omega, h3, h4, fun v t M sn hv e => ?_, fun t a b => ?_, fun v v' t M sn M' sn' hv hv' e e' => ?_⟩
  · by_cases hvw : v = w
    · subst hvw
      rw [va_up_self] at e
      cases e
      exact ⟨h1, Nat.lt_succ_self _, wk_fo_0 _⟩
    · rw [va_up_ne _ _ hvw] at e
      obtain ⟨a, b, c⟩ := h5 v t M sn hv e
      exact ⟨a, by omega, c⟩
  · by_cases htt : t = tk
    · subst htt
      exact ⟨w, _, _, hw, va_up_self _ _ _⟩
    · obtain ⟨v, M, sn, hv, e⟩ := h6 t a (by omega)
      refine ⟨v, M, sn, hv, ?_⟩
      rw [va_up_ne _ _ (fun q => by subst q; rw [hf] at e; cases e)]
      exact e
  · by_cases hvw : v = w
    · subst hvw
      rw [va_up_self] at e
      cases e
      by_cases hvv : v' = v
      · exact hvv.symm
      · rw [va_up_ne _ _ hvv] at e'
        have := (h5 v' _ _ _ hv' e').2.1
        omega
    · rw [va_up_ne _ _ hvw] at e
      by_cases hvv : v' = w
      · subst hvv
        rw [va_up_self] at e'
        cases e'
        have := (h5 v _ _ _ hv e).2.1
        omega
      · rw [va_up_ne _ _ hvv] at e'
        exact h7 v v' t M sn M' sn' hv hv' e e'
/-- a worker goes on with its own transaction, or starts it anew -/
theorem ex_go (I : ex_I pgs P0 n m P tk st hl wk) {w t : Nat} {M M' : Ms} {sn sn' : Nat → Option Int64} (hw : w < m) (hf : wk w = some (t, M, sn)) (hfo : wk_fo (pgs t) M' sn') : ex_I pgs P0 n m P tk st hl (va_up wk w (some (t, M', sn'))) := by
  obtain ⟨h1, h2, h3, h4, h5, h6, h7⟩ := I
  have key : ∀ v u N s, (va_up wk w (some (t, M', sn'))) v = some (u, N, s) → ∃ N' s', wk v = some (u, N', s') := by
    intro v u N s e
    by_cases hvw : v = w
    · subst hvw
      rw [va_up_self] at e
      cases e
      exact ⟨M, sn, hf⟩
    · rw [va_up_ne _ _ hvw] at e
      exact ⟨N, s, e⟩
  refine ⟨h1, h2, h3, h4, fun v u N s hv e => ?_, fun u a b => ?_, fun v v' u N s N' s' hv hv' e e' => ?_⟩
  · by_cases hvw : v = w
    · subst hvw
      rw [va_up_self] at e
      cases e
      obtain ⟨a, b, -⟩ := h5 v t M sn hv hf
      exact ⟨a, b, hfo⟩
    · rw [va_up_ne _ _ hvw] at e
      exact h5 v u N s hv e
  · obtain ⟨v, N, s, hv, e⟩ := h6 u a b
    by_cases hvw : v = w
    · subst hvw
      rw [hf] at e
      cases e
      exact ⟨v, M', sn', hv, va_up_self _ _ _⟩
    · exact ⟨v, N, s, hv, by rw [va_up_ne _ _ hvw]; exact e⟩
  · obtain ⟨N1, s1, e1⟩ := key v u N s e
    obtain ⟨N2, s2, e2⟩ := key v' u N' s' e'
    exact h7 v v' u _ _ _ _ hv hv' e1 e2
/-- a worker hands in the transaction that is due -/
theorem ex_hand (I : ex_I pgs P0 n m P tk st hl wk) {w : Nat} {M : Ms} {sn : Nat → Option Int64} (hw : w < m) (hf : wk w = some (st, M, sn)) (ho : sp_oc M ≠ 0) (ha : wk_ag sn P) :
    M = bk_M pgs P0 st ∧ ex_I pgs P0 n m (bk_ov P M) tk (st + 1) (hl + (if sp_oc M = 1 then 1 else 0)) (va_up wk w none) := by
  obtain ⟨h1, h2, h3, h4, h5, h6, h7⟩ := I
  obtain ⟨a, b, c⟩ := h5 w st M sn hw hf
  have hM : M = bk_M pgs P0 st := by
    have := wk_fo_fin c ha ho
    rw [h3] at this
    exact this
  refine ⟨hM, by omega, h2, ?_, ?_, fun v t N s hv e => ?_, fun t x y => ?_, fun v v' t N s N' s' hv hv' e e' => ?_⟩
  · rw [hM, h3]; rfl
  · rw [hM, h4]; rfl
  · by_cases hvw : v = w
    · subst hvw
      rw [va_up_self] at e
      cases e
    · rw [va_up_ne _ _ hvw] at e
      obtain ⟨x, y, z⟩ := h5 v t N s hv e
      refine ⟨?_, y, z⟩
      rcases Nat.lt_or_ge st t with q | q
      · exact q
      · have : t = st := by omega
        subst this
        exact absurd (h7 v w t N s M sn hv hw e hf) hvw
  · obtain ⟨v, N, s, hv, e⟩ := h6 t (by omega) y
    refine ⟨v, N, s, hv, ?_⟩
    rw [va_up_ne _ _ (fun q => by subst q; rw [hf] at e; cases e; omega)]
    exact e
  · by_cases hvw : v = w
    · subst hvw; rw [va_up_self] at e; cases e
    · by_cases hvv : v' = w
      · subst hvv; rw [va_up_self] at e'; cases e'
      · rw [va_up_ne _ _ hvw] at e
        rw [va_up_ne _ _ hvv] at e'
        exact h7 v v' t N s N' s' hv hv' e e'
end EX
/-! ===== how long a worker can go on before it hands in ===== -/
def rk_r (M : Ms) : Nat := if sp_oc M = 0 then 302 - sp_dn M else 1
/-- r steps are enough for a worker whose transaction is due -/
def rk_B (P : Nat → Int64) (M : Ms) (sn : Nat → Option Int64) (r : Nat) : Prop := (wk_ag sn P → rk_r M ≤ r) ∧ (¬ wk_ag sn P → rk_r M + 303 ≤ r)
theorem wk_fo_dn {pg : Pg} {M : Ms} {sn : Nat → Option Int64} (h : wk_fo pg M sn) (ho : sp_oc M = 0) : sp_dn M ≤ 300 := by
  obtain ⟨k, hk⟩ := h
  have e := hk (fun p => (sn p).getD 0) (fun p v hv => by simp [hv])
  rw [e] at ho ⊢
  obtain ⟨a, b⟩ := sp_run_dn _ _ k ho
  omega
theorem rk_r_pos {pg : Pg} {M : Ms} {sn : Nat → Option Int64} (h : wk_fo pg M sn) : 1 ≤ rk_r M := by
  unfold rk_r
  split
  · have := wk_fo_dn h (by assumption)
    omega
  · exact Nat.le_refl _
theorem rk_r_le (M : Ms) : rk_r M ≤ 302 := by
  unfold rk_r
  split <;> omega
theorem rk_any (P : Nat → Int64) (M : Ms) (sn : Nat → Option Int64) : rk_B P M sn 605 := ⟨fun _ => by have := rk_r_le M; omega, fun _ => by have := rk_r_le M; omega⟩
theorem rk_0 (P : Nat → Int64) (n : Nat) : rk_B P (sp_0 n) (fun _ => none) 302 := ⟨fun _ => rk_r_le _, fun h => absurd (fun p v hv => by cases hv) h⟩
theorem rk_st {pg : Pg} {P : Nat → Int64} {M : Ms} {sn : Nat → Option Int64} {r : Nat} (hf : wk_fo pg M sn) (ho : sp_oc M = 0) (h : rk_B P M sn (r + 1)) : rk_B P (sp_st pg (wk_ld sn P) M) (wk_sn pg P M sn) r := by
  have hlt : rk_r (sp_st pg (wk_ld sn P) M) + 1 ≤ rk_r M := by
    have hdn := wk_fo_dn hf ho
    have hr : rk_r M = 302 - sp_dn M := by unfold rk_r; rw [if_pos ho]
    by_cases ho2 : sp_oc (sp_st pg (wk_ld sn P) M) = 0
    · have hr2 : rk_r (sp_st pg (wk_ld sn P) M) = 302 - sp_dn (sp_st pg (wk_ld sn P) M) := by unfold rk_r; rw [if_pos ho2]
      have hd2 := wk_fo_dn (wk_fo_st (P := P) hf) ho2
      have hd3 : sp_dn (sp_st pg (wk_ld sn P) M) = sp_dn M + 1 := by
        cases hn : sp_ne M with
        | none => rw [sp_st_none ho hn] at ho2; exact absurd ho2 (by simp [sp_oc])
        | some i =>
          by_cases hd : 300 ≤ sp_dn M
          · rw [sp_st_long ho hn hd] at ho2; exact absurd ho2 (by simp [sp_oc])
          · rw [sp_st_go ho hn hd, sp_ex_dn]
      omega
    · have hr2 : rk_r (sp_st pg (wk_ld sn P) M) = 1 := by unfold rk_r; rw [if_neg ho2]
      omega
  refine ⟨fun ha => ?_, fun ha => ?_⟩
  · by_cases hb : wk_ag sn P
    · have := h.1 hb; omega
    · have := h.2 hb; omega
  · by_cases hb : wk_ag sn P
    · exact absurd (wk_sn_ag hb) ha
    · have := h.2 hb; omega
theorem rk_anew {P : Nat → Int64} {M : Ms} {sn : Nat → Option Int64} {r n : Nat} (ho : sp_oc M ≠ 0) (ha : ¬ wk_ag sn P) (h : rk_B P M sn (r + 1)) : rk_B P (sp_0 n) (fun _ => none) r := by
  have h1 : rk_r M = 1 := by unfold rk_r; rw [if_neg ho]
  have h2 := h.2 ha
  refine ⟨fun _ => ?_, fun h => absurd (fun p v hv => by cases hv) h⟩
  have := rk_r_le (sp_0 n)
  omega
theorem rk_pos {pg : Pg} {P : Nat → Int64} {M : Ms} {sn : Nat → Option Int64} {r : Nat} (hf : wk_fo pg M sn) (h : rk_B P M sn r) : 1 ≤ r := by
  have := rk_r_pos hf
  by_cases hb : wk_ag sn P
  · have := h.1 hb; omega
  · have := h.2 hb; omega
