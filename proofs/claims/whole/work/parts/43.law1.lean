/-! ===== the reference's rows through the calls ===== -/
section LS
variable {n : Nat} {pgs : Nat → Pg} {td : Nat → Option Td} {zs os fs it tv : Nat → Int32} {ss rv : Nat → Int64}
theorem mS_tr (hM : ∀ t, t < n → zs t = nI (pgs t).length ∧ pgR (pgs t) (fun j => os (32 * t + j)) (fun j => fs (32 * t + j)) (fun j => ss (32 * t + j)) ∧ tdMo it tv rv t (td t)) :
    ∀ t, t < n + 1 → upd zs n (nI 0) t = nI (va_up pgs n [] t).length ∧ pgR (va_up pgs n [] t) (fun j => os (32 * t + j)) (fun j => fs (32 * t + j)) (fun j => ss (32 * t + j)) ∧ tdMo (upd it n 0) tv rv t (va_up td n none t) := by
  intro t ht
  by_cases h : t = n
  · subst h
    rw [pk_us, va_up_self, va_up_self]
    exact ⟨rfl, pg_nil _ _ _, pk_us⟩
  · rw [pk_un h, va_up_ne _ _ h, va_up_ne _ _ h]
    obtain ⟨a, b, c⟩ := hM t (by omega)
    refine ⟨a, b, ?_⟩
    cases hd : td t with
    | none => rw [hd] at c; show upd it n 0 t = 0; rw [pk_un h]; exact c
    | some q => rw [hd] at c; obtain ⟨c1, c2⟩ := c; exact ⟨by rw [pk_un h]; exact c1, c2⟩
theorem mS_in {op a : Nat} {b : Int64} (hM : ∀ t, t < n + 1 → zs t = nI (pgs t).length ∧ pgR (pgs t) (fun j => os (32 * t + j)) (fun j => fs (32 * t + j)) (fun j => ss (32 * t + j)) ∧ tdMo it tv rv t (td t)) (hop : op ≤ 10) (ha : a < 8) (hl : (pgs n).length < 32) :
    ∀ t, t < n + 1 → upd zs n (nI ((pgs n).length + 1)) t = nI (va_up pgs n (pgs n ++ [(op, a, b)]) t).length ∧ pgR (va_up pgs n (pgs n ++ [(op, a, b)]) t) (fun j => upd os (32 * n + (pgs n).length) (nI op) (32 * t + j)) (fun j => upd fs (32 * n + (pgs n).length) (nI a) (32 * t + j)) (fun j => vp_updL ss (32 * n + (pgs n).length) b (32 * t + j)) ∧ tdMo (upd it n 0) tv rv t (va_up td n none t) := by
  intro t ht
  by_cases h : t = n
  · subst h
    rw [pk_us, va_up_self, va_up_self]
    refine ⟨by simp, ?_, pk_us⟩
    have := pg_app (b := b) (hM t (by omega)).2.1 hl hop ha
    have e1 : (fun j => upd os (32 * t + (pgs t).length) (nI op) (32 * t + j)) = upd (fun j => os (32 * t + j)) (pgs t).length (nI op) := by
      funext j
      by_cases hj : j = (pgs t).length
      · subst hj; rw [pk_us, pk_us]
      · rw [pk_un hj, pk_un (by omega)]
    have e2 : (fun j => upd fs (32 * t + (pgs t).length) (nI a) (32 * t + j)) = upd (fun j => fs (32 * t + j)) (pgs t).length (nI a) := by
      funext j
      by_cases hj : j = (pgs t).length
      · subst hj; rw [pk_us, pk_us]
      · rw [pk_un hj, pk_un (by omega)]
    have e3 : (fun j => vp_updL ss (32 * t + (pgs t).length) b (32 * t + j)) = vp_updL (fun j => ss (32 * t + j)) (pgs t).length b := by
      funext j
      by_cases hj : j = (pgs t).length
      · subst hj; rw [pk_uLs, pk_uLs]
      · rw [pk_uLn hj, pk_uLn (by omega)]
    rw [e1, e2, e3]
    exact this
  · rw [pk_un h, va_up_ne _ _ h, va_up_ne _ _ h]
    obtain ⟨x, y, c⟩ := hM t (by omega)
    refine ⟨x, ⟨y.1, fun j hj => ?_⟩, ?_⟩
    · have hj32 : j < 32 := by have := y.1; omega
      obtain ⟨z1, z2, z3, z4, z5⟩ := y.2 j hj
      refine ⟨?_, z2, ?_, z4, ?_⟩
      · show upd os (32 * n + (pgs n).length) (nI op) (32 * t + j) = _; rw [pk_un (by omega)]; exact z1
      · show upd fs (32 * n + (pgs n).length) (nI a) (32 * t + j) = _; rw [pk_un (by omega)]; exact z3
      · show vp_updL ss (32 * n + (pgs n).length) b (32 * t + j) = _; rw [pk_uLn (by omega)]; exact z5
    · cases hd : td t with
      | none => rw [hd] at c; show upd it n 0 t = 0; rw [pk_un h]; exact c
      | some q => rw [hd] at c; obtain ⟨c1, c2⟩ := c; exact ⟨by rw [pk_un h]; exact c1, c2⟩
theorem mS_ex {td2 : Nat → Option Td} {it2 tv2 : Nat → Int32} {rv2 P : Nat → Int64} (hM : ∀ t, t < n → zs t = nI (pgs t).length ∧ pgR (pgs t) (fun j => os (32 * t + j)) (fun j => fs (32 * t + j)) (fun j => ss (32 * t + j)) ∧ tdMo it tv rv t (td t)) (h2 : ∀ t, t < n → td2 t = some (tdM (bk_M pgs P t))) (h3 : ∀ x, x < n → tdMo it2 tv2 rv2 x (some (tdM (bk_M pgs P x)))) :
    ∀ t, t < n → zs t = nI (pgs t).length ∧ pgR (pgs t) (fun j => os (32 * t + j)) (fun j => fs (32 * t + j)) (fun j => ss (32 * t + j)) ∧ tdMo it2 tv2 rv2 t (td2 t) := by
  intro t ht
  obtain ⟨a, b, -⟩ := hM t ht
  exact ⟨a, b, by rw [h2 t ht]; exact h3 t ht⟩
end LS
theorem in_cases {x : Int32} {n : Nat} {pgs : Nat → Pg} (h : ∀ t, t < n → (pgs t).length ≤ 32) : (¬ (¬ x < 0 ∧ x ≤ nI 10)) ∨ ((¬ x < 0 ∧ x ≤ nI 10) ∧ n = 0) ∨ (∃ n9 op, n = n9 + 1 ∧ op ≤ 10 ∧ x = nI op ∧ (pgs n9).length = 32) ∨ (∃ n9 op, n = n9 + 1 ∧ op ≤ 10 ∧ x = nI op ∧ (pgs n9).length < 32) := by
  by_cases h0 : ¬ x < 0 ∧ x ≤ nI 10
  · rcases Nat.eq_zero_or_pos n with hn | hn
    · exact Or.inr (Or.inl ⟨h0, hn⟩)
    · obtain ⟨op, h1, h2⟩ := op_in h0
      obtain ⟨n9, rfl⟩ : ∃ n9, n = n9 + 1 := ⟨n - 1, by omega⟩
      have := h n9 (by omega)
      rcases Nat.lt_or_ge (pgs n9).length 32 with q | q
      · exact Or.inr (Or.inr (Or.inr ⟨n9, op, rfl, h1, h2, q⟩))
      · exact Or.inr (Or.inr (Or.inl ⟨n9, op, rfl, h1, h2, by omega⟩))
  · exact Or.inl h0
theorem ix_cases {x : Int32} {n : Nat} (hn : n ≤ 64) (td : Nat → Option Td) : (¬ (¬ x < 0 ∧ ¬ nI n ≤ x)) ∨ (∃ j, j < n ∧ x = nI j ∧ td j = none) ∨ (∃ j r, j < n ∧ x = nI j ∧ td j = some r) := by
  by_cases h0 : ¬ x < 0 ∧ ¬ nI n ≤ x
  · obtain ⟨j, h1, h2⟩ := ix_in hn h0
    cases hd : td j with
    | none => exact Or.inr (Or.inl ⟨j, h1, h2, hd⟩)
    | some r => exact Or.inr (Or.inr ⟨j, r, h1, h2, hd⟩)
  · exact Or.inl h0
theorem aT_mo {it tv : Nat → Int32} {rv : Nat → Int64} {t c : Nat} {r : Td} (h : tdMo it tv rv t (some r)) (hc : c ≤ 3) : aT (some r) c = tv (4 * t + c) := by
  obtain ⟨h1, h2, h3, h4, h5, h6⟩ := h
  have hcs : c = 0 ∨ c = 1 ∨ c = 2 ∨ c = 3 := by omega
  rcases hcs with rfl | rfl | rfl | rfl
  · exact h2.symm
  · exact h3.symm
  · exact h4.symm
  · exact h5.symm
/-- how long the weave's row can be -/
def kOK (K : Nat) : Prop := K = 8 ∨ K = 16 ∨ K = 32 ∨ K = 64 ∨ K = 128 ∨ K = 256 ∨ K = 512 ∨ K = 1024 ∨ K = 2048 ∨ K = 4096
theorem kOK_8 {K : Nat} (h : kOK K) : 8 ≤ K ∧ K ≤ 4096 := by unfold kOK at h; omega
theorem kOK_h {K : Nat} (h : kOK K) (h2 : K < 4096) : 2 * K ≤ 4096 := by unfold kOK at h; omega
theorem kOK_2 {K : Nat} (h : kOK K) (h2 : K < 4096) : kOK (2 * K) := by unfold kOK at h ⊢; omega
theorem kOK_0 : kOK 8 := Or.inl rfl
theorem vbT_0 (ka : Nat → ClassId) {m : Nat} (h1 : 1 ≤ m) (h2 : m ≤ 16) : vbT ka 0 0 m (fun _ => none) (fun _ => none) (fun _ => []) (fun _ => none) (fun _ => none) [] :=
  ⟨Nat.le_refl _, by decide, h1, h2, fun _ => [], fun _ => [], by simp, fun t ht => absurd ht (Nat.not_lt_zero _), fun _ _ _ => rfl, fun _ _ => ⟨rfl, rfl⟩⟩
