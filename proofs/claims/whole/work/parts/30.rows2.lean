section MB
variable {p : Program} {l : Launch} {e : Env} {R : Room} {s : State} {m : MethodId} {args : Array Value} {below : List Frame} {meth : Method} {c : Code} {H : Heap} {locs : List Loc} {cells slots : Nat} {Q : State → Prop}
variable {cc : ByteArray} {pc : Nat} {ls : Array Slot} {rest : List Value} {D : va_G} {cl : List vw_C} {A : Nat → Prop} {a : Nat} {tys : List (ClassId × FieldType)} {ws : va_W} {H0 : Heap}
theorem my_bald (hx : p.tables.exec = Jvm.exec) (hb : c.code = cc) (hK : va_K D cl tys s) (hP : va_P D cl ws H) (q0 t0 : Nat) {cA : ClassId} {n : Nat} {f : Nat → Int32} (ha : ws[q0]? = some (a, .inl (cA, n, .inl f))) (ht : tys[t0]? = some (cA, .byte)) {k : Nat} (hk : k < n) (hn : n < 2 ^ 31) (hdg : decode cc pc = .ok (.baload, 1))
    (kk : W p l e R s m args below meth c H locs cells slots Q (F0 m (pc + 1) ls (.int (f k) :: rest))) : W p l e R s m args below meth c H locs cells slots Q (F0 m pc ls (.int (nI k) :: .ref a :: rest)) := by
  refine va_bald hx hb hK hP q0 t0 ha ht (vp_in_nI hk hn) hdg ?_
  rw [nI_clamp (Nat.lt_trans hk hn)]
  exact kk
theorem my_bast (hx : p.tables.exec = Jvm.exec) (hb : c.code = cc) (hK : va_K D cl tys s) (hP : va_P D cl ws H) (hD : va_D A ws) (hS : va_S A H0 H locs) (q0 t0 : Nat) {cA : ClassId} {n : Nat} {f : Nat → Int32} (ha : ws[q0]? = some (a, .inl (cA, n, .inl f))) (ht : tys[t0]? = some (cA, .byte)) {k : Nat} {x : Int32} (hk : k < n) (hn : n < 2 ^ 31) (hxn : vp_nar .byte x = x) (hdg : decode cc pc = .ok (.bastore, 1))
    (kk : ∀ (H1 : Heap) (locs1 : List Loc), va_P D cl (ws.set q0 (a, .inl (cA, n, .inl (upd f k x)))) H1 → va_D A (ws.set q0 (a, .inl (cA, n, .inl (upd f k x)))) → va_S A H0 H1 locs1 → W p l e R s m args below meth c H1 locs1 cells slots Q (F0 m (pc + 1) ls rest)) : W p l e R s m args below meth c H locs cells slots Q (F0 m pc ls (.int x :: .int (nI k) :: .ref a :: rest)) := by
  refine va_bast hx hb hK hP hD hS q0 t0 ha ht (vp_in_nI hk hn) hdg ?_
  rw [nI_clamp (Nat.lt_trans hk hn), hxn]
  exact kk
end MB
theorem my_congI {D : va_G} {cl : List vw_C} {ws : va_W} {H : Heap} (hP : va_P D cl ws H) (q : Nat) {a : Nat} {cA : ClassId} {n : Nat} {f g : Nat → Int32} (ha : ws[q]? = some (a, .inl (cA, n, .inl f))) (h : ∀ j, j < n → f j = g j) : va_P D cl (ws.set q (a, .inl (cA, n, .inl g))) H := by
  intro k x hk
  by_cases hkq : k = q
  · subst hkq
    rw [List.getElem?_set_self (List.getElem?_eq_some_iff.mp ha).1] at hk
    cases hk
    have h0 : H[a]? = some (vp_cell cA (n, .inl f)) := hP k _ ha
    show H[a]? = some (vp_cell cA (n, .inl g))
    rw [h0, vp_cell_i, vp_cell_i, my_arrV (fun j hj => by rw [h j hj])]
  · rw [List.getElem?_set_ne (Ne.symm hkq)] at hk
    exact hP k x hk
theorem fi_s {g : Nat → Int32} {v : Int32} {i : Nat} (h : ∀ j, j < i → g j = v) : ∀ j, j < i + 1 → upd g i v j = v := by
  intro j hj
  by_cases hji : j = i
  · subst hji; rw [pk_us]
  · rw [pk_un hji]; exact h j (by omega)
theorem op_b : ∀ op, op < 11 → (nI op).toInt8.toInt32 = nI op ∧ vp_nar .byte (nI op) = nI op := by decide +kernel
/-! ===== the reference's numbers ===== -/
theorem sp_rg_fm (x : Int64) : (x.toInt % ((8 : Nat) : Int)).toNat = sp_rg x := by
  have e : x.toInt = x.toBitVec.toInt := rfl
  unfold sp_rg
  rw [e, BitVec.toInt_eq_toNat_cond]
  have := x.toBitVec.isLt
  split <;> omega
theorem sp_pl_fm (x : Int64) : (x.toInt % ((256 : Nat) : Int)).toNat = sp_pl x := by
  have e : x.toInt = x.toBitVec.toInt := rfl
  unfold sp_pl
  rw [e, BitVec.toInt_eq_toNat_cond]
  have := x.toBitVec.isLt
  split <;> omega
theorem sp_rg_fi (x : Int32) : (x.toInt % ((8 : Nat) : Int)).toNat = sp_rg x.toInt64 := by
  rw [← sp_rg_fm, i32_l]
/-- what is stored, by the reference's two rows -/
def mw (si : Nat → Int32) (sv : Nat → Int64) : Nat → Option Int64 := fun p => if si p = 0 then none else some (sv p)
def cnS (si : Nat → Int32) : Nat → Nat
  | 0 => 0
  | p + 1 => cnS si p + (if si p = 0 then 0 else 1)
theorem mw_up (si : Nat → Int32) (sv : Nat → Int64) (p : Nat) (v : Int64) : mw (upd si p 1) (vp_updL sv p v) = va_up (mw si sv) p (some v) := by
  funext q
  by_cases h : q = p
  · subst h; simp [mw, upd, vp_updL, va_up]
  · simp [mw, upd, vp_updL, va_up, h]
theorem cnS_ge {si : Nat → Int32} {p : Nat} {v : Int32} : ∀ m, m ≤ p → cnS (upd si p v) m = cnS si m := by
  intro m
  induction m with
  | zero => intro _; rfl
  | succ m ih =>
    intro h
    show cnS (upd si p v) m + (if upd si p v m = 0 then 0 else 1) = cnS si m + (if si m = 0 then 0 else 1)
    rw [ih (by omega), pk_un (by omega)]
theorem cnS_up {si : Nat → Int32} {p : Nat} : ∀ m, p < m → cnS (upd si p 1) m = if si p = 0 then cnS si m + 1 else cnS si m := by
  intro m
  induction m with
  | zero => intro h; omega
  | succ m ih =>
    intro h
    show cnS (upd si p 1) m + (if upd si p 1 m = 0 then 0 else 1) = if si p = 0 then cnS si m + (if si m = 0 then 0 else 1) + 1 else cnS si m + (if si m = 0 then 0 else 1)
    by_cases hp : p = m
    · subst hp
      rw [cnS_ge p (Nat.le_refl _), pk_us, if_neg (by decide)]
      split <;> omega
    · rw [ih (by omega), pk_un (fun q => hp q.symm)]
      split <;> split <;> omega
theorem cnS_upw {si : Nat → Int32} {sv : Nat → Int64} {p : Nat} (hp : p < 256) : cnS (upd si p 1) 256 = if mw si sv p = none then cnS si 256 + 1 else cnS si 256 := by
  rw [cnS_up 256 hp]
  by_cases h : si p = 0
  · rw [if_pos h, if_pos (by simp [mw, h])]
  · rw [if_neg h, if_neg (by simp [mw, h])]
theorem mw_0 (sv : Nat → Int64) : mw (fun _ => 0) sv = fun _ => none := by funext p; simp [mw]
theorem cnS_0 : ∀ m, cnS (fun _ => 0) m = 0 := by
  intro m
  induction m with
  | zero => rfl
  | succ m ih => show cnS (fun _ => 0) m + (if (0 : Int32) = 0 then 0 else 1) = 0; rw [ih]; rfl
/-- the next instruction, as the reference has it -/
def nxM (n : Nat) (nx : Int32) (a : Option Nat) : Prop := match a with
  | some i => i < n ∧ nx = nI i
  | none => ∃ k, n ≤ k ∧ k ≤ 32 ∧ nx = nI k
theorem nxM_nx {n i : Nat} (hn : n ≤ 32) (h : i < n) : nxM n (nI (i + 1)) (sp_nx n (i + 1)) := by
  unfold sp_nx
  split
  · exact ⟨by assumption, rfl⟩
  · exact ⟨i + 1, by omega, by omega, rfl⟩
theorem nxM_0 (n : Nat) : nxM n (nI 0) (sp_nx n 0) := by
  unfold sp_nx
  split
  · exact ⟨by assumption, rfl⟩
  · exact ⟨0, by omega, by omega, rfl⟩
theorem nxM_jneg {n : Nat} {b : Int64} (hn : n ≤ 32) (c : lg_cmp b 0 < 0) : nxM n (nI 32) (sp_jp n b) := by
  have h := Int64.lt_iff_toInt_lt.mp ((lg_cmp_lt b 0).mp c)
  rw [lg_i0] at h
  unfold sp_jp
  rw [if_neg (fun q => by omega)]
  exact ⟨32, hn, Nat.le_refl _, rfl⟩
theorem nxM_jbig {n : Nat} {b : Int64} (hn : n ≤ 32) (c : ¬ lg_cmp b 32 ≤ 0) : nxM n (nI 32) (sp_jp n b) := by
  have h : ¬ b ≤ 32 := fun q => c ((lg_cmp_le b 32).mpr q)
  rw [Int64.le_iff_toInt_le, lg_i32] at h
  unfold sp_jp
  rw [if_neg (fun q => by omega)]
  exact ⟨32, hn, Nat.le_refl _, rfl⟩
theorem nxM_jin {n : Nat} {b : Int64} (hn : n ≤ 32) (c : ¬ lg_cmp b 0 < 0) (c2 : lg_cmp b 32 ≤ 0) : nxM n b.toInt32 (sp_jp n b) := by
  have h : ¬ b < 0 := fun q => c ((lg_cmp_lt b 0).mpr q)
  have h2 := Int64.le_iff_toInt_le.mp ((lg_cmp_le b 32).mp c2)
  rw [Int64.lt_iff_toInt_lt, lg_i0] at h
  rw [lg_i32] at h2
  have e : b = lN b.toInt.toNat := by
    apply Int64.toInt_inj.mp
    rw [lN_toInt (by omega)]
    omega
  have e2 : b.toInt32 = nI b.toInt.toNat := by rw [← lN_i, ← e]
  rw [e2]
  unfold sp_jp
  split
  · exact ⟨by omega, rfl⟩
  · exact ⟨b.toInt.toNat, by omega, by omega, rfl⟩
theorem nxM_lt {n : Nat} {nx : Int32} {a : Option Nat} (hn : n ≤ 32) (h : nxM n nx a) (c : nx < nI n) : ∃ i, a = some i ∧ i < n ∧ nx = nI i := by
  cases a with
  | some i => exact ⟨i, rfl, h.1, h.2⟩
  | none =>
    obtain ⟨k, h1, h2, rfl⟩ := h
    exact absurd c (nI_nlt h1 (by omega))
theorem nxM_ge {n : Nat} {nx : Int32} {a : Option Nat} (hn : n ≤ 32) (h : nxM n nx a) (c : ¬ nx < nI n) : a = none := by
  cases a with
  | none => rfl
  | some i =>
    obtain ⟨h1, rfl⟩ := h
    exact absurd (nI_lt h1 (by omega)) c
/-- what the reference keeps of what is told -/
def tdMo (it tv : Nat → Int32) (rv : Nat → Int64) (t : Nat) (td : Option Td) : Prop := match td with
  | none => it t = 0
  | some q => it t = 1 ∧ tv (4 * t) = nI q.1 ∧ tv (4 * t + 1) = nI q.2.1 ∧ tv (4 * t + 2) = nI q.2.2.1 ∧ tv (4 * t + 3) = nI q.2.2.2.1 ∧ rv t = q.2.2.2.2
def tvU (tv : Nat → Int32) (t : Nat) (q : Td) : Nat → Int32 := upd (upd (upd (upd tv (4 * t) (nI q.1)) (4 * t + 1) (nI q.2.1)) (4 * t + 2) (nI q.2.2.1)) (4 * t + 3) (nI q.2.2.2.1)
theorem tdMo_new (it tv : Nat → Int32) (rv : Nat → Int64) (t : Nat) (q : Td) : tdMo (upd it t 1) (tvU tv t q) (vp_updL rv t q.2.2.2.2) t (some q) := by
  refine ⟨pk_us, ?_, ?_, ?_, ?_, pk_uLs⟩
  · unfold tvU; rw [pk_un (by omega), pk_un (by omega), pk_un (by omega), pk_us]
  · unfold tvU; rw [pk_un (by omega), pk_un (by omega), pk_us]
  · unfold tvU; rw [pk_un (by omega), pk_us]
  · unfold tvU; rw [pk_us]
theorem tdMo_old {it tv : Nat → Int32} {rv : Nat → Int64} {t t' : Nat} {q : Td} {v : Int32} {w : Int64} {td : Option Td} (h : t' ≠ t) (hd : tdMo it tv rv t' td) : tdMo (upd it t v) (tvU tv t q) (vp_updL rv t w) t' td := by
  have e : ∀ c, c < 4 → tvU tv t q (4 * t' + c) = tv (4 * t' + c) := by
    intro c hc
    unfold tvU
    rw [pk_un (by omega), pk_un (by omega), pk_un (by omega), pk_un (by omega)]
  cases td with
  | none => show upd it t v t' = 0; rw [pk_un h]; exact hd
  | some r =>
    obtain ⟨h1, h2, h3, h4, h5, h6⟩ := hd
    exact ⟨by rw [pk_un h]; exact h1, (e 0 (by omega)).trans h2, (e 1 (by omega)).trans h3, (e 2 (by omega)).trans h4, (e 3 (by omega)).trans h5, by rw [pk_uLn h]; exact h6⟩
