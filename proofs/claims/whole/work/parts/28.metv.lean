/-! ===== contracts that say how much they made only at their end ===== -/
def MetV (l : Launch) (y : MethodName) (ws : List Cond) (rm : Room) (Pc : Array Value → State → Prop) (Qc : Nat → Nat → Array Value → State → Outcome → State → Prop) (free : Addr → Prop) : Prop :=
  MetFree l y (headSpec ws rm) Pc (fun _ _ _ _ _ => True) (fun a st o t => ∃ k n, Qc k n a st o t ∧ ∃ L, FrameEnd st o t L k n ∧ ∀ q ∈ L, free q.base)
def MQV (below : List Frame) (Qc : Nat → Nat → Array Value → State → Outcome → State → Prop) (a : Array Value) (s : State) (free : Addr → Prop) : State → Prop := fun t =>
  ∃ k n o, t.status = .running ∧ Ended t below o ∧ Qc k n a s o t ∧ ∃ L, FrameEnd s o t L k n ∧ ∀ q ∈ L, free q.base
theorem metv_ofW {l : Launch} {y : MethodName} {ws ws' : List Cond} {rm : Room} {Pc : Array Value → State → Prop} {Qc : Nat → Nat → Array Value → State → Outcome → State → Prop} {free : Addr → Prop} {cc : ByteArray} {maxL : Nat} {ret : Option FieldType}
    (hy : plainName y.cls = true) (hw : ws = Cond.code y cc maxL ret :: ws')
    (body : ∀ p e s m args below meth c s₁, BodyLoose p l y (headSpec ws rm) cc maxL ret e s m args below meth c s₁ → c.maxLocals = maxL → Pc args s →
      W p l e (headSpec ws rm).room s m args below meth c s.heap [] 0 0 (MQV below Qc args s free) (entryFrame m args maxL)) : MetV l y ws rm Pc Qc free := by
  refine MetFree.of_bodyS (code := cc) (maxLocals := maxL) (ret := ret) hy ?_ ?_
  · intro args s m h hn
    obtain ⟨meth, c, h1, h2, h3, h4, h5, h6, -, -⟩ := Cond.code_spec hn (atoms_spec (ws := ws) h _ (by rw [hw]; exact List.mem_cons_self))
    exact ⟨meth, c, h1, h2, h3, h4, h5, h6⟩
  · intro p e s m args below meth c s₁ B hml hP _
    have hh0 : s₁.heap = s.heap := by rw [B.state]; rfl
    obtain ⟨t, a1, k, n, o, b1, b2, b3⟩ := body p e s m args below meth c s₁ B hml hP s₁ hh0 (Stand.of_body B)
    exact ⟨t, o, a1, b1, b2, ⟨k, n, b3⟩⟩
section MV
variable {p : Program} {l : Launch} {e : Env} {R : Room} {s : State} {m : MethodId} {args : Array Value} {below : List Frame} {meth : Method} {c : Code} {H : Heap} {locs : List Loc} {cells slots : Nat} {Q : State → Prop}
theorem mqv_ret {Qc : Nat → Nat → Array Value → State → Outcome → State → Prop} {free : Addr → Prop} {a : Array Value} {g : JFrame} (k n : Nat) (h : W p l e R s m args below meth c H locs cells slots (MQ below (Qc k n) a s k n free) g) : W p l e R s m args below meth c H locs cells slots (MQV below Qc a s free) g := by
  intro T hT X
  obtain ⟨t, a1, o, b1, b2, b3⟩ := h T hT X
  exact ⟨t, a1, k, n, o, b1, b2, b3⟩
variable {y : MethodName} {bytes cc : ByteArray} {maxL nL n index : Nat} {ret : Option FieldType} {ws : List Cond} {rm : Room} {Pc : Array Value → State → Prop} {free : Addr → Prop} {Ts : List Cond} {own C : String} {b : Addr} {As rest : List Value}
variable {pc : Nat} {ls : Array Slot} {st0 : List Value} {A0 A1 : Nat → Prop} {H0 : Heap} {mc ms : Nat}
/-- a call of such a method, its answer an int -/
theorem metv_calli {S : Type} {post : Nat → Nat → Int32 → S → Prop} {B : Nat → Nat → S → State → Prop} (F : CallFix p m c cc nL s args Ts own) (hM : MetV l y ws rm Pc (fun k n => va_Qi (post k n) (B k n) A1) free) (cw : CallW R s args own C index y bytes maxL ret ws rm mc ms n) (hp : PreV s H C b Pc As)
    (hn : As.length = n) (hsize : ls.size = nL) (hstack : st0 = As.reverse ++ .ref b :: rest) (hW : 2 * (F0 m pc ls st0).monitorRoom + (rest.map fun v => v.category).sum ≤ 8) (hdg : decode cc pc = .ok (.invokevirtual index, 3)) (hf : cells + mc ≤ R.cells ∧ slots + ms ≤ R.slots)
    (hS : va_S A0 H0 H locs) (hA : ∀ q, q < H.size → A1 q → A0 q) (hfr : ∀ q, free q → A0 q)
    (kk : ∀ (k k2 : Nat) (r : Int32) (u : S) (t : State) (H1 : Heap) (locs1 : List Loc), t.heap = H1 → s.vm.Alike t.vm → post k k2 r u → B k k2 u t → H.size ≤ H1.size → (∀ q : Nat, q < H.size → ¬ A1 q → H1[q]? = H[q]?) → va_S A0 H0 H1 locs1 → W p l e R s m args below meth c H1 locs1 (cells + k) (slots + k2) Q (F0 m (pc + 3) ls (.int r :: rest))) : W p l e R s m args below meth c H locs cells slots Q (F0 m pc ls st0) := by
  obtain ⟨⟨hrc, hrs, hfm, hlo, hws, hcw, hcode, hini, hy, hlen, hl⟩, hin, hse⟩ := cw
  have hK : Back l R p e below s args y 3 8 (PreOf R mc ms Pc) (fun A a v B0 => ∃ (g : JFrame) (mk : MethodId) (t : State) (L : List Loc) (k k2 : Nat), B0.U.heap = t.heap ∧ B0.U.vm = t.vm ∧ va_Qi (post k k2) (B k k2) A1 a (A.U.calling g mk a) (.returned v) t ∧ B0.locs = A.locs ++ L ∧ (∀ q ∈ L, free q.base) ∧ B0.cells = A.cells + k ∧ B0.slots = A.slots + k2) := by
    refine Back.of_free (S := headSpec ws rm) (P := Pc) (K := fun _ _ _ _ _ => True) (Q := fun a st o t => ∃ k n, va_Qi (post k n) (B k n) A1 a st o t ∧ ∃ L, FrameEnd st o t L k n ∧ ∀ q ∈ L, free q.base) (bytes := bytes) (maxL := maxL) (ret := ret)
      (E := fun a st o t L k n => va_Qi (post k n) (B k n) A1 a st o t ∧ ∀ q ∈ L, free q.base) hM hfm hlo ?_ ?_ (fun _ _ _ _ _ _ _ _ _ => trivial) ?_ ?_
    · intro m meth c A a X hp
      exact ⟨atoms_intro fun w hw => hws w hw _ _ X.warmed, hws _ hcw _ _ X.warmed, word_at X.warmed (Or.inl (by first | rfl | simp [Cond.onTables, Cond.keeps, Cond.steady])) hini, by rw [show (headSpec ws rm).room.cells = mc from hrc]; exact hp.1, by rw [show (headSpec ws rm).room.slots = ms from hrs]; exact hp.2.1⟩
    · intro m meth c A a g mk X hp'
      exact hp.1 _ _ _ _ hp'.2.2
    · intro a st o t ⟨k, n, hq, L, hF, hL⟩
      exact ⟨L, k, n, hF, hq, hL⟩
    · intro m meth c A a g mk v t L k n X hp hq hF ⟨e1, hL⟩
      exact ⟨g, mk, t, L, k, n, rfl, rfl, e1, rfl, hL, rfl, rfl⟩
  obtain ⟨hx, hb, hml, ho, -⟩ := F
  obtain ⟨-, ⟨cellB, hcB, hoB, hclB⟩, hPc⟩ := hp
  intro T hT X
  obtain ⟨v, vm₁, ⟨U', l2, c2, s2⟩, hW₁, X', ⟨g', mk, t, L, k, k2, e1, e2, hq, h1, hL, h2, h3⟩, st⟩ := callV X hx (C := C) (bytes := bytes) (maxL := maxL) (ret := ret) ho hl hin hse hcode hy hK (by rw [hT]; exact hcB) hoB hclB (g := F0 m pc ls st0) rfl (hsize.trans hml.symm) (argsL := As) (rest := rest) (fun sig h => hn.trans (hlen sig h)) hstack hW (by rw [hb]; exact hdg)
    (fun vm₁ hW₁ => ⟨hf.1, hf.2, hPc (T.setVm vm₁) hT hW₁⟩)
  dsimp only [Pt.U, Pt.locs, Pt.cells, Pt.slots] at X' e1 e2 h1 h2 h3 st
  subst h1; subst h2; subst h3
  obtain ⟨⟨r, u, hv, hpo, hBu⟩, hz, hk⟩ := hq
  cases hv
  have hz' : H.size ≤ t.heap.size := by rw [← hT]; exact hz
  have hk' : ∀ q : Nat, q < H.size → ¬ A1 q → t.heap[q]? = H[q]? := fun q q1 q2 => by rw [← hT] at q1 ⊢; exact hk q q1 q2
  obtain ⟨t2, a1, b1⟩ := kk k k2 r u t U'.heap (locs ++ L) e1.symm (by rw [← e2]; exact X'.warmed.alike) hpo hBu (by rw [e1]; exact hz') (fun q q1 q2 => by rw [e1]; exact hk' q q1 q2)
    ⟨Nat.le_trans hS.1 (by rw [e1]; exact hz'), fun q q1 q2 => by rw [e1, hk' q (Nat.lt_of_lt_of_le q1 hS.1) (fun z => q2 (hA q (Nat.lt_of_lt_of_le q1 hS.1) z))]; exact hS.2.1 q q1 q2, fun q hq => by
      rcases List.mem_append.mp hq with h | h
      · exact hS.2.2 q h
      · exact hfr _ (hL q h)⟩ U' rfl X'
  exact ⟨t2, st t2 a1, b1⟩
end MV
/-! ===== how many workers have been made ===== -/
def mkC (wf : Nat → Option Nat) : Nat → Nat
  | 0 => 0
  | m + 1 => mkC wf m + (if wf m = none then 0 else 1)
theorem mkC_le (wf : Nat → Option Nat) : ∀ m, mkC wf m ≤ m := by
  intro m
  induction m with
  | zero => exact Nat.le_refl _
  | succ m ih =>
    show mkC wf m + (if wf m = none then 0 else 1) ≤ m + 1
    split <;> omega
theorem mkC_ge {wf : Nat → Option Nat} {k w : Nat} : ∀ m, m ≤ k → mkC (va_up wf k (some w)) m = mkC wf m := by
  intro m
  induction m with
  | zero => intro _; rfl
  | succ m ih =>
    intro h
    show mkC (va_up wf k (some w)) m + (if va_up wf k (some w) m = none then 0 else 1) = mkC wf m + (if wf m = none then 0 else 1)
    rw [ih (by omega), va_up_ne _ _ (by omega)]
theorem mkC_up {wf : Nat → Option Nat} {k w : Nat} (hn : wf k = none) : ∀ m, k < m → mkC (va_up wf k (some w)) m = mkC wf m + 1 := by
  intro m
  induction m with
  | zero => intro h; omega
  | succ m ih =>
    intro h
    show mkC (va_up wf k (some w)) m + (if va_up wf k (some w) m = none then 0 else 1) = mkC wf m + (if wf m = none then 0 else 1) + 1
    by_cases hk : k = m
    · subst hk
      rw [mkC_ge k (Nat.le_refl _), va_up_self, hn]
      simp
    · rw [ih (by omega), va_up_ne _ _ (fun q => hk q.symm)]
      omega
theorem mkC_lt {wf : Nat → Option Nat} {k m : Nat} (hn : wf k = none) (hk : k < m) : mkC wf m < m := by
  have h1 := mkC_up (w := 0) hn m hk
  have h2 := mkC_le (va_up wf k (some 0)) m
  omega
/-! ===== the turns behind the weave ===== -/
def trn (n m i tk sl : Nat) (wk : Wk) : Prop := ∃ d, d < m ∧ i + (n - sl) * m + d ≤ 1100 ∧ (sl < n → tk = sl ∨ ∃ M sn, wk ((i + d) % m) = some (sl, M, sn))
theorem tr_find {m i w : Nat} (hw : w < m) : ∃ d, d < m ∧ (i + d) % m = w := by
  have hi := Nat.mod_lt i (show 0 < m by omega)
  rcases Nat.lt_or_ge w (i % m) with h | h
  · refine ⟨w + m - i % m, by omega, ?_⟩
    have e := Nat.div_add_mod i m
    have : i + (w + m - i % m) = w + m * (i / m + 1) := by rw [Nat.mul_add]; omega
    rw [this, Nat.add_mul_mod_self_left, Nat.mod_eq_of_lt hw]
  · refine ⟨w - i % m, by omega, ?_⟩
    have e := Nat.div_add_mod i m
    have : i + (w - i % m) = w + m * (i / m) := by omega
    rw [this, Nat.add_mul_mod_self_left, Nat.mod_eq_of_lt hw]
theorem trn_any {pgs : Nat → Pg} {P0 : Nat → Int64} {n m i : Nat} {P : Nat → Int64} {tk sl hz : Nat} {wk : Wk} (hI : ex_I pgs P0 n m P tk sl hz wk) (hm : 1 ≤ m) (hb : i + (n - sl) * m + (m - 1) ≤ 1100) : trn n m i tk sl wk := by
  by_cases h : tk = sl
  · exact ⟨0, by omega, by omega, fun _ => Or.inl h⟩
  · obtain ⟨w, M, sn, hw, e⟩ := hI.2.2.2.2.2.1 sl (Nat.le_refl _) (by have := hI.1; omega)
    obtain ⟨d, hd, ed⟩ := tr_find (i := i) hw
    exact ⟨d, hd, by omega, fun _ => Or.inr ⟨M, sn, by rw [ed]; exact e⟩⟩
theorem trn_0 {pgs : Nat → Pg} {P0 : Nat → Int64} {n m : Nat} {P : Nat → Int64} {tk sl hz : Nat} {wk : Wk} (hI : ex_I pgs P0 n m P tk sl hz wk) (hm : 1 ≤ m) (hm2 : m ≤ 16) (hn : n ≤ 64) : trn n m 0 tk sl wk := by
  refine trn_any hI hm ?_
  have : (n - sl) * m ≤ 64 * 16 := Nat.mul_le_mul (by omega) hm2
  omega
theorem trn_s {pgs : Nat → Pg} {P0 : Nat → Int64} {n m i : Nat} {P P' : Nat → Int64} {tk sl hz tk' sl' hz' : Nat} {wk wk' : Wk} (hm : 1 ≤ m) (hI : ex_I pgs P0 n m P tk sl hz wk) (hI' : ex_I pgs P0 n m P' tk' sl' hz' wk') (hs : sl < n) (h : trn n m i tk sl wk) (hE : faE n (i % m) P tk sl wk P' tk' sl' wk') : trn n m (i + 1) tk' sl' wk' := by
  obtain ⟨d, hd, hb, hh⟩ := h
  obtain ⟨e1, e2, e3, e4⟩ := hE
  have big : sl' = sl + 1 → trn n m (i + 1) tk' sl' wk' := by
    intro hsl
    refine trn_any hI' hm ?_
    have e : (n - sl) * m = (n - sl') * m + m := by
      rw [show n - sl = (n - sl') + 1 by omega, Nat.add_mul]
      omega
    omega
  by_cases hc : goC P n tk sl wk (i % m) 605
  · exact big (e4 hc)
  · rcases e1 with e1 | e1
    · rcases hh hs with hh | ⟨M, sn, hh⟩
      · exfalso
        refine hc (Or.inr ⟨?_, hh, by omega, by decide⟩)
        cases hw : wk (i % m) with
        | none => rfl
        | some q =>
          obtain ⟨t, M, sn⟩ := q
          have := hI.2.2.2.2.1 (i % m) t M sn (Nat.mod_lt _ (by omega)) hw
          omega
      · have hd0 : d ≠ 0 := fun q => by
          subst q
          exact hc (Or.inl ⟨M, sn, hh, rk_any _ _ _⟩)
        have hne : (i + d) % m ≠ i % m := fun q => by
          have h2 := Nat.sub_mod_eq_zero_of_mod_eq q
          rw [Nat.add_sub_cancel_left, Nat.mod_eq_of_lt hd] at h2
          exact hd0 h2
        refine ⟨d - 1, by omega, by rw [e1.1]; omega, fun _ => Or.inr ⟨M, sn, ?_⟩⟩
        rw [show i + 1 + (d - 1) = i + d by omega, e2 _ hne, e1.1]
        exact hh
    · exact big e1
theorem trn_lt {n m i tk sl : Nat} {wk : Wk} (h : trn n m i tk sl wk) : i ≤ 1100 := by
  obtain ⟨d, -, hb, -⟩ := h
  omega
/-- behind it all -/
theorem ex_done {pgs : Nat → Pg} {P0 : Nat → Int64} {n m : Nat} {P : Nat → Int64} {tk sl hz : Nat} {wk : Wk} {td : Nat → Option Td} (hI : ex_I pgs P0 n m P tk sl hz wk) (hd : tdI pgs P0 sl td) (hs : ¬ sl < n) : P = bk_P pgs P0 n ∧ hz = bk_H pgs P0 n ∧ (∀ w, w < m → wk w = none) ∧ ∀ t, t < n → td t = some (tdM (bk_M pgs P0 t)) := by
  have e : sl = n := by have := hI.1; have := hI.2.1; omega
  subst e
  refine ⟨hI.2.2.1, hI.2.2.2.1, fun w hw => ?_, hd⟩
  cases h : wk w with
  | none => rfl
  | some q =>
    obtain ⟨t, M, sn⟩ := q
    have := hI.2.2.2.2.1 w t M sn hw h
    have := hI.2.1
    omega
