/-! ===== floorMod ===== -/
theorem xn_32 {x y : Int32} (hy : 0 ≤ y.toInt) : (x ^^^ y).toInt < 0 ↔ x.toInt < 0 := by
  have h1 : ∀ z : Int32, z.toBitVec.msb = decide (z.toInt < 0) := fun z => BitVec.msb_eq_toInt
  have h2 : (x ^^^ y).toBitVec.msb = (x.toBitVec.msb ^^ y.toBitVec.msb) := by
    rw [Int32.toBitVec_xor, BitVec.msb_xor]
  rw [h1, h1, h1, show decide (y.toInt < 0) = false from decide_eq_false (by omega), Bool.xor_false] at h2
  exact decide_eq_decide.mp h2
theorem xn_64 {x y : Int64} (hy : 0 ≤ y.toInt) : (x ^^^ y).toInt < 0 ↔ x.toInt < 0 := by
  have h1 : ∀ z : Int64, z.toBitVec.msb = decide (z.toInt < 0) := fun z => BitVec.msb_eq_toInt
  have h2 : (x ^^^ y).toBitVec.msb = (x.toBitVec.msb ^^ y.toBitVec.msb) := by
    rw [Int64.toBitVec_xor, BitVec.msb_xor]
  rw [h1, h1, h1, show decide (y.toInt < 0) = false from decide_eq_false (by omega), Bool.xor_false] at h2
  exact decide_eq_decide.mp h2
theorem tm_pos {a : Int} {m : Nat} (h : 0 ≤ a) : a.tmod m = a % m := Int.tmod_eq_emod_of_nonneg h
theorem tm_zero {a : Int} {m : Nat} (h : a.tmod m = 0) : a % (m : Int) = 0 := by
  have := Int.dvd_of_tmod_eq_zero h
  exact Int.emod_eq_zero_of_dvd this
theorem tm_neg {a : Int} {m : Nat} (ha : a < 0) (h : a.tmod m ≠ 0) : a.tmod m + m = a % (m : Int) := by
  have e := Int.tmod_eq_emod (a := a) (b := (m : Int))
  have hn : ¬ (0 ≤ a ∨ (m : Int) ∣ a) := by
    rintro (q | q)
    · omega
    · exact h (Int.tmod_eq_zero_of_dvd q)
  rw [if_neg hn] at e
  have : ((m : Int).natAbs : Int) = m := by simp
  omega
theorem fm_lt (a : Int) {m : Nat} (hm : 0 < m) : 0 ≤ a % (m : Int) ∧ a % (m : Int) < m := ⟨Int.emod_nonneg _ (by omega), Int.emod_lt_of_pos _ (by omega)⟩
theorem fm_out {r : Int32} {a : Int} {m : Nat} (hm : 0 < m) (hm2 : m < 2 ^ 31) (h : r.toInt = a % (m : Int)) : r = nI (a % (m : Int)).toNat := by
  have := fm_lt a hm
  apply Int32.toInt_inj.mp
  rw [nI_toInt (by omega), h]
  omega
theorem fm_outL {r : Int64} {a : Int} {m : Nat} (hm : 0 < m) (hm2 : m < 2 ^ 31) (h : r.toInt = a % (m : Int)) : r = lN (a % (m : Int)).toNat := by
  have := fm_lt a hm
  apply Int64.toInt_inj.mp
  rw [lN_toInt (by omega), h]
  omega
section FM
variable {x : Int32} {m : Nat} (hm : 0 < m) (hm2 : m < 2 ^ 31)
theorem fm_a (hm : 0 < m) (hm2 : m < 2 ^ 31) (c : 0 ≤ x ^^^ nI m) : x - x / nI m * nI m = nI (x.toInt % (m : Int)).toNat := by
  refine fm_out hm hm2 ?_
  have hn : ¬ x.toInt < 0 := fun q => by
    have := (xn_32 (x := x) (y := nI m) (by rw [nI_toInt hm2]; omega)).mpr q
    have h2 := Int32.le_iff_toInt_le.mp c
    simp at h2
    omega
  rw [rem_toInt, nI_toInt hm2, tm_pos (by omega)]
theorem fm_b (hm : 0 < m) (hm2 : m < 2 ^ 31) (c : x - x / nI m * nI m = 0) : x - x / nI m * nI m = nI (x.toInt % (m : Int)).toNat := by
  refine fm_out hm hm2 ?_
  have h := congrArg Int32.toInt c
  rw [rem_toInt, nI_toInt hm2] at h
  rw [rem_toInt, nI_toInt hm2, tm_zero (by simpa using h)]
  simpa using h
theorem fm_c (hm : 0 < m) (hm2 : m < 2 ^ 31) (c1 : ¬ 0 ≤ x ^^^ nI m) (c2 : ¬ x - x / nI m * nI m = 0) : x - x / nI m * nI m + nI m = nI (x.toInt % (m : Int)).toNat := by
  refine fm_out hm hm2 ?_
  have hx : x.toInt < 0 := by
    refine (xn_32 (x := x) (y := nI m) (by rw [nI_toInt hm2]; omega)).mp ?_
    rw [Int32.le_iff_toInt_le] at c1
    simp at c1
    omega
  have hr : (x - x / nI m * nI m).toInt = x.toInt.tmod m := by rw [rem_toInt, nI_toInt hm2]
  have h0 : x.toInt.tmod m ≠ 0 := fun q => c2 (Int32.toInt_inj.mp (by rw [hr, q]; rfl))
  have hb := fm_lt x.toInt hm
  have ht := tm_neg hx h0
  rw [Int32.toInt_add, hr, nI_toInt hm2, ht]
  rw [Int.bmod_def]
  split <;> omega
end FM
theorem fl_a {x : Int64} {m : Nat} (hm : 0 < m) (hm2 : m < 2 ^ 31) (c : 0 ≤ x ^^^ lN m) : x - x / lN m * lN m = lN (x.toInt % (m : Int)).toNat := by
  refine fm_outL hm hm2 ?_
  have hn : ¬ x.toInt < 0 := fun q => by
    have := (xn_64 (x := x) (y := lN m) (by rw [lN_toInt hm2]; omega)).mpr q
    have h2 := Int64.le_iff_toInt_le.mp c
    simp at h2
    omega
  rw [Jvm.Kit.i64_rem, lN_toInt hm2, tm_pos (by omega)]
theorem fl_b {x : Int64} {m : Nat} (hm : 0 < m) (hm2 : m < 2 ^ 31) (c : x - x / lN m * lN m = 0) : x - x / lN m * lN m = lN (x.toInt % (m : Int)).toNat := by
  refine fm_outL hm hm2 ?_
  have h := congrArg Int64.toInt c
  rw [Jvm.Kit.i64_rem, lN_toInt hm2] at h
  rw [Jvm.Kit.i64_rem, lN_toInt hm2, tm_zero (by simpa using h)]
  simpa using h
theorem fl_c {x : Int64} {m : Nat} (hm : 0 < m) (hm2 : m < 2 ^ 31) (c1 : ¬ 0 ≤ x ^^^ lN m) (c2 : ¬ x - x / lN m * lN m = 0) : x - x / lN m * lN m + lN m = lN (x.toInt % (m : Int)).toNat := by
  refine fm_outL hm hm2 ?_
  have hx : x.toInt < 0 := by
    refine (xn_64 (x := x) (y := lN m) (by rw [lN_toInt hm2]; omega)).mp ?_
    rw [Int64.le_iff_toInt_le] at c1
    simp at c1
    omega
  have hr : (x - x / lN m * lN m).toInt = x.toInt.tmod m := by rw [Jvm.Kit.i64_rem, lN_toInt hm2]
  have h0 : x.toInt.tmod m ≠ 0 := fun q => c2 (Int64.toInt_inj.mp (by rw [hr, q]; rfl))
  have hb := fm_lt x.toInt hm
  have ht := tm_neg hx h0
  rw [Int64.toInt_add, hr, lN_toInt hm2, ht]
  rw [Int.bmod_def]
  split <;> omega
/-! ===== growing a row ===== -/
theorem cp_lo {f g : Nat → Int64} {n j : Nat} (h : j < n) : va_cpy f g 0 0 n j = f j := by
  rw [pk_cpy_in (Nat.zero_le _) (by omega)]; simp
theorem lN_ne0 {m : Nat} (hm : 0 < m) (hm2 : m < 2 ^ 31) : ¬ lN m = 0 := fun q => by
  have := congrArg Int64.toInt q
  rw [lN_toInt hm2] at this
  simp at this
  omega
/-- so many workers, brought to 1 .. 16 -/
theorem wk_cnt (x : Int32) : ∃ m : Nat, 1 ≤ m ∧ m ≤ 16 ∧ (if (1 : Int32) < (if x < 16 then x else 16) then (if x < 16 then x else 16) else 1) = nI m := by
  by_cases h : x < 16
  · rw [if_pos h]
    by_cases h1 : (1 : Int32) < x
    · rw [if_pos h1]
      have a := Int32.lt_iff_toInt_lt.mp h
      have b := Int32.lt_iff_toInt_lt.mp h1
      simp at a b
      refine ⟨x.toInt.toNat, by omega, by omega, ?_⟩
      apply Int32.toInt_inj.mp
      rw [nI_toInt (by omega)]
      omega
    · rw [if_neg h1]
      exact ⟨1, by decide, by decide, rfl⟩
  · rw [if_neg h]
    exact ⟨16, by decide, by decide, rfl⟩
/-- one of the numbers of the weave -/
theorem wv_num (x : Int32) : ∃ c : Nat, c < 16 ∧ x &&& 15 = nI c := pk_andE x 4 (by decide)
theorem fm_nI {c m : Nat} (hc : c < 2 ^ 31) : ((nI c).toInt % (m : Int)).toNat = c % m := by
  rw [nI_toInt hc]
  omega
/-- a contract out of a walk, for a method of the library that nothing is run in place of -/
theorem my_ofWF {l : Launch} {y : MethodName} {ws ws' : List Cond} {rm : Room} {Pc : Array Value → State → Prop} {Qc : Array Value → State → Outcome → State → Prop} {mc ms : Nat} {free : Addr → Prop} {cc : ByteArray} {maxL : Nat} {ret : Option FieldType}
    (hy : plainFor y = true) (hw : ws = Cond.code y cc maxL ret :: ws')
    (body : ∀ p e s m args below meth c s₁, BodyLoose p l y (headSpec ws rm) cc maxL ret e s m args below meth c s₁ → c.maxLocals = maxL → Pc args s →
      W p l e (headSpec ws rm).room s m args below meth c s.heap [] 0 0 (MQ below Qc args s mc ms free) (entryFrame m args maxL)) : Met l y ws rm Pc Qc mc ms free := by
  refine MetFree.of_bodySF (code := cc) (maxLocals := maxL) (ret := ret) hy ?_ ?_
  · intro args s m h hn
    obtain ⟨meth, c, h1, h2, h3, h4, h5, h6, -, -⟩ := Cond.code_spec hn (atoms_spec (ws := ws) h _ (by rw [hw]; exact List.mem_cons_self))
    exact ⟨meth, c, h1, h2, h3, h4, h5, h6⟩
  · intro p e s m args below meth c s₁ B hml hP _
    have hh0 : s₁.heap = s.heap := by rw [B.state]; rfl
    obtain ⟨t, a1, o, b1, b2, b3⟩ := body p e s m args below meth c s₁ B hml hP s₁ hh0 (Stand.of_body B)
    exact ⟨t, o, a1, b1, b2, ⟨b3.1, b3.2⟩⟩
