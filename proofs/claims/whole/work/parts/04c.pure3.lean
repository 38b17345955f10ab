/-! ===== drafts: numbers for some of the places, in the order in which they came ===== -/
def dm (ps : List Nat) (num : Nat → Int64) : Nat → Option Int64 := fun p => if p ∈ ps then some (num p) else none
def dOK (ps : List Nat) (kp od : Nat → Int32) : Prop := ps.Nodup ∧ (∀ p ∈ ps, p < 256) ∧ (∀ j, j < ps.length → od j = nI (ps.getD j 0)) ∧ ∀ p, p < 256 → kp p = if p ∈ ps then 1 else 0
theorem nd_len : ∀ (n : Nat) (l : List Nat), l.Nodup → (∀ a ∈ l, a < n) → l.length ≤ n := by
  intro n
  induction n with
  | zero =>
    intro l _ h
    cases l with
    | nil => exact Nat.le_refl _
    | cons a l => exact absurd (h a List.mem_cons_self) (Nat.not_lt_zero _)
  | succ n ih =>
    intro l hn h
    by_cases hm : n ∈ l
    · have h1 := ih (l.erase n) (hn.erase n) (fun a ha => by
        have h2 := (List.Nodup.mem_erase_iff hn).mp ha
        have := h a h2.2
        omega)
      rw [List.length_erase_of_mem hm] at h1
      omega
    · have := ih l hn (fun a ha => by
        have := h a ha
        have h3 : a ≠ n := fun q => hm (q ▸ ha)
        omega)
      omega
theorem dOK_le {ps : List Nat} {kp od : Nat → Int32} (h : dOK ps kp od) : ps.length ≤ 256 := nd_len 256 ps h.1 h.2.1
theorem dOK_lt {ps : List Nat} {kp od : Nat → Int32} {p : Nat} (h : dOK ps kp od) (hp : p < 256) (hn : p ∉ ps) : ps.length < 256 := by
  have := nd_len 256 (p :: ps) (List.nodup_cons.mpr ⟨hn, h.1⟩) (fun a ha => by
    rcases List.mem_cons.mp ha with rfl | ha
    · exact hp
    · exact h.2.1 a ha)
  rw [List.length_cons] at this
  omega
theorem dOK_at {ps : List Nat} {kp od : Nat → Int32} (h : dOK ps kp od) {j : Nat} (hj : j < ps.length) : od j = nI (ps.getD j 0) ∧ ps.getD j 0 < 256 ∧ ps.getD j 0 ∈ ps := by
  have hm : ps.getD j 0 ∈ ps := by
    rw [List.getD_eq_getElem?_getD, List.getElem?_eq_getElem hj]
    exact List.getElem_mem hj
  exact ⟨h.2.2.1 j hj, h.2.1 _ hm, hm⟩
theorem dOK_keep {ps : List Nat} {kp od : Nat → Int32} {p : Nat} (h : dOK ps kp od) (hp : p < 256) (hn : p ∉ ps) : dOK (ps ++ [p]) (upd kp p 1) (upd od ps.length (nI p)) := by
  refine ⟨?_, fun q hq => ?_, fun j hj => ?_, fun q hq => ?_⟩
  · rw [List.nodup_append]
    refine ⟨h.1, by simp, fun a ha b hb => ?_⟩
    rw [List.mem_singleton.mp hb]
    exact fun e => hn (e ▸ ha)
  · rcases List.mem_append.mp hq with hq | hq
    · exact h.2.1 q hq
    · rw [List.mem_singleton.mp hq]; exact hp
  · rw [List.length_append, List.length_singleton] at hj
    by_cases hjl : j = ps.length
    · subst hjl
      rw [pk_us]
      simp [List.getD_eq_getElem?_getD]
    · rw [pk_un hjl, h.2.2.1 j (by omega)]
      rw [List.getD_eq_getElem?_getD, List.getD_eq_getElem?_getD, List.getElem?_append_left (by omega)]
  · by_cases hqp : q = p
    · subst hqp
      rw [pk_us]
      simp
    · rw [pk_un hqp, h.2.2.2 q hq]
      simp [hqp]
theorem dm_new {ps : List Nat} {num : Nat → Int64} {p : Nat} {v : Int64} : dm (ps ++ [p]) (vp_updL num p v) = va_up (dm ps num) p (some v) := by
  funext q
  by_cases hq : q = p
  · subst hq
    simp [dm, vp_updL, va_up]
  · simp [dm, vp_updL, va_up, hq]
theorem dm_old {ps : List Nat} {num : Nat → Int64} {p : Nat} {v : Int64} (h : p ∈ ps) : dm ps (vp_updL num p v) = va_up (dm ps num) p (some v) := by
  funext q
  by_cases hq : q = p
  · subst hq
    simp [dm, vp_updL, va_up, h]
  · simp [dm, vp_updL, va_up, hq]
theorem dm_nil (num : Nat → Int64) : dm [] num = fun _ => none := by funext q; simp [dm]
theorem dm_none {ps : List Nat} {num : Nat → Int64} {p : Nat} : dm ps num p = none ↔ p ∉ ps := by
  by_cases h : p ∈ ps <;> simp [dm, h]
/-- what keep makes of the order -/
def dkp (ps : List Nat) (p : Nat) : List Nat := if p ∈ ps then ps else ps ++ [p]
theorem dm_kp (ps : List Nat) (num : Nat → Int64) (p : Nat) (v : Int64) : dm (dkp ps p) (vp_updL num p v) = va_up (dm ps num) p (some v) := by
  unfold dkp
  split
  · exact dm_old (by assumption)
  · exact dm_new
theorem dkp_len (ps : List Nat) (num : Nat → Int64) (p : Nat) : (dkp ps p).length = if dm ps num p = none then ps.length + 1 else ps.length := by
  unfold dkp
  by_cases h : p ∈ ps
  · rw [if_pos h, if_neg (fun q => (dm_none.mp q) h)]
  · rw [if_neg h, if_pos (dm_none.mpr h)]; simp
/-- clearing, i of them done -/
def dCL (ps : List Nat) (i : Nat) (kp : Nat → Int32) : Prop := ∀ p, p < 256 → kp p = if p ∈ ps.drop i then 1 else 0
theorem dCL_0 {ps : List Nat} {kp od : Nat → Int32} (h : dOK ps kp od) : dCL ps 0 kp := fun p hp => by rw [List.drop_zero]; exact h.2.2.2 p hp
theorem dCL_s {ps : List Nat} {i : Nat} {kp : Nat → Int32} (hn : ps.Nodup) (hi : i < ps.length) (h : dCL ps i kp) : dCL ps (i + 1) (upd kp (ps.getD i 0) 0) := by
  intro p hp
  have e : ps.drop i = ps.getD i 0 :: ps.drop (i + 1) := by
    rw [List.drop_eq_getElem_cons hi, List.getD_eq_getElem?_getD, List.getElem?_eq_getElem hi]; rfl
  have hnd : (ps.getD i 0 :: ps.drop (i + 1)).Nodup := by rw [← e]; exact hn.sublist (List.drop_sublist i ps)
  by_cases hq : p = ps.getD i 0
  · subst hq
    rw [pk_us, if_neg (List.nodup_cons.mp hnd).1]
  · rw [pk_un hq, h p hp, e]
    simp only [List.mem_cons, hq, false_or]
theorem dCL_end {ps : List Nat} {kp od : Nat → Int32} (h : dCL ps ps.length kp) : dOK [] kp od := by
  refine ⟨List.nodup_nil, fun p hp => by simp at hp, fun j hj => by simp at hj, fun p hp => ?_⟩
  rw [h p hp, List.drop_length]
/-! registers and places out of long numbers -/
theorem sp_mask (x : Int64) (k : Nat) (hk : k ≤ 8) {m : Int64} (hm : m.toBitVec.toNat = 2 ^ k - 1) : (x &&& m).toInt32 = nI (x.toBitVec.toNat % 2 ^ k) := by
  have hx : x &&& m = lN (x.toBitVec.toNat % 2 ^ k) := by
    apply Int64.toBitVec_inj.mp
    apply BitVec.eq_of_toNat_eq
    have h1 : x.toBitVec.toNat &&& (2 ^ k - 1) = x.toBitVec.toNat % 2 ^ k := Nat.and_two_pow_sub_one_eq_mod _ _
    have h3 : (lN (x.toBitVec.toNat % 2 ^ k)).toBitVec.toNat = (x.toBitVec.toNat % 2 ^ k) % 2 ^ 64 := by
      simp [lN]
    have h2 : (x &&& m).toBitVec.toNat = x.toBitVec.toNat &&& m.toBitVec.toNat := by
      simp [BitVec.toNat_and]
    rw [h2, h3, hm, h1]
    have : x.toBitVec.toNat % 2 ^ k < 2 ^ 64 := Nat.lt_of_le_of_lt (Nat.mod_le _ _) x.toBitVec.isLt
    rw [Nat.mod_eq_of_lt this]
  rw [hx, lN_i]
theorem sp_rg_eq (x : Int64) : (x &&& 7).toInt32 = nI (sp_rg x) := sp_mask x 3 (by decide) (by decide)
theorem sp_pl_eq (x : Int64) : (x &&& 255).toInt32 = nI (sp_pl x) := sp_mask x 8 (by decide) (by decide)
theorem sp_rg_lt (x : Int64) : sp_rg x < 8 := Nat.mod_lt _ (by decide)
theorem sp_pl_lt (x : Int64) : sp_pl x < 256 := Nat.mod_lt _ (by decide)
