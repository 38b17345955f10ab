/-! ===== between the calls: all workers are free ===== -/
theorem wkW_free {ka : Nat → ClassId} {X : va_W} {a : Option Nat} {tf tf' : Nat → Option Nat} {pgs pgs' : Nat → Pg} (h : wkW ka X a tf pgs none) : wkW ka X a tf' pgs' none := by
  cases a with
  | none => exact h
  | some w => exact h
theorem vbT_n {ka : Nat → ClassId} {n n' nT m : Nat} {tf wf : Nat → Option Nat} {pgs : Nat → Pg} {td : Nat → Option Td} {wk : Wk} {tl : va_W} (h : vbT ka n nT m tf wf pgs td wk tl) (hn : n' ≤ nT) : vbT ka n' nT m tf wf pgs td wk tl := ⟨hn, h.2⟩
theorem vbT_t {ka : Nat → ClassId} {n nT m : Nat} {tf wf : Nat → Option Nat} {pgs : Nat → Pg} {td : Nat → Option Td} {wk : Wk} {tl : va_W} (h : vbT ka n nT m tf wf pgs td wk tl) (hfr : ∀ w, w < m → wk w = none) {j : Nat} (hj : j < nT) :
    ∃ T rest a, tl.Perm (T ++ rest) ∧ tf j = some a ∧ txW ka T a (pgs j) (td j) ∧ ∀ T' pg' d', txW ka T' a pg' d' → ∃ tl', tl'.Perm (T' ++ rest) ∧ vbT ka n nT m tf wf (va_up pgs j pg') (va_up td j d') wk tl' := by
  obtain ⟨h1, h2, h3, h4, tc, wc, rfl, h5, h6, h7⟩ := h
  have hjm : j ∈ List.range nT := List.mem_range.mpr hj
  obtain ⟨a, ha, hT⟩ := h5 j hj
  refine ⟨tc j, ((List.range nT).erase j).flatMap tc ++ (List.range m).flatMap wc, a, ?_, ha, hT, fun T' pg' d' hT' => ?_⟩
  · rw [← List.append_assoc]
    exact (pm_fl hjm).append_right _
  · refine ⟨(List.range nT).flatMap (va_up tc j T') ++ (List.range m).flatMap wc, ?_, h1, h2, h3, h4, va_up tc j T', wc, rfl, fun t ht => ?_, h6, fun w hw => ?_⟩
    · have e2 := pm_fl (f := va_up tc j T') hjm
      rw [pm_up List.nodup_range, va_up_self] at e2
      rw [← List.append_assoc]
      exact e2.append_right _
    · by_cases htj : t = j
      · subst htj
        rw [va_up_self, va_up_self, va_up_self]
        exact ⟨a, ha, hT'⟩
      · rw [va_up_ne _ _ htj, va_up_ne _ _ htj, va_up_ne _ _ htj]
        exact h5 t ht
    · have := h7 w hw
      rw [hfr w hw] at this ⊢
      exact wkW_free this
theorem vbT_new {ka : Nat → ClassId} {n nT m : Nat} {tf wf : Nat → Option Nat} {pgs : Nat → Pg} {td : Nat → Option Td} {wk : Wk} {tl : va_W} (h : vbT ka n nT m tf wf pgs td wk tl) (hfr : ∀ w, w < m → wk w = none) (hlt : nT < 64) {T : va_W} {a : Nat} (hT : txW ka T a [] none) :
    ∃ tl', tl'.Perm (T ++ tl) ∧ vbT ka (nT + 1) (nT + 1) m (va_up tf nT (some a)) wf (va_up pgs nT []) (va_up td nT none) wk tl' := by
  obtain ⟨h1, h2, h3, h4, tc, wc, rfl, h5, h6, h7⟩ := h
  have ne : ∀ t, t < nT → t ≠ nT := fun t ht => by omega
  refine ⟨(List.range (nT + 1)).flatMap (va_up tc nT T) ++ (List.range m).flatMap wc, ?_, Nat.le_refl _, by omega, h3, h4, va_up tc nT T, wc, rfl, fun t ht => ?_, fun t ht ht2 => ?_, fun w hw => ?_⟩
  · have e : (List.range (nT + 1)).flatMap (va_up tc nT T) = (List.range nT).flatMap tc ++ T := by
      rw [List.range_succ, List.flatMap_append]
      congr 1
      · rw [List.flatMap_def, List.flatMap_def]
        congr 1
        apply List.map_congr_left
        intro b hb
        rw [va_up_ne _ _ (ne b (List.mem_range.mp hb))]
      · simp [va_up_self]
    rw [e, List.append_assoc]
    exact List.perm_append_comm_assoc _ _ _
  · by_cases htj : t = nT
    · subst htj
      rw [va_up_self, va_up_self, va_up_self, va_up_self]
      exact ⟨a, rfl, hT⟩
    · rw [va_up_ne _ _ htj, va_up_ne _ _ htj, va_up_ne _ _ htj, va_up_ne _ _ htj]
      exact h5 t (by omega)
  · rw [va_up_ne _ _ (by omega)]
    exact h6 t (by omega) ht2
  · have := h7 w hw
    rw [hfr w hw] at this ⊢
    exact wkW_free this
/-! ===== more of the frame rule ===== -/
section MS
variable {l : Launch} {y : MethodName} {ws : List Cond} {rm : Room} {cl : List vw_C} {tys : List (ClassId × FieldType)} {D : va_G} {av : List Value} {X Y : va_W} {mc ms : Nat}
theorem met_sub {post post2 : Int32 → Prop} (h : Met l y ws rm (pR cl tys D av X) (vp_Si post) mc ms (fun _ => False)) (hs : ∀ q, q ∈ X → q ∈ Y) (hp : ∀ r, post r → post2 r) : Met l y ws rm (pR cl tys D av Y) (vp_Si post2) mc ms (fun _ => False) := by
  intro p e h1 h2 h3 s m args below hf happ hP0 hK0
  obtain ⟨e0, hPY, hKK, hNN⟩ := hP0
  obtain ⟨n, o, a1, a2, a3, ⟨r, hr, hpo, hh⟩, hL⟩ := h p e h1 h2 h3 s m args below hf happ ⟨e0, pe_Pm.mpr fun q hq => pe_Pm.mp hPY q (hs q hq), hKK, hNN⟩ hK0
  exact ⟨n, o, a1, a2, a3, ⟨r, hr, hp r hpo, hh⟩, hL⟩
theorem met_subL {post post2 : Int64 → Prop} (h : Met l y ws rm (pR cl tys D av X) (vp_Sl post) mc ms (fun _ => False)) (hs : ∀ q, q ∈ X → q ∈ Y) (hp : ∀ r, post r → post2 r) : Met l y ws rm (pR cl tys D av Y) (vp_Sl post2) mc ms (fun _ => False) := by
  intro p e h1 h2 h3 s m args below hf happ hP0 hK0
  obtain ⟨e0, hPY, hKK, hNN⟩ := hP0
  obtain ⟨n, o, a1, a2, a3, ⟨r, hr, hpo, hh⟩, hL⟩ := h p e h1 h2 h3 s m args below hf happ ⟨e0, pe_Pm.mpr fun q hq => pe_Pm.mp hPY q (hs q hq), hKK, hNN⟩ hK0
  exact ⟨n, o, a1, a2, a3, ⟨r, hr, hp r hpo, hh⟩, hL⟩
end MS
/-! the block's own cells: v ta | rest -/
theorem pm_d (a b c d e f : Nat × va_E) : [a, b, c, d, e, f].Perm ([a, c] ++ [b, d, e, f]) := (show ([0, 1, 2, 3, 4, 5] : List Nat).Perm [0, 2, 1, 3, 4, 5] by decide).map (fun i => [a, b, c, d, e, f].getD i a)
theorem pm_mem {Z F C tl X rest : va_W} (h6 : Z.Perm (F ++ C)) (ht : tl.Perm (X ++ rest)) : ∀ q, q ∈ F ++ X → q ∈ Z ++ tl := fun q hq => (pm_6 h6 ht).mem_iff.mpr (List.mem_append_left _ hq)
/-- the answers of told and result -/
def aT (td : Option Td) (c : Nat) : Int32 := match td with
  | none => -2
  | some q => if c = 0 then nI q.1 else if c = 1 then nI q.2.1 else if c = 2 then nI q.2.2.1 else nI q.2.2.2.1
def aR (td : Option Td) : Int64 := match td with
  | none => 0
  | some q => q.2.2.2.2
theorem aT_cl {td : Option Td} {kn oc dn ld sr : Int32} {rs : Int64} {c : Nat} (h : tdR td kn oc dn ld sr rs) (hc : c ≤ 3) : tl_ans kn oc dn ld sr (nI c) = aT td c := by
  have hcs : c = 0 ∨ c = 1 ∨ c = 2 ∨ c = 3 := by omega
  cases td with
  | none =>
    have h : kn = 0 := h
    subst h
    rcases hcs with rfl | rfl | rfl | rfl <;> rfl
  | some q =>
    obtain ⟨rfl, rfl, rfl, rfl, rfl, rfl⟩ := h
    rcases hcs with rfl | rfl | rfl | rfl <;> rfl
theorem aR_cl {td : Option Td} {kn oc dn ld sr : Int32} {rs : Int64} (h : tdR td kn oc dn ld sr rs) : (if kn = 0 then 0 else rs) = aR td := by
  cases td with
  | none =>
    have h : kn = 0 := h
    subst h
    rfl
  | some q =>
    obtain ⟨rfl, rfl, rfl, rfl, rfl, rfl⟩ := h
    rfl
theorem aT_bad {kn oc dn ld sr y : Int32} (h : ¬ (¬ y < 0 ∧ y ≤ 3)) : tl_ans kn oc dn ld sr y = -1 := by
  unfold tl_ans
  rw [if_pos]
  by_cases h1 : y < 0
  · exact Or.inl h1
  · exact Or.inr (Int32.not_le.mp (fun q => h ⟨h1, q⟩))
theorem pg_app {pg : Pg} {ops fs : Nat → Int32} {ss : Nat → Int64} {op a : Nat} {b : Int64} (h : pgR pg ops fs ss) (hl : pg.length < 32) (hop : op ≤ 10) (ha : a < 8) : pgR (pg ++ [(op, a, b)]) (upd ops pg.length (nI op)) (upd fs pg.length (nI a)) (vp_updL ss pg.length b) := by
  have hlen : (pg ++ [(op, a, b)]).length = pg.length + 1 := by simp
  refine ⟨by omega, fun j hj => ?_⟩
  by_cases hjl : j = pg.length
  · subst hjl
    have e : sp_in (pg ++ [(op, a, b)]) pg.length = (op, a, b) := by simp [sp_in, List.getD_eq_getElem?_getD]
    rw [e, pk_us, pk_us, pk_uLs]
    exact ⟨rfl, hop, rfl, ha, rfl⟩
  · have e : sp_in (pg ++ [(op, a, b)]) j = sp_in pg j := by
      unfold sp_in
      rw [List.getD_eq_getElem?_getD, List.getD_eq_getElem?_getD, List.getElem?_append_left (by omega)]
    rw [e, pk_un hjl, pk_un hjl, pk_uLn hjl]
    exact h.2 j (by omega)
theorem pg_nil (ops fs : Nat → Int32) (ss : Nat → Int64) : pgR [] ops fs ss := ⟨by decide, fun j hj => by simp at hj⟩
theorem pc_app {pg : Pg} {ops fs : Nat → Int32} {ss : Nat → Int64} {op : Nat} {a : Int32} {b : Int64} (h : pgC pg ops fs ss) (hl : pg.length < 32) (hop : op ≤ 10) : pgC (pg ++ [(op, sp_rg a.toInt64, b)]) (upd ops pg.length (nI op)) (upd fs pg.length a) (vp_updL ss pg.length b) := by
  have h2 := pg_app (b := b) (show pgR pg ops (fun j => nI (sp_rg (fs j).toInt64)) ss from h) hl hop (sp_rg_lt a.toInt64)
  have e : (fun j => nI (sp_rg (upd fs pg.length a j).toInt64)) = upd (fun j => nI (sp_rg (fs j).toInt64)) pg.length (nI (sp_rg a.toInt64)) := by
    funext j
    by_cases hj : j = pg.length
    · subst hj
      rw [pk_us, pk_us]
    · rw [pk_un hj, pk_un hj]
  show pgR _ _ (fun j => nI (sp_rg (upd fs pg.length a j).toInt64)) _
  rw [e]
  exact h2
theorem pc_nil (ops fs : Nat → Int32) (ss : Nat → Int64) : pgC [] ops fs ss := pg_nil _ _ _
