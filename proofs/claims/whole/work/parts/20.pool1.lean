/-! ===== worlds by membership, and their order does not matter ===== -/
theorem pe_Pm {D : va_G} {cl : List vw_C} {ws : va_W} {H : Heap} : va_P D cl ws H ↔ ∀ q, q ∈ ws → va_at D cl q H := by
  constructor
  · intro h q hq
    obtain ⟨k, hk⟩ := List.getElem?_of_mem hq
    exact h k q hk
  · intro h k q hk
    exact h q (List.mem_of_getElem? hk)
theorem pe_Dm {A : Nat → Prop} {ws : va_W} : va_D A ws ↔ (ws.map Prod.fst).Nodup ∧ ∀ q, q ∈ ws → A q.1 := by
  constructor
  · intro h
    refine ⟨?_, fun q hq => ?_⟩
    · unfold List.Nodup
      rw [List.pairwise_iff_getElem]
      intro i j hi hj hij e
      rw [List.length_map] at hi hj
      rw [List.getElem_map, List.getElem_map] at e
      have := h.1 i j ws[i] ws[j] (List.getElem?_eq_getElem hi) (List.getElem?_eq_getElem hj) e
      omega
    · obtain ⟨k, hk⟩ := List.getElem?_of_mem hq
      exact h.2 k q hk
  · intro h
    have key : ∀ (i j : Nat) (p q : Nat × va_E), i < j → ws[i]? = some p → ws[j]? = some q → p.1 = q.1 → False := by
      intro i j p q hij hi hj e
      have h1 := h.1
      unfold List.Nodup at h1
      rw [List.pairwise_iff_getElem] at h1
      obtain ⟨li, ei⟩ := List.getElem?_eq_some_iff.mp hi
      obtain ⟨lj, ej⟩ := List.getElem?_eq_some_iff.mp hj
      refine h1 i j (by rw [List.length_map]; exact li) (by rw [List.length_map]; exact lj) hij ?_
      rw [List.getElem_map, List.getElem_map, ei, ej]
      exact e
    refine ⟨fun i j p q hi hj e => ?_, fun k q hk => h.2 q (List.mem_of_getElem? hk)⟩
    rcases Nat.lt_trichotomy i j with q1 | q1 | q1
    · exact (key i j p q q1 hi hj e).elim
    · exact q1
    · exact (key j i q p q1 hj hi e.symm).elim
theorem pe_P {D : va_G} {cl : List vw_C} {ws ws' : va_W} {H : Heap} (p : ws.Perm ws') (h : va_P D cl ws H) : va_P D cl ws' H := pe_Pm.mpr fun q hq => pe_Pm.mp h q (p.mem_iff.mpr hq)
theorem pe_D {A : Nat → Prop} {ws ws' : va_W} (p : ws.Perm ws') (h : va_D A ws) : va_D A ws' := by
  obtain ⟨h1, h2⟩ := pe_Dm.mp h
  exact pe_Dm.mpr ⟨(p.map Prod.fst).nodup_iff.mp h1, fun q hq => h2 q (p.mem_iff.mpr hq)⟩
theorem pe_Am {ws : va_W} {sz q : Nat} : va_A ws sz q ↔ (∃ e, (q, e) ∈ ws) ∨ sz ≤ q := by
  constructor
  · intro h
    rcases h with ⟨k, e, h⟩ | h
    · exact Or.inl ⟨e, List.mem_of_getElem? h⟩
    · exact Or.inr h
  · intro h
    rcases h with ⟨e, h⟩ | h
    · obtain ⟨k, hk⟩ := List.getElem?_of_mem h
      exact Or.inl ⟨k, e, hk⟩
    · exact Or.inr h
/-- what a part of the world becomes, the rest stays -/
theorem pe_frame {D : va_G} {cl : List vw_C} {X X' rest Y : va_W} {sz : Nat} {H H1 : Heap} (hsz : H.size = sz) (hp : Y.Perm (X ++ rest)) (hP : va_P D cl Y H) (hD : va_D (fun _ => True) Y)
    (hF : ∀ q : Nat, q < H.size → ¬ va_A X sz q → H1[q]? = H[q]?) (hP1 : va_P D cl X' H1) (hD1 : va_D (va_A X sz) X') : va_P D cl (X' ++ rest) H1 ∧ va_D (va_A Y sz) (X' ++ rest) := by
  have hPa := pe_P hp hP
  have hDa := pe_Dm.mp (pe_D hp hD)
  have hD1a := pe_Dm.mp hD1
  have out : ∀ q, q ∈ rest → q.1 < H.size ∧ ¬ va_A X sz q.1 := by
    intro q hq
    have hl : q.1 < H.size := va_at.lt (pe_Pm.mp hPa q (List.mem_append_right _ hq))
    refine ⟨hl, fun h => ?_⟩
    rcases pe_Am.mp h with ⟨e, h⟩ | h
    · have hn := hDa.1
      rw [List.map_append, List.nodup_append] at hn
      exact hn.2.2 q.1 (List.mem_map.mpr ⟨_, h, rfl⟩) q.1 (List.mem_map.mpr ⟨q, hq, rfl⟩) rfl
    · omega
  refine ⟨pe_Pm.mpr fun q hq => ?_, pe_Dm.mpr ⟨?_, fun q hq => ?_⟩⟩
  · rcases List.mem_append.mp hq with hq | hq
    · exact pe_Pm.mp hP1 q hq
    · obtain ⟨o1, o2⟩ := out q hq
      exact (pe_Pm.mp hPa q (List.mem_append_right _ hq)).kept (hF q.1 o1 o2)
  · rw [List.map_append, List.nodup_append]
    refine ⟨hD1a.1, ?_, fun a ha b hb e => ?_⟩
    · have hn := hDa.1
      rw [List.map_append, List.nodup_append] at hn
      exact hn.2.1
    · obtain ⟨x, hx, rfl⟩ := List.mem_map.mp ha
      obtain ⟨y, hy, rfl⟩ := List.mem_map.mp hb
      exact (out y hy).2 (by rw [← e]; exact hD1a.2 x hx)
  · rcases List.mem_append.mp hq with hq | hq
    · rcases pe_Am.mp (hD1a.2 q hq) with ⟨e, h⟩ | h
      · exact pe_Am.mpr (Or.inl ⟨e, hp.mem_iff.mpr (List.mem_append_left _ h)⟩)
      · exact pe_Am.mpr (Or.inr h)
    · exact pe_Am.mpr (Or.inl ⟨q.2, hp.mem_iff.mpr (List.mem_append_right _ hq)⟩)
theorem pe_A {X rest Y : va_W} {sz q : Nat} (hp : Y.Perm (X ++ rest)) (h : va_A X sz q) : va_A Y sz q := by
  rcases pe_Am.mp h with ⟨e, h⟩ | h
  · exact pe_Am.mpr (Or.inl ⟨e, hp.mem_iff.mpr (List.mem_append_left _ h)⟩)
  · exact pe_Am.mpr (Or.inr h)
/-! ===== the frame rule, said of contracts ===== -/
section MF
variable {l : Launch} {y : MethodName} {ws : List Cond} {rm : Room} {cl : List vw_C} {tys : List (ClassId × FieldType)} {D : va_G} {av : List Value} {X Y rest : va_W} {sz mc ms : Nat}
theorem met_fr {S S2 : Type} {post : Int32 → S → Prop} {B : S → State → Prop} {post2 : Int32 → S2 → Prop} {B2 : S2 → State → Prop}
    (h : Met l y ws rm (pW cl tys D av X sz) (va_Qi post B (va_A X sz)) mc ms (va_A X sz)) (hp : Y.Perm (X ++ rest))
    (hB : ∀ (r : Int32) (u : S) (t : State), post r u → B u t → ∃ X', va_P D cl X' t.heap ∧ va_D (va_A X sz) X' ∧ (va_P D cl (X' ++ rest) t.heap → va_D (va_A Y sz) (X' ++ rest) → ∃ u2, post2 r u2 ∧ B2 u2 t)) :
    Met l y ws rm (pW cl tys D av Y sz) (va_Qi post2 B2 (va_A Y sz)) mc ms (va_A Y sz) := by
  intro p e h1 h2 h3 s m args below hf happ hP0 hK0
  obtain ⟨e0, hsz, hPY, hKK, hNN, hDY⟩ := hP0
  have hPX : va_P D cl X s.heap := pe_Pm.mpr fun q hq => pe_Pm.mp hPY q (hp.mem_iff.mpr (List.mem_append_left _ hq))
  have hDX : va_D (fun _ => True) X := by
    have := (pe_Dm.mp (pe_D hp hDY)).1
    rw [List.map_append, List.nodup_append] at this
    exact pe_Dm.mpr ⟨this.1, fun _ _ => trivial⟩
  obtain ⟨n, o, a1, a2, a3, ⟨⟨r, u, hr, hpo, hBu⟩, hF⟩, L, hFE, hL⟩ := h p e h1 h2 h3 s m args below hf happ ⟨e0, hsz, hPX, hKK, hNN, hDX⟩ hK0
  obtain ⟨X', hP1, hD1, hk⟩ := hB r u _ hpo hBu
  obtain ⟨f1, f2⟩ := pe_frame hsz hp hPY hDY hF.2 hP1 hD1
  obtain ⟨u2, g1, g2⟩ := hk f1 f2
  exact ⟨n, o, a1, a2, a3, ⟨⟨r, u2, hr, g1, g2⟩, hF.1, fun q q1 q2 => hF.2 q q1 (fun z => q2 (pe_A hp z))⟩, L, hFE, fun q hq => pe_A hp (hL q hq)⟩
theorem met_frS {S2 : Type} {post : Int32 → Prop} {post2 : Int32 → S2 → Prop} {B2 : S2 → State → Prop}
    (h : Met l y ws rm (pR cl tys D av X) (vp_Si post) mc ms (fun _ => False)) (hp : Y.Perm (X ++ rest))
    (hB : ∀ (r : Int32) (t : State), post r → va_P D cl Y t.heap → va_D (va_A Y sz) Y → ∃ u2, post2 r u2 ∧ B2 u2 t) :
    Met l y ws rm (pW cl tys D av Y sz) (va_Qi post2 B2 (va_A Y sz)) mc ms (va_A Y sz) := by
  intro p e h1 h2 h3 s m args below hf happ hP0 hK0
  obtain ⟨e0, hsz, hPY, hKK, hNN, hDY⟩ := hP0
  have hPX : va_P D cl X s.heap := pe_Pm.mpr fun q hq => pe_Pm.mp hPY q (hp.mem_iff.mpr (List.mem_append_left _ hq))
  obtain ⟨n, o, a1, a2, a3, ⟨r, hr, hpo, hh⟩, L, hFE, hL⟩ := h p e h1 h2 h3 s m args below hf happ ⟨e0, hPX, hKK, hNN⟩ hK0
  obtain ⟨u2, g1, g2⟩ := hB r _ hpo (by rw [hh]; exact hPY) (hDY.self)
  exact ⟨n, o, a1, a2, a3, ⟨⟨r, u2, hr, g1, g2⟩, by rw [hh]; exact Nat.le_refl _, fun q _ _ => by rw [hh]⟩, L, hFE, fun q hq => (hL q hq).elim⟩
end MF
/-! ===== parts of a world to the front ===== -/
theorem pm_6 {Z F C tl X rest : va_W} (h6 : Z.Perm (F ++ C)) (ht : tl.Perm (X ++ rest)) : (Z ++ tl).Perm ((F ++ X) ++ (C ++ rest)) := by
  have h1 : (Z ++ tl).Perm ((F ++ C) ++ (X ++ rest)) := h6.append ht
  refine h1.trans ?_
  rw [List.append_assoc, List.append_assoc]
  exact List.Perm.append_left F (List.perm_append_comm_assoc C X rest)
theorem pm_fl {f : Nat → va_W} {l : List Nat} {a : Nat} (h : a ∈ l) : (l.flatMap f).Perm (f a ++ (l.erase a).flatMap f) := by
  have := (List.perm_cons_erase h).flatMap_right f
  simpa using this
theorem pm_up {f : Nat → va_W} {l : List Nat} {a : Nat} {x : va_W} (hn : l.Nodup) : (l.erase a).flatMap (va_up f a x) = (l.erase a).flatMap f := by
  rw [List.flatMap_def, List.flatMap_def]
  congr 1
  apply List.map_congr_left
  intro b hb
  have : b ≠ a := fun q => by
    subst q
    exact ((List.Nodup.mem_erase_iff hn).mp hb).1 rfl
  rw [va_up_ne _ _ this]
