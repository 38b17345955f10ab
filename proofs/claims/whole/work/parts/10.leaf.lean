set_option maxHeartbeats 4000000 in
set_option maxRecDepth 100000 in
theorem c_isPlace (l : Launch) (x : Int32)  : Met l y_Vb_isPlace w_Vb_isPlace ({ frames := 0, cells := 0, slots := 0, locals := 0 }) (pE [.int x]) (vp_Si (fun r => r = (if 0 ≤ x.toInt ∧ x.toInt < 256 then 1 else 0))) 0 0 (fun _ => False) := by
  refine Met.ofW (cc := b_Vb_isPlace) (maxL := 1) (ret := (some .boolean)) (by decide) rfl ?_
  intro pP eE sS mM args below meth cC s1 B hml hv
  obtain ⟨rfl, hN⟩ := hv
  have hx := B.exec
  have hb := B.bytes
  have hr := B.returns
  have hts := atoms_spec (ws := w_Vb_isPlace) B.pre
  have hown : sS.vm.findClass "VersionedBlock" = some mM.cls := findClass_of_methodNamed B.named
  have hlocks := B.notSynchronized
  have hl := lv_entry ([.int x]) (n := 1) (Nat.le_of_ble_eq_true rfl)
  rw [lg_entry_eq]
  generalize (lg_sl ([.int x]) ++ List.replicate (1 - (lg_sl ([.int x])).length) Slot.unset).toArray = ls at hl ⊢
  have hl : lv_has ls 1 [(0, .int x)] := hl
  refine lv_iload_n hx hb d_Vb_isPlace_0 rfl (lv_at hl 0 rfl) ?_
  refine lv_if_lt (tgt := 15) hx hb d_Vb_isPlace_1 (by decide) (fun c_1 => ?_) (fun c_1 => ?_)
  · refine lv_iconst (v := 0) hx hb d_Vb_isPlace_15 (by decide) ?_
    exact W.zret (v := 0) hx hb hr rfl (fun t9 ht hW => ⟨0, rfl, (by rw [if_neg]; intro q; have := Int32.lt_iff_toInt_lt.mp c_1; simp at this; omega), ht⟩) (fun _ h => by cases h) d_Vb_isPlace_16
  · refine lv_iload_n hx hb d_Vb_isPlace_4 rfl (lv_at hl 0 rfl) ?_
    refine lv_sipush (v := 256) hx hb d_Vb_isPlace_5 (by decide) ?_
    refine lv_icmp_ge (tgt := 15) hx hb d_Vb_isPlace_8 (by decide) (fun c_8 => ?_) (fun c_8 => ?_)
    · refine lv_iconst (v := 0) hx hb d_Vb_isPlace_15 (by decide) ?_
      exact W.zret (v := 0) hx hb hr rfl (fun t9 ht hW => ⟨0, rfl, (by rw [if_neg]; intro q; have := Int32.le_iff_toInt_le.mp c_8; simp at this; omega), ht⟩) (fun _ h => by cases h) d_Vb_isPlace_16
    · refine lv_iconst (v := 1) hx hb d_Vb_isPlace_11 (by decide) ?_
      refine lv_goto (tgt := 16) hx hb d_Vb_isPlace_12 (by decide) ?_
      exact W.zret (v := 1) hx hb hr rfl (fun t9 ht hW => ⟨1, rfl, (by rw [if_pos]; have h1 := Int32.not_lt.mp c_1; have h2 := Int32.not_le.mp c_8; have := Int32.le_iff_toInt_le.mp h1; have := Int32.lt_iff_toInt_lt.mp h2; simp at *; omega), ht⟩) (fun _ h => by cases h) d_Vb_isPlace_16
set_option maxHeartbeats 4000000 in
set_option maxRecDepth 100000 in
theorem c_placeOf (l : Launch) (x : Int64)  : Met l y_Vb_placeOf w_Vb_placeOf ({ frames := 0, cells := 0, slots := 0, locals := 0 }) (pE [.long x]) (vp_Si (fun r => r = (nI (sp_pl x)))) 0 0 (fun _ => False) := by
  refine Met.ofW (cc := b_Vb_placeOf) (maxL := 2) (ret := (some .int)) (by decide) rfl ?_
  intro pP eE sS mM args below meth cC s1 B hml hv
  obtain ⟨rfl, hN⟩ := hv
  have hx := B.exec
  have hb := B.bytes
  have hr := B.returns
  have hts := atoms_spec (ws := w_Vb_placeOf) B.pre
  have hown : sS.vm.findClass "VersionedBlock" = some mM.cls := findClass_of_methodNamed B.named
  have hlocks := B.notSynchronized
  have hl := lv_entry ([.long x]) (n := 2) (Nat.le_of_ble_eq_true rfl)
  rw [lg_entry_eq]
  generalize (lg_sl ([.long x]) ++ List.replicate (2 - (lg_sl ([.long x])).length) Slot.unset).toArray = ls at hl ⊢
  have hl : lv_has ls 2 [(0, .long x)] := hl
  refine lv_lload_n hx hb d_Vb_placeOf_0 rfl (lv_at hl 0 rfl) ?_
  refine lv_ldc2 (own := "VersionedBlock") (index := 100) (v := 255) hx hb hown (hts _ (List.mem_cons_of_mem _ mw_2_62)) d_Vb_placeOf_1 ?_
  refine lv_land hx hb d_Vb_placeOf_4 ?_
  refine lv_l2i (v := nI (sp_pl x)) hx hb d_Vb_placeOf_5 (sp_pl_eq x) ?_
  exact W.iret (v := (nI (sp_pl x))) hx hb hr (fun t9 ht hW => ⟨(nI (sp_pl x)), rfl, rfl, ht⟩) (fun _ h => by cases h) d_Vb_placeOf_6
set_option maxHeartbeats 4000000 in
set_option maxRecDepth 100000 in
theorem c_registerOf (l : Launch) (x : Int64)  : Met l y_Vb_registerOf w_Vb_registerOf ({ frames := 0, cells := 0, slots := 0, locals := 0 }) (pE [.long x]) (vp_Si (fun r => r = (nI (sp_rg x)))) 0 0 (fun _ => False) := by
  refine Met.ofW (cc := b_Vb_registerOf) (maxL := 2) (ret := (some .int)) (by decide) rfl ?_
  intro pP eE sS mM args below meth cC s1 B hml hv
  obtain ⟨rfl, hN⟩ := hv
  have hx := B.exec
  have hb := B.bytes
  have hr := B.returns
  have hts := atoms_spec (ws := w_Vb_registerOf) B.pre
  have hown : sS.vm.findClass "VersionedBlock" = some mM.cls := findClass_of_methodNamed B.named
  have hlocks := B.notSynchronized
  have hl := lv_entry ([.long x]) (n := 2) (Nat.le_of_ble_eq_true rfl)
  rw [lg_entry_eq]
  generalize (lg_sl ([.long x]) ++ List.replicate (2 - (lg_sl ([.long x])).length) Slot.unset).toArray = ls at hl ⊢
  have hl : lv_has ls 2 [(0, .long x)] := hl
  refine lv_lload_n hx hb d_Vb_registerOf_0 rfl (lv_at hl 0 rfl) ?_
  refine lv_ldc2 (own := "VersionedBlock") (index := 102) (v := 7) hx hb hown (hts _ (List.mem_cons_of_mem _ mw_2_54)) d_Vb_registerOf_1 ?_
  refine lv_land hx hb d_Vb_registerOf_4 ?_
  refine lv_l2i (v := nI (sp_rg x)) hx hb d_Vb_registerOf_5 (sp_rg_eq x) ?_
  exact W.iret (v := (nI (sp_rg x))) hx hb hr (fun t9 ht hW => ⟨(nI (sp_rg x)), rfl, rfl, ht⟩) (fun _ h => by cases h) d_Vb_registerOf_6
set_option maxHeartbeats 4000000 in
set_option maxRecDepth 100000 in
theorem c_fill8 (l : Launch) (D : va_G) (ka : Nat → ClassId) (sz : Nat) (a : Nat) (f : Nat → Int64) (v : Int64)  : Met l y_Ar_fill w_Ar_fill ({ frames := 0, cells := 0, slots := 0, locals := 0 }) (pW classes (tyS ka) D [.ref a, .long v] ([(a, .inl ((ka 0), 8, .inr (.inl f)))]) sz) (va_Qv (fun _ : Unit => True) (fun (_ : Unit) t9 => (True) ∧ va_P D classes ([(a, .inl ((ka 0), 8, .inr (.inl (fun _ => v))))]) t9.heap ∧ va_D (va_A ([(a, .inl ((ka 0), 8, .inr (.inl f)))]) sz) ([(a, .inl ((ka 0), 8, .inr (.inl (fun _ => v))))])) (va_A ([(a, .inl ((ka 0), 8, .inr (.inl f)))]) sz)) 0 0 (va_A ([(a, .inl ((ka 0), 8, .inr (.inl f)))]) sz) := by
  refine Met.ofW (cc := b_Ar_fill) (maxL := 5) (ret := none) (by decide) rfl ?_
  intro pP eE sS mM args below meth cC s1 B hml hv
  obtain ⟨rfl, hsz, hP, hK, hN, hD0⟩ := hv
  have hx := B.exec
  have hb := B.bytes
  have hr := B.returns
  have hts := atoms_spec (ws := w_Ar_fill) B.pre
  have hown : sS.vm.findClass "java/util/Arrays" = some mM.cls := findClass_of_methodNamed B.named
  have hlocks := B.notSynchronized
  subst hsz
  have hD := hD0.self (sz := sS.heap.size)
  generalize hAe : va_A ([(a, .inl ((ka 0), 8, .inr (.inl f)))]) sS.heap.size = A at hD ⊢
  have hA : ∀ q : Nat, sS.heap.size ≤ q → A q := fun q h => by rw [← hAe]; exact Or.inr h
  have hS : va_S A sS.heap sS.heap [] := va_S.rf
  have hl := lv_entry ([.ref a, .long v]) (n := 5) (Nat.le_of_ble_eq_true rfl)
  rw [lg_entry_eq]
  generalize (lg_sl ([.ref a, .long v]) ++ List.replicate (5 - (lg_sl ([.ref a, .long v])).length) Slot.unset).toArray = ls at hl ⊢
  have hl : lv_has ls 5 [(0, .ref a), (1, .long v)] := hl
  refine lv_iconst (v := (nI 0)) hx hb d_Ar_fill_0 (by decide) ?_
  refine lv_istore_n (lv' := [(3, .int (nI 0)), (0, .ref a), (1, .long v)]) hx hb d_Ar_fill_1 rfl hl (by decide) rfl (fun ls hl => ?_)
  refine lv_aload_n hx hb d_Ar_fill_2 rfl (lv_at hl 1 rfl) ?_
  refine va_alen (v := nI 8) hx hb hK hP 0 0 rfl rfl rfl d_Ar_fill_3 ?_
  refine lv_istore (lv' := [(4, .int (nI 8)), (3, .int (nI 0)), (0, .ref a), (1, .long v)]) hx hb d_Ar_fill_4 hl (by decide) rfl (fun ls hl => ?_)
  have loop_6 : ∀ (fuel : Nat) (i : Nat) (g : Nat → Int64), (i ≤ 8) → (∀ j, j < i → g j = v) → (8 - i) < fuel → ∀ (H : Heap) (locs : List Loc), va_P D classes ([(a, .inl ((ka 0), 8, .inr (.inl g)))]) H → va_D A ([(a, .inl ((ka 0), 8, .inr (.inl g)))]) → va_S A sS.heap H locs → ∀ (ls : Array Slot), lv_has ls 5 [(3, .int (nI i)), (4, .int (nI 8)), (0, .ref a), (1, .long v)] → W pP l eE (headSpec w_Ar_fill ({ frames := 0, cells := 0, slots := 0, locals := 0 })).room sS mM ([.ref a, .long v] : List Value).toArray below meth cC H locs 0 0 (MQ below (va_Qv (fun _ : Unit => True) (fun (_ : Unit) t9 => (True) ∧ va_P D classes ([(a, .inl ((ka 0), 8, .inr (.inl (fun _ => v))))]) t9.heap ∧ va_D A ([(a, .inl ((ka 0), 8, .inr (.inl (fun _ => v))))])) A) ([.ref a, .long v] : List Value).toArray sS 0 0 A) (F0 mM 6 ls []) := by
    intro fuel
    induction fuel with
    | zero => intro i g hi hg hfu; exact absurd hfu (Nat.not_lt_zero _)
    | succ fuel ih =>
      intro i g hi hg hfu H locs hP hD hS ls hl
      refine lv_iload_n hx hb d_Ar_fill_6 rfl (lv_at hl 0 rfl) ?_
      refine lv_iload hx hb d_Ar_fill_7 (lv_at hl 1 rfl) ?_
      refine lv_icmp_ge (tgt := 22) hx hb d_Ar_fill_9 (by decide) (fun c_9 => ?_) (fun c_9 => ?_)
      · have hie : i = 8 := by
          have := (nI_leI (by decide) (by omega)).mp c_9
          omega
        subst hie
        have hP := my_congL hP 0 rfl (g := fun _ => v) hg
        have hD : va_D A [(a, .inl ((ka 0), 8, .inr (.inl (fun _ => v))))] := hD.set (p := 0) rfl
        have hP9 := hP.sub (ws' := [(a, .inl ((ka 0), 8, .inr (.inl (fun _ => v))))]) [0] rfl
        have hD9 := hD.sub (ws' := [(a, .inl ((ka 0), 8, .inr (.inl (fun _ => v))))]) [0] (by decide) rfl
        exact W.vret hx hb hr (fun t9 ht hW => ⟨⟨(), rfl, trivial, trivial, by rw [ht]; exact hP9, hD9⟩, hS.F ht⟩) hS.2.2 d_Ar_fill_22
      · have hlt : i < 8 := by
          rcases Nat.lt_or_ge i 8 with q | q
          · exact q
          · exact absurd (nI_le q (by omega)) c_9
        refine lv_aload_n hx hb d_Ar_fill_12 rfl (lv_at hl 2 rfl) ?_
        refine lv_iload_n hx hb d_Ar_fill_13 rfl (lv_at hl 0 rfl) ?_
        refine lv_lload_n hx hb d_Ar_fill_14 rfl (lv_at hl 3 rfl) ?_
        refine my_last hx hb hK hP hD hS 0 0 rfl rfl (k := i) hlt (Nat.le_of_ble_eq_true rfl) d_Ar_fill_15 (fun H locs hP hD hS => ?_)
        have hP : va_P D classes ([(a, .inl ((ka 0), 8, .inr (.inl (vp_updL g i v))))]) H := hP
        have hD : va_D A ([(a, .inl ((ka 0), 8, .inr (.inl (vp_updL g i v))))]) := hD
        refine lv_iinc (v := nI (i + 1)) (lv' := [(3, .int (nI (i + 1))), (4, .int (nI 8)), (0, .ref a), (1, .long v)]) hx hb d_Ar_fill_16 hl (k := 0) rfl (nI_1 i) (by decide) rfl (fun ls hl => ?_)
        refine lv_goto (tgt := 6) hx hb d_Ar_fill_19 (by decide) ?_
        exact ih (i + 1) (vp_updL g i v) (by omega) (fl_s hg) (by omega) _ _ hP hD hS ls (lv_sub hl [0, 1, 2, 3] rfl)
  exact loop_6 (8 - 0 + 1) 0 f (by decide) (fun j h => absurd h (Nat.not_lt_zero _)) (Nat.lt_succ_self _) _ _ hP hD hS ls (lv_sub hl [1, 0, 2, 3] rfl)
