set_option maxHeartbeats 4000000 in
set_option maxRecDepth 100000 in
theorem c_Mo_isPlace (l : Launch) (x : Int32)  : Met l y_Mo_isPlace w_Mo_isPlace ({ frames := 0, cells := 0, slots := 0, locals := 0 }) (pE [.int x]) (vp_Si (fun r => r = (if 0 ≤ x.toInt ∧ x.toInt < 256 then 1 else 0))) 0 0 (fun _ => False) := by
  refine Met.ofW (cc := b_Mo_isPlace) (maxL := 1) (ret := (some .boolean)) (by decide) rfl ?_
  intro pP eE sS mM args below meth cC s1 B hml hv
  obtain ⟨rfl, hN⟩ := hv
  have hx := B.exec
  have hb := B.bytes
  have hr := B.returns
  have hts := atoms_spec (ws := w_Mo_isPlace) B.pre
  have hown : sS.vm.findClass "VersionedBlockModel" = some mM.cls := findClass_of_methodNamed B.named
  have hlocks := B.notSynchronized
  have hl := lv_entry ([.int x]) (n := 1) (Nat.le_of_ble_eq_true rfl)
  rw [lg_entry_eq]
  generalize (lg_sl ([.int x]) ++ List.replicate (1 - (lg_sl ([.int x])).length) Slot.unset).toArray = ls at hl ⊢
  have hl : lv_has ls 1 [(0, .int x)] := hl
  refine lv_iload_n hx hb d_Mo_isPlace_0 rfl (lv_at hl 0 rfl) ?_
  refine lv_if_lt (tgt := 15) hx hb d_Mo_isPlace_1 (by decide) (fun c_1 => ?_) (fun c_1 => ?_)
  · refine lv_iconst (v := 0) hx hb d_Mo_isPlace_15 (by decide) ?_
    exact W.zret (v := 0) hx hb hr rfl (fun t9 ht hW => ⟨0, rfl, (by rw [if_neg]; intro q; have := Int32.lt_iff_toInt_lt.mp c_1; simp at this; omega), ht⟩) (fun _ h => by cases h) d_Mo_isPlace_16
  · refine lv_iload_n hx hb d_Mo_isPlace_4 rfl (lv_at hl 0 rfl) ?_
    refine lv_sipush (v := 256) hx hb d_Mo_isPlace_5 (by decide) ?_
    refine lv_icmp_ge (tgt := 15) hx hb d_Mo_isPlace_8 (by decide) (fun c_8 => ?_) (fun c_8 => ?_)
    · refine lv_iconst (v := 0) hx hb d_Mo_isPlace_15 (by decide) ?_
      exact W.zret (v := 0) hx hb hr rfl (fun t9 ht hW => ⟨0, rfl, (by rw [if_neg]; intro q; have := Int32.le_iff_toInt_le.mp c_8; simp at this; omega), ht⟩) (fun _ h => by cases h) d_Mo_isPlace_16
    · refine lv_iconst (v := 1) hx hb d_Mo_isPlace_11 (by decide) ?_
      refine lv_goto (tgt := 16) hx hb d_Mo_isPlace_12 (by decide) ?_
      exact W.zret (v := 1) hx hb hr rfl (fun t9 ht hW => ⟨1, rfl, (by rw [if_pos]; have h1 := Int32.not_lt.mp c_1; have h2 := Int32.not_le.mp c_8; have := Int32.le_iff_toInt_le.mp h1; have := Int32.lt_iff_toInt_lt.mp h2; simp at *; omega), ht⟩) (fun _ h => by cases h) d_Mo_isPlace_16
set_option maxHeartbeats 4000000 in
set_option maxRecDepth 100000 in
theorem c_Mo_placeOf (l : Launch) (x : Int64)  : Met l y_Mo_placeOf w_Mo_placeOf ({ frames := 1, cells := 0, slots := 0, locals := 25 }) (pE [.long x]) (vp_Si (fun r => r = (nI (sp_pl x)))) 0 0 (fun _ => False) := by
  refine Met.ofW (cc := b_Mo_placeOf) (maxL := 2) (ret := (some .int)) (by decide) rfl ?_
  intro pP eE sS mM args below meth cC s1 B hml hv
  obtain ⟨rfl, hN⟩ := hv
  have hx := B.exec
  have hb := B.bytes
  have hr := B.returns
  have hts := atoms_spec (ws := w_Mo_placeOf) B.pre
  have hown : sS.vm.findClass "VersionedBlockModel" = some mM.cls := findClass_of_methodNamed B.named
  have hlocks := B.notSynchronized
  have hl := lv_entry ([.long x]) (n := 2) (Nat.le_of_ble_eq_true rfl)
  rw [lg_entry_eq]
  generalize (lg_sl ([.long x]) ++ List.replicate (2 - (lg_sl ([.long x])).length) Slot.unset).toArray = ls at hl ⊢
  have hl : lv_has ls 2 [(0, .long x)] := hl
  refine lv_lload_n hx hb d_Mo_placeOf_0 rfl (lv_at hl 0 rfl) ?_
  refine lv_ldc2 (own := "VersionedBlockModel") (index := 64) (v := 256) hx hb hown (hts _ (List.mem_cons_of_mem _ mw_3_4)) d_Mo_placeOf_1 ?_
  refine vp_callSl (run_of (va_runS (As := [.long x, .long (lN 256)]) (rest := []) ⟨hx, hb, hml, hown, hts⟩ (c_fmJJ l x 256 (by decide) (by decide)) ⟨callB_of 2 hts (gd_tb mw_3_0) rfl rfl rfl (hts _ (List.mem_cons_of_mem _ mw_1_3)) (hts _ (List.mem_cons_of_mem _ mw_2_238)) (by decide +kernel) ⟨Nat.le_of_ble_eq_true rfl, Nat.le_of_ble_eq_true rfl⟩, (hts _ (List.mem_cons_of_mem _ mw_2_239))⟩ ⟨pE_blind, pE_pre hN⟩ rfl rfl hl.1 rfl (lv_room (Nat.le_of_ble_eq_true rfl)) d_Mo_placeOf_4 ⟨Nat.le_of_ble_eq_true rfl, Nat.le_of_ble_eq_true rfl⟩)) (fun r_4 hr_4 => ?_)
  obtain rfl : r_4 = (lN (x.toInt % (256 : Int)).toNat) := hr_4
  refine lv_l2i (v := nI (sp_pl x)) hx hb d_Mo_placeOf_7 ((lN_i _).trans (congrArg nI (sp_pl_fm x))) ?_
  exact W.iret (v := (nI (sp_pl x))) hx hb hr (fun t9 ht hW => ⟨(nI (sp_pl x)), rfl, rfl, ht⟩) (fun _ h => by cases h) d_Mo_placeOf_8
set_option maxHeartbeats 4000000 in
set_option maxRecDepth 100000 in
theorem c_Mo_put_no (l : Launch) (D : va_G) (ka : Nat → ClassId) (mo a1 a2 a3 a4 a5 a6 a7 a8 a9 b1 b2 : Nat) (cn wn nx ld : Int32) (x : Int32) (y : Int64) (hx0 : ¬ (0 ≤ x.toInt ∧ x.toInt < 256)) : Met l y_Mo_put w_Mo_put ({ frames := 1, cells := 0, slots := 0, locals := 20 }) (pR classes (tyS ka) D [.ref mo, .int x, .long y] ([(mo, .inr (5, [.ref a1, .ref a2, .ref a3, .int cn, .ref a4, .ref a5, .ref a6, .ref a7, .int wn, .ref a8, .int nx, .ref a9, .ref b1, .ref b2, .int ld]))])) (vp_Si (fun r => r = 0)) 0 0 (fun _ => False) := by
  refine Met.ofW (cc := b_Mo_put) (maxL := 4) (ret := (some .boolean)) (by decide) rfl ?_
  intro pP eE sS mM args below meth cC s1 B hml hv
  obtain ⟨rfl, hP, hK, hN⟩ := hv
  have hx := B.exec
  have hb := B.bytes
  have hr := B.returns
  have hts := atoms_spec (ws := w_Mo_put) B.pre
  have hown : sS.vm.findClass "VersionedBlockModel" = some mM.cls := findClass_of_methodNamed B.named
  have hlocks := B.notSynchronized
  have hl := lv_entry ([.ref mo, .int x, .long y]) (n := 4) (Nat.le_of_ble_eq_true rfl)
  rw [lg_entry_eq]
  generalize (lg_sl ([.ref mo, .int x, .long y]) ++ List.replicate (4 - (lg_sl ([.ref mo, .int x, .long y])).length) Slot.unset).toArray = ls at hl ⊢
  have hl : lv_has ls 4 [(0, .ref mo), (1, .int x), (2, .long y)] := hl
  refine lv_iload_n hx hb d_Mo_put_0 rfl (lv_at hl 1 rfl) ?_
  refine vp_callSi (run_of (va_runS (As := [.int x]) (rest := []) ⟨hx, hb, hml, hown, hts⟩ (c_Mo_isPlace l x ) ⟨callB_of 1 hts (gd_tb mw_2_198) rfl rfl rfl (hts _ (List.mem_cons_of_mem _ mw_1_4)) (hts _ (List.mem_cons_of_mem _ mw_2_196)) (by decide +kernel) ⟨Nat.le_of_ble_eq_true rfl, Nat.le_of_ble_eq_true rfl⟩, (hts _ (List.mem_cons_of_mem _ mw_2_197))⟩ ⟨pE_blind, pE_pre hN⟩ rfl rfl hl.1 rfl (lv_room (Nat.le_of_ble_eq_true rfl)) d_Mo_put_1 ⟨Nat.le_of_ble_eq_true rfl, Nat.le_of_ble_eq_true rfl⟩)) (fun r_1 hr_1 => ?_)
  refine lv_if_ne (tgt := 9) hx hb d_Mo_put_4 (by decide) (fun c_4 => absurd (by rw [hr_1, if_neg hx0]) c_4) (fun c_4 => ?_)
  refine lv_iconst (v := 0) hx hb d_Mo_put_7 (by decide) ?_
  exact W.zret (v := 0) hx hb hr rfl (fun t9 ht hW => ⟨0, rfl, rfl, ht⟩) (fun _ h => by cases h) d_Mo_put_8
set_option maxHeartbeats 4000000 in
set_option maxRecDepth 100000 in
theorem c_Mo_put (l : Launch) (D : va_G) (ka : Nat → ClassId) (sz : Nat) (mo a1 a2 a3 a4 a5 a6 a7 a8 a9 b1 b2 : Nat) (cn wn nx ld : Int32) (p : Nat) (y : Int64) (P : Nat → Int64) (hp : p < 256) : Met l y_Mo_put w_Mo_put ({ frames := 1, cells := 0, slots := 0, locals := 20 }) (pW classes (tyS ka) D [.ref mo, .int (nI p), .long y] ([(mo, .inr (5, [.ref a1, .ref a2, .ref a3, .int cn, .ref a4, .ref a5, .ref a6, .ref a7, .int wn, .ref a8, .int nx, .ref a9, .ref b1, .ref b2, .int ld])), (a1, .inl ((ka 0), 256, .inr (.inl P)))]) sz) (va_Qi (fun (r : Int32) (_ : Unit) => r = 1) (fun (_ : Unit) t9 => (True) ∧ va_P D classes ([(mo, .inr (5, [.ref a1, .ref a2, .ref a3, .int cn, .ref a4, .ref a5, .ref a6, .ref a7, .int wn, .ref a8, .int nx, .ref a9, .ref b1, .ref b2, .int ld])), (a1, .inl ((ka 0), 256, .inr (.inl (vp_updL P p y))))]) t9.heap ∧ va_D (va_A ([(mo, .inr (5, [.ref a1, .ref a2, .ref a3, .int cn, .ref a4, .ref a5, .ref a6, .ref a7, .int wn, .ref a8, .int nx, .ref a9, .ref b1, .ref b2, .int ld])), (a1, .inl ((ka 0), 256, .inr (.inl P)))]) sz) ([(mo, .inr (5, [.ref a1, .ref a2, .ref a3, .int cn, .ref a4, .ref a5, .ref a6, .ref a7, .int wn, .ref a8, .int nx, .ref a9, .ref b1, .ref b2, .int ld])), (a1, .inl ((ka 0), 256, .inr (.inl (vp_updL P p y))))])) (va_A ([(mo, .inr (5, [.ref a1, .ref a2, .ref a3, .int cn, .ref a4, .ref a5, .ref a6, .ref a7, .int wn, .ref a8, .int nx, .ref a9, .ref b1, .ref b2, .int ld])), (a1, .inl ((ka 0), 256, .inr (.inl P)))]) sz)) 0 0 (va_A ([(mo, .inr (5, [.ref a1, .ref a2, .ref a3, .int cn, .ref a4, .ref a5, .ref a6, .ref a7, .int wn, .ref a8, .int nx, .ref a9, .ref b1, .ref b2, .int ld])), (a1, .inl ((ka 0), 256, .inr (.inl P)))]) sz) := by
  refine Met.ofW (cc := b_Mo_put) (maxL := 4) (ret := (some .boolean)) (by decide) rfl ?_
  intro pP eE sS mM args below meth cC s1 B hml hv
  obtain ⟨rfl, hsz, hP, hK, hN, hD0⟩ := hv
  have hx := B.exec
  have hb := B.bytes
  have hr := B.returns
  have hts := atoms_spec (ws := w_Mo_put) B.pre
  have hown : sS.vm.findClass "VersionedBlockModel" = some mM.cls := findClass_of_methodNamed B.named
  have hlocks := B.notSynchronized
  subst hsz
  have hD := hD0.self (sz := sS.heap.size)
  generalize hAe : va_A ([(mo, .inr (5, [.ref a1, .ref a2, .ref a3, .int cn, .ref a4, .ref a5, .ref a6, .ref a7, .int wn, .ref a8, .int nx, .ref a9, .ref b1, .ref b2, .int ld])), (a1, .inl ((ka 0), 256, .inr (.inl P)))]) sS.heap.size = A at hD ⊢
  have hA : ∀ q : Nat, sS.heap.size ≤ q → A q := fun q h => by rw [← hAe]; exact Or.inr h
  have hS : va_S A sS.heap sS.heap [] := va_S.rf
  have hl := lv_entry ([.ref mo, .int (nI p), .long y]) (n := 4) (Nat.le_of_ble_eq_true rfl)
  rw [lg_entry_eq]
  generalize (lg_sl ([.ref mo, .int (nI p), .long y]) ++ List.replicate (4 - (lg_sl ([.ref mo, .int (nI p), .long y])).length) Slot.unset).toArray = ls at hl ⊢
  have hl : lv_has ls 4 [(0, .ref mo), (1, .int (nI p)), (2, .long y)] := hl
  refine lv_iload_n hx hb d_Mo_put_0 rfl (lv_at hl 1 rfl) ?_
  refine vp_callSi (run_of (va_runS (As := [.int (nI p)]) (rest := []) ⟨hx, hb, hml, hown, hts⟩ (c_Mo_isPlace l (nI p) ) ⟨callB_of 1 hts (gd_tb mw_2_198) rfl rfl rfl (hts _ (List.mem_cons_of_mem _ mw_1_4)) (hts _ (List.mem_cons_of_mem _ mw_2_196)) (by decide +kernel) ⟨Nat.le_of_ble_eq_true rfl, Nat.le_of_ble_eq_true rfl⟩, (hts _ (List.mem_cons_of_mem _ mw_2_197))⟩ ⟨pE_blind, pE_pre hN⟩ rfl rfl hl.1 rfl (lv_room (Nat.le_of_ble_eq_true rfl)) d_Mo_put_1 ⟨Nat.le_of_ble_eq_true rfl, Nat.le_of_ble_eq_true rfl⟩)) (fun r_1 hr_1 => ?_)
  refine lv_if_ne (tgt := 9) hx hb d_Mo_put_4 (by decide) (fun c_4 => ?_) (fun c_4 => absurd c_4 (by rw [hr_1, nI_toInt (by omega), if_pos (by omega)]; decide))
  refine lv_aload_n hx hb d_Mo_put_9 rfl (lv_at hl 0 rfl) ?_
  refine va_get (D := D) (ci := 5) (v := .ref a1) (C := "VersionedBlockModel") (T := T_Mo) (N := 15) hx hb hts (fun w h => List.mem_cons_of_mem _ (il_Mo w h)) hown hK hP 0 rfl rfl 0 (by decide) (hts _ (List.mem_cons_of_mem _ mw_2_145)) (fun _ h9 => h9) rfl d_Mo_put_10 ?_
  refine lv_iload_n hx hb d_Mo_put_13 rfl (lv_at hl 1 rfl) ?_
  refine lv_lload_n hx hb d_Mo_put_14 rfl (lv_at hl 2 rfl) ?_
  refine my_last hx hb hK hP hD hS 1 0 rfl rfl (k := p) hp (Nat.le_of_ble_eq_true rfl) d_Mo_put_15 (fun H locs hP hD hS => ?_)
  have hP : va_P D classes ([(mo, .inr (5, [.ref a1, .ref a2, .ref a3, .int cn, .ref a4, .ref a5, .ref a6, .ref a7, .int wn, .ref a8, .int nx, .ref a9, .ref b1, .ref b2, .int ld])), (a1, .inl ((ka 0), 256, .inr (.inl (vp_updL P p y))))]) H := hP
  have hD : va_D A ([(mo, .inr (5, [.ref a1, .ref a2, .ref a3, .int cn, .ref a4, .ref a5, .ref a6, .ref a7, .int wn, .ref a8, .int nx, .ref a9, .ref b1, .ref b2, .int ld])), (a1, .inl ((ka 0), 256, .inr (.inl (vp_updL P p y))))]) := hD
  refine lv_iconst (v := 1) hx hb d_Mo_put_16 (by decide) ?_
  have hP9 := hP.sub (ws' := [(mo, .inr (5, [.ref a1, .ref a2, .ref a3, .int cn, .ref a4, .ref a5, .ref a6, .ref a7, .int wn, .ref a8, .int nx, .ref a9, .ref b1, .ref b2, .int ld])), (a1, .inl ((ka 0), 256, .inr (.inl (vp_updL P p y))))]) [0, 1] rfl
  have hD9 := hD.sub (ws' := [(mo, .inr (5, [.ref a1, .ref a2, .ref a3, .int cn, .ref a4, .ref a5, .ref a6, .ref a7, .int wn, .ref a8, .int nx, .ref a9, .ref b1, .ref b2, .int ld])), (a1, .inl ((ka 0), 256, .inr (.inl (vp_updL P p y))))]) [0, 1] (by decide) rfl
  exact W.zret (v := 1) hx hb hr rfl (fun t9 ht hW => ⟨⟨1, (), rfl, rfl, trivial, by rw [ht]; exact hP9, hD9⟩, hS.F ht⟩) hS.2.2 d_Mo_put_17
set_option maxHeartbeats 4000000 in
set_option maxRecDepth 100000 in
theorem c_Mo_get_no (l : Launch) (D : va_G) (ka : Nat → ClassId) (mo a1 a2 a3 a4 a5 a6 a7 a8 a9 b1 b2 : Nat) (cn wn nx ld : Int32) (x : Int32) (hx0 : ¬ (0 ≤ x.toInt ∧ x.toInt < 256)) : Met l y_Mo_get w_Mo_get ({ frames := 1, cells := 0, slots := 0, locals := 20 }) (pR classes (tyS ka) D [.ref mo, .int x] ([(mo, .inr (5, [.ref a1, .ref a2, .ref a3, .int cn, .ref a4, .ref a5, .ref a6, .ref a7, .int wn, .ref a8, .int nx, .ref a9, .ref b1, .ref b2, .int ld]))])) (vp_Sl (fun r => r = 0)) 0 0 (fun _ => False) := by
  refine Met.ofW (cc := b_Mo_get) (maxL := 2) (ret := (some .long)) (by decide) rfl ?_
  intro pP eE sS mM args below meth cC s1 B hml hv
  obtain ⟨rfl, hP, hK, hN⟩ := hv
  have hx := B.exec
  have hb := B.bytes
  have hr := B.returns
  have hts := atoms_spec (ws := w_Mo_get) B.pre
  have hown : sS.vm.findClass "VersionedBlockModel" = some mM.cls := findClass_of_methodNamed B.named
  have hlocks := B.notSynchronized
  have hl := lv_entry ([.ref mo, .int x]) (n := 2) (Nat.le_of_ble_eq_true rfl)
  rw [lg_entry_eq]
  generalize (lg_sl ([.ref mo, .int x]) ++ List.replicate (2 - (lg_sl ([.ref mo, .int x])).length) Slot.unset).toArray = ls at hl ⊢
  have hl : lv_has ls 2 [(0, .ref mo), (1, .int x)] := hl
  refine lv_iload_n hx hb d_Mo_get_0 rfl (lv_at hl 1 rfl) ?_
  refine vp_callSi (run_of (va_runS (As := [.int x]) (rest := []) ⟨hx, hb, hml, hown, hts⟩ (c_Mo_isPlace l x ) ⟨callB_of 1 hts (gd_tb mw_2_198) rfl rfl rfl (hts _ (List.mem_cons_of_mem _ mw_1_4)) (hts _ (List.mem_cons_of_mem _ mw_2_196)) (by decide +kernel) ⟨Nat.le_of_ble_eq_true rfl, Nat.le_of_ble_eq_true rfl⟩, (hts _ (List.mem_cons_of_mem _ mw_2_197))⟩ ⟨pE_blind, pE_pre hN⟩ rfl rfl hl.1 rfl (lv_room (Nat.le_of_ble_eq_true rfl)) d_Mo_get_1 ⟨Nat.le_of_ble_eq_true rfl, Nat.le_of_ble_eq_true rfl⟩)) (fun r_1 hr_1 => ?_)
  refine lv_if_eq (tgt := 16) hx hb d_Mo_get_4 (by decide) (fun c_4 => ?_) (fun c_4 => absurd (by rw [hr_1, if_neg hx0]) c_4)
  refine lv_lconst (v := 0) hx hb d_Mo_get_16 (by decide) ?_
  exact W.lret (v := 0) hx hb hr (fun t9 ht hW => ⟨0, rfl, rfl, ht⟩) (fun _ h => by cases h) d_Mo_get_17
set_option maxHeartbeats 4000000 in
set_option maxRecDepth 100000 in
theorem c_Mo_get (l : Launch) (D : va_G) (ka : Nat → ClassId) (mo a1 a2 a3 a4 a5 a6 a7 a8 a9 b1 b2 : Nat) (cn wn nx ld : Int32) (p : Nat) (P : Nat → Int64) (hp : p < 256) : Met l y_Mo_get w_Mo_get ({ frames := 1, cells := 0, slots := 0, locals := 20 }) (pR classes (tyS ka) D [.ref mo, .int (nI p)] ([(mo, .inr (5, [.ref a1, .ref a2, .ref a3, .int cn, .ref a4, .ref a5, .ref a6, .ref a7, .int wn, .ref a8, .int nx, .ref a9, .ref b1, .ref b2, .int ld])), (a1, .inl ((ka 0), 256, .inr (.inl P)))])) (vp_Sl (fun r => r = (P p))) 0 0 (fun _ => False) := by
  refine Met.ofW (cc := b_Mo_get) (maxL := 2) (ret := (some .long)) (by decide) rfl ?_
  intro pP eE sS mM args below meth cC s1 B hml hv
  obtain ⟨rfl, hP, hK, hN⟩ := hv
  have hx := B.exec
  have hb := B.bytes
  have hr := B.returns
  have hts := atoms_spec (ws := w_Mo_get) B.pre
  have hown : sS.vm.findClass "VersionedBlockModel" = some mM.cls := findClass_of_methodNamed B.named
  have hlocks := B.notSynchronized
  have hl := lv_entry ([.ref mo, .int (nI p)]) (n := 2) (Nat.le_of_ble_eq_true rfl)
  rw [lg_entry_eq]
  generalize (lg_sl ([.ref mo, .int (nI p)]) ++ List.replicate (2 - (lg_sl ([.ref mo, .int (nI p)])).length) Slot.unset).toArray = ls at hl ⊢
  have hl : lv_has ls 2 [(0, .ref mo), (1, .int (nI p))] := hl
  refine lv_iload_n hx hb d_Mo_get_0 rfl (lv_at hl 1 rfl) ?_
  refine vp_callSi (run_of (va_runS (As := [.int (nI p)]) (rest := []) ⟨hx, hb, hml, hown, hts⟩ (c_Mo_isPlace l (nI p) ) ⟨callB_of 1 hts (gd_tb mw_2_198) rfl rfl rfl (hts _ (List.mem_cons_of_mem _ mw_1_4)) (hts _ (List.mem_cons_of_mem _ mw_2_196)) (by decide +kernel) ⟨Nat.le_of_ble_eq_true rfl, Nat.le_of_ble_eq_true rfl⟩, (hts _ (List.mem_cons_of_mem _ mw_2_197))⟩ ⟨pE_blind, pE_pre hN⟩ rfl rfl hl.1 rfl (lv_room (Nat.le_of_ble_eq_true rfl)) d_Mo_get_1 ⟨Nat.le_of_ble_eq_true rfl, Nat.le_of_ble_eq_true rfl⟩)) (fun r_1 hr_1 => ?_)
  refine lv_if_eq (tgt := 16) hx hb d_Mo_get_4 (by decide) (fun c_4 => absurd c_4 (by rw [hr_1, nI_toInt (by omega), if_pos (by omega)]; decide)) (fun c_4 => ?_)
  refine lv_aload_n hx hb d_Mo_get_7 rfl (lv_at hl 0 rfl) ?_
  refine va_get (D := D) (ci := 5) (v := .ref a1) (C := "VersionedBlockModel") (T := T_Mo) (N := 15) hx hb hts (fun w h => List.mem_cons_of_mem _ (il_Mo w h)) hown hK hP 0 rfl rfl 0 (by decide) (hts _ (List.mem_cons_of_mem _ mw_2_145)) (fun _ h9 => h9) rfl d_Mo_get_8 ?_
  refine lv_iload_n hx hb d_Mo_get_11 rfl (lv_at hl 1 rfl) ?_
  refine my_lald hx hb hK hP 1 0 rfl rfl (k := p) hp (Nat.le_of_ble_eq_true rfl) d_Mo_get_12 ?_
  refine lv_goto (tgt := 17) hx hb d_Mo_get_13 (by decide) ?_
  exact W.lret (v := (P p)) hx hb hr (fun t9 ht hW => ⟨(P p), rfl, rfl, ht⟩) (fun _ h => by cases h) d_Mo_get_17
set_option maxHeartbeats 4000000 in
set_option maxRecDepth 100000 in
theorem c_Mo_begin (l : Launch) (D : va_G) (ka : Nat → ClassId) (sz : Nat) (mo a1 a2 a3 a4 a5 a6 a7 a8 a9 b1 b2 : Nat) (cn wn nx ld : Int32)  : Met l y_Mo_begin w_Mo_begin ({ frames := 0, cells := 0, slots := 0, locals := 0 }) (pW classes (tyS ka) D [.ref mo] ([(mo, .inr (5, [.ref a1, .ref a2, .ref a3, .int cn, .ref a4, .ref a5, .ref a6, .ref a7, .int wn, .ref a8, .int nx, .ref a9, .ref b1, .ref b2, .int ld]))]) sz) (va_Qi (fun (r : Int32) (_ : Unit) => r = cn) (fun (_ : Unit) t9 => (True) ∧ va_P D classes ([(mo, .inr (5, [.ref a1, .ref a2, .ref a3, .int (nI 0), .ref a4, .ref a5, .ref a6, .ref a7, .int wn, .ref a8, .int nx, .ref a9, .ref b1, .ref b2, .int ld]))]) t9.heap ∧ va_D (va_A ([(mo, .inr (5, [.ref a1, .ref a2, .ref a3, .int cn, .ref a4, .ref a5, .ref a6, .ref a7, .int wn, .ref a8, .int nx, .ref a9, .ref b1, .ref b2, .int ld]))]) sz) ([(mo, .inr (5, [.ref a1, .ref a2, .ref a3, .int (nI 0), .ref a4, .ref a5, .ref a6, .ref a7, .int wn, .ref a8, .int nx, .ref a9, .ref b1, .ref b2, .int ld]))])) (va_A ([(mo, .inr (5, [.ref a1, .ref a2, .ref a3, .int cn, .ref a4, .ref a5, .ref a6, .ref a7, .int wn, .ref a8, .int nx, .ref a9, .ref b1, .ref b2, .int ld]))]) sz)) 0 0 (va_A ([(mo, .inr (5, [.ref a1, .ref a2, .ref a3, .int cn, .ref a4, .ref a5, .ref a6, .ref a7, .int wn, .ref a8, .int nx, .ref a9, .ref b1, .ref b2, .int ld]))]) sz) := by
  refine Met.ofW (cc := b_Mo_begin) (maxL := 2) (ret := (some .int)) (by decide) rfl ?_
  intro pP eE sS mM args below meth cC s1 B hml hv
  obtain ⟨rfl, hsz, hP, hK, hN, hD0⟩ := hv
  have hx := B.exec
  have hb := B.bytes
  have hr := B.returns
  have hts := atoms_spec (ws := w_Mo_begin) B.pre
  have hown : sS.vm.findClass "VersionedBlockModel" = some mM.cls := findClass_of_methodNamed B.named
  have hlocks := B.notSynchronized
  subst hsz
  have hD := hD0.self (sz := sS.heap.size)
  generalize hAe : va_A ([(mo, .inr (5, [.ref a1, .ref a2, .ref a3, .int cn, .ref a4, .ref a5, .ref a6, .ref a7, .int wn, .ref a8, .int nx, .ref a9, .ref b1, .ref b2, .int ld]))]) sS.heap.size = A at hD ⊢
  have hA : ∀ q : Nat, sS.heap.size ≤ q → A q := fun q h => by rw [← hAe]; exact Or.inr h
  have hS : va_S A sS.heap sS.heap [] := va_S.rf
  have hl := lv_entry ([.ref mo]) (n := 2) (Nat.le_of_ble_eq_true rfl)
  rw [lg_entry_eq]
  generalize (lg_sl ([.ref mo]) ++ List.replicate (2 - (lg_sl ([.ref mo])).length) Slot.unset).toArray = ls at hl ⊢
  have hl : lv_has ls 2 [(0, .ref mo)] := hl
  refine lv_aload_n hx hb d_Mo_begin_0 rfl (lv_at hl 0 rfl) ?_
  refine va_get (D := D) (ci := 5) (v := .int cn) (C := "VersionedBlockModel") (T := T_Mo) (N := 15) hx hb hts (fun w h => List.mem_cons_of_mem _ (il_Mo w h)) hown hK hP 0 rfl rfl 3 (by decide) (hts _ (List.mem_cons_of_mem _ mw_2_148)) (fun _ h9 => h9) rfl d_Mo_begin_1 ?_
  refine lv_istore_n (lv' := [(1, .int cn), (0, .ref mo)]) hx hb d_Mo_begin_4 rfl hl (by decide) rfl (fun ls hl => ?_)
  refine lv_aload_n hx hb d_Mo_begin_5 rfl (lv_at hl 1 rfl) ?_
  refine lv_iconst (v := (nI 0)) hx hb d_Mo_begin_6 (by decide) ?_
  refine va_put (D := D) (ci := 5) (v := .int (nI 0)) (ty := .int) (C := "VersionedBlockModel") (T := T_Mo) (N := 15) hx hb hts (fun w h => List.mem_cons_of_mem _ (il_Mo w h)) t_Mo t_Mo_ok n_Mo hown hK hP hD hS 0 rfl rfl 3 (by decide) (hts _ (List.mem_cons_of_mem _ mw_2_148)) (fun _ h9 => h9) rfl (by decide +kernel) rfl rfl (Nat.le_of_ble_eq_true rfl) d_Mo_begin_7 (fun H locs hP hD hS => ?_)
  have hP : va_P D classes ([(mo, .inr (5, [.ref a1, .ref a2, .ref a3, .int (nI 0), .ref a4, .ref a5, .ref a6, .ref a7, .int wn, .ref a8, .int nx, .ref a9, .ref b1, .ref b2, .int ld]))]) H := hP
  have hD : va_D A ([(mo, .inr (5, [.ref a1, .ref a2, .ref a3, .int (nI 0), .ref a4, .ref a5, .ref a6, .ref a7, .int wn, .ref a8, .int nx, .ref a9, .ref b1, .ref b2, .int ld]))]) := hD
  refine lv_iload_n hx hb d_Mo_begin_10 rfl (lv_at hl 0 rfl) ?_
  have hP9 := hP.sub (ws' := [(mo, .inr (5, [.ref a1, .ref a2, .ref a3, .int (nI 0), .ref a4, .ref a5, .ref a6, .ref a7, .int wn, .ref a8, .int nx, .ref a9, .ref b1, .ref b2, .int ld]))]) [0] rfl
  have hD9 := hD.sub (ws' := [(mo, .inr (5, [.ref a1, .ref a2, .ref a3, .int (nI 0), .ref a4, .ref a5, .ref a6, .ref a7, .int wn, .ref a8, .int nx, .ref a9, .ref b1, .ref b2, .int ld]))]) [0] (by decide) rfl
  exact W.iret (v := cn) hx hb hr (fun t9 ht hW => ⟨⟨cn, (), rfl, rfl, trivial, by rw [ht]; exact hP9, hD9⟩, hS.F ht⟩) hS.2.2 d_Mo_begin_11
set_option maxHeartbeats 4000000 in
set_option maxRecDepth 100000 in
theorem c_Mo_count (l : Launch) (D : va_G) (ka : Nat → ClassId) (mo a1 a2 a3 a4 a5 a6 a7 a8 a9 b1 b2 : Nat) (cn wn nx ld : Int32)  : Met l y_Mo_count w_Mo_count ({ frames := 0, cells := 0, slots := 0, locals := 0 }) (pR classes (tyS ka) D [.ref mo] ([(mo, .inr (5, [.ref a1, .ref a2, .ref a3, .int cn, .ref a4, .ref a5, .ref a6, .ref a7, .int wn, .ref a8, .int nx, .ref a9, .ref b1, .ref b2, .int ld]))])) (vp_Si (fun r => r = cn)) 0 0 (fun _ => False) := by
  refine Met.ofW (cc := b_Mo_count) (maxL := 1) (ret := (some .int)) (by decide) rfl ?_
  intro pP eE sS mM args below meth cC s1 B hml hv
  obtain ⟨rfl, hP, hK, hN⟩ := hv
  have hx := B.exec
  have hb := B.bytes
  have hr := B.returns
  have hts := atoms_spec (ws := w_Mo_count) B.pre
  have hown : sS.vm.findClass "VersionedBlockModel" = some mM.cls := findClass_of_methodNamed B.named
  have hlocks := B.notSynchronized
  have hl := lv_entry ([.ref mo]) (n := 1) (Nat.le_of_ble_eq_true rfl)
  rw [lg_entry_eq]
  generalize (lg_sl ([.ref mo]) ++ List.replicate (1 - (lg_sl ([.ref mo])).length) Slot.unset).toArray = ls at hl ⊢
  have hl : lv_has ls 1 [(0, .ref mo)] := hl
  refine lv_aload_n hx hb d_Mo_count_0 rfl (lv_at hl 0 rfl) ?_
  refine va_get (D := D) (ci := 5) (v := .int cn) (C := "VersionedBlockModel") (T := T_Mo) (N := 15) hx hb hts (fun w h => List.mem_cons_of_mem _ (il_Mo w h)) hown hK hP 0 rfl rfl 3 (by decide) (hts _ (List.mem_cons_of_mem _ mw_2_148)) (fun _ h9 => h9) rfl d_Mo_count_1 ?_
  exact W.iret (v := cn) hx hb hr (fun t9 ht hW => ⟨cn, rfl, rfl, ht⟩) (fun _ h => by cases h) d_Mo_count_4
set_option maxHeartbeats 4000000 in
set_option maxRecDepth 100000 in
theorem c_Mo_unweave (l : Launch) (D : va_G) (ka : Nat → ClassId) (sz : Nat) (mo a1 a2 a3 a4 a5 a6 a7 a8 a9 b1 b2 : Nat) (cn wn nx ld : Int32)  : Met l y_Mo_unweave w_Mo_unweave ({ frames := 0, cells := 0, slots := 0, locals := 0 }) (pW classes (tyS ka) D [.ref mo] ([(mo, .inr (5, [.ref a1, .ref a2, .ref a3, .int cn, .ref a4, .ref a5, .ref a6, .ref a7, .int wn, .ref a8, .int nx, .ref a9, .ref b1, .ref b2, .int ld]))]) sz) (va_Qi (fun (r : Int32) (_ : Unit) => r = wn) (fun (_ : Unit) t9 => (True) ∧ va_P D classes ([(mo, .inr (5, [.ref a1, .ref a2, .ref a3, .int cn, .ref a4, .ref a5, .ref a6, .ref a7, .int (nI 0), .ref a8, .int nx, .ref a9, .ref b1, .ref b2, .int ld]))]) t9.heap ∧ va_D (va_A ([(mo, .inr (5, [.ref a1, .ref a2, .ref a3, .int cn, .ref a4, .ref a5, .ref a6, .ref a7, .int wn, .ref a8, .int nx, .ref a9, .ref b1, .ref b2, .int ld]))]) sz) ([(mo, .inr (5, [.ref a1, .ref a2, .ref a3, .int cn, .ref a4, .ref a5, .ref a6, .ref a7, .int (nI 0), .ref a8, .int nx, .ref a9, .ref b1, .ref b2, .int ld]))])) (va_A ([(mo, .inr (5, [.ref a1, .ref a2, .ref a3, .int cn, .ref a4, .ref a5, .ref a6, .ref a7, .int wn, .ref a8, .int nx, .ref a9, .ref b1, .ref b2, .int ld]))]) sz)) 0 0 (va_A ([(mo, .inr (5, [.ref a1, .ref a2, .ref a3, .int cn, .ref a4, .ref a5, .ref a6, .ref a7, .int wn, .ref a8, .int nx, .ref a9, .ref b1, .ref b2, .int ld]))]) sz) := by
  refine Met.ofW (cc := b_Mo_unweave) (maxL := 2) (ret := (some .int)) (by decide) rfl ?_
  intro pP eE sS mM args below meth cC s1 B hml hv
  obtain ⟨rfl, hsz, hP, hK, hN, hD0⟩ := hv
  have hx := B.exec
  have hb := B.bytes
  have hr := B.returns
  have hts := atoms_spec (ws := w_Mo_unweave) B.pre
  have hown : sS.vm.findClass "VersionedBlockModel" = some mM.cls := findClass_of_methodNamed B.named
  have hlocks := B.notSynchronized
  subst hsz
  have hD := hD0.self (sz := sS.heap.size)
  generalize hAe : va_A ([(mo, .inr (5, [.ref a1, .ref a2, .ref a3, .int cn, .ref a4, .ref a5, .ref a6, .ref a7, .int wn, .ref a8, .int nx, .ref a9, .ref b1, .ref b2, .int ld]))]) sS.heap.size = A at hD ⊢
  have hA : ∀ q : Nat, sS.heap.size ≤ q → A q := fun q h => by rw [← hAe]; exact Or.inr h
  have hS : va_S A sS.heap sS.heap [] := va_S.rf
  have hl := lv_entry ([.ref mo]) (n := 2) (Nat.le_of_ble_eq_true rfl)
  rw [lg_entry_eq]
  generalize (lg_sl ([.ref mo]) ++ List.replicate (2 - (lg_sl ([.ref mo])).length) Slot.unset).toArray = ls at hl ⊢
  have hl : lv_has ls 2 [(0, .ref mo)] := hl
  refine lv_aload_n hx hb d_Mo_unweave_0 rfl (lv_at hl 0 rfl) ?_
  refine va_get (D := D) (ci := 5) (v := .int wn) (C := "VersionedBlockModel") (T := T_Mo) (N := 15) hx hb hts (fun w h => List.mem_cons_of_mem _ (il_Mo w h)) hown hK hP 0 rfl rfl 8 (by decide) (hts _ (List.mem_cons_of_mem _ mw_2_153)) (fun _ h9 => h9) rfl d_Mo_unweave_1 ?_
  refine lv_istore_n (lv' := [(1, .int wn), (0, .ref mo)]) hx hb d_Mo_unweave_4 rfl hl (by decide) rfl (fun ls hl => ?_)
  refine lv_aload_n hx hb d_Mo_unweave_5 rfl (lv_at hl 1 rfl) ?_
  refine lv_iconst (v := (nI 0)) hx hb d_Mo_unweave_6 (by decide) ?_
  refine va_put (D := D) (ci := 5) (v := .int (nI 0)) (ty := .int) (C := "VersionedBlockModel") (T := T_Mo) (N := 15) hx hb hts (fun w h => List.mem_cons_of_mem _ (il_Mo w h)) t_Mo t_Mo_ok n_Mo hown hK hP hD hS 0 rfl rfl 8 (by decide) (hts _ (List.mem_cons_of_mem _ mw_2_153)) (fun _ h9 => h9) rfl (by decide +kernel) rfl rfl (Nat.le_of_ble_eq_true rfl) d_Mo_unweave_7 (fun H locs hP hD hS => ?_)
  have hP : va_P D classes ([(mo, .inr (5, [.ref a1, .ref a2, .ref a3, .int cn, .ref a4, .ref a5, .ref a6, .ref a7, .int (nI 0), .ref a8, .int nx, .ref a9, .ref b1, .ref b2, .int ld]))]) H := hP
  have hD : va_D A ([(mo, .inr (5, [.ref a1, .ref a2, .ref a3, .int cn, .ref a4, .ref a5, .ref a6, .ref a7, .int (nI 0), .ref a8, .int nx, .ref a9, .ref b1, .ref b2, .int ld]))]) := hD
  refine lv_iload_n hx hb d_Mo_unweave_10 rfl (lv_at hl 0 rfl) ?_
  have hP9 := hP.sub (ws' := [(mo, .inr (5, [.ref a1, .ref a2, .ref a3, .int cn, .ref a4, .ref a5, .ref a6, .ref a7, .int (nI 0), .ref a8, .int nx, .ref a9, .ref b1, .ref b2, .int ld]))]) [0] rfl
  have hD9 := hD.sub (ws' := [(mo, .inr (5, [.ref a1, .ref a2, .ref a3, .int cn, .ref a4, .ref a5, .ref a6, .ref a7, .int (nI 0), .ref a8, .int nx, .ref a9, .ref b1, .ref b2, .int ld]))]) [0] (by decide) rfl
  exact W.iret (v := wn) hx hb hr (fun t9 ht hW => ⟨⟨wn, (), rfl, rfl, trivial, by rw [ht]; exact hP9, hD9⟩, hS.F ht⟩) hS.2.2 d_Mo_unweave_11
set_option maxHeartbeats 4000000 in
set_option maxRecDepth 100000 in
theorem c_Mo_weave_full (l : Launch) (D : va_G) (ka : Nat → ClassId) (mo a1 a2 a3 a4 a5 a6 a7 a8 a9 b1 b2 : Nat) (cn nx ld : Int32) (wl : Nat) (b : Int64) (hf : 65536 < wl + 16) (hwl : wl ≤ 65536) : Met l y_Mo_weave w_Mo_weave ({ frames := 0, cells := 0, slots := 0, locals := 0 }) (pR classes (tyS ka) D [.ref mo, .long b] ([(mo, .inr (5, [.ref a1, .ref a2, .ref a3, .int cn, .ref a4, .ref a5, .ref a6, .ref a7, .int (nI wl), .ref a8, .int nx, .ref a9, .ref b1, .ref b2, .int ld]))])) (vp_Si (fun r => r = (-3))) 0 0 (fun _ => False) := by
  refine Met.ofW (cc := b_Mo_weave) (maxL := 3) (ret := (some .int)) (by decide) rfl ?_
  intro pP eE sS mM args below meth cC s1 B hml hv
  obtain ⟨rfl, hP, hK, hN⟩ := hv
  have hx := B.exec
  have hb := B.bytes
  have hr := B.returns
  have hts := atoms_spec (ws := w_Mo_weave) B.pre
  have hown : sS.vm.findClass "VersionedBlockModel" = some mM.cls := findClass_of_methodNamed B.named
  have hlocks := B.notSynchronized
  have hl := lv_entry ([.ref mo, .long b]) (n := 3) (Nat.le_of_ble_eq_true rfl)
  rw [lg_entry_eq]
  generalize (lg_sl ([.ref mo, .long b]) ++ List.replicate (3 - (lg_sl ([.ref mo, .long b])).length) Slot.unset).toArray = ls at hl ⊢
  have hl : lv_has ls 3 [(0, .ref mo), (1, .long b)] := hl
  refine lv_aload_n hx hb d_Mo_weave_0 rfl (lv_at hl 0 rfl) ?_
  refine va_get (D := D) (ci := 5) (v := .int (nI wl)) (C := "VersionedBlockModel") (T := T_Mo) (N := 15) hx hb hts (fun w h => List.mem_cons_of_mem _ (il_Mo w h)) hown hK hP 0 rfl rfl 8 (by decide) (hts _ (List.mem_cons_of_mem _ mw_2_153)) (fun _ h9 => h9) rfl d_Mo_weave_1 ?_
  refine lv_bipush (v := (nI 16)) hx hb d_Mo_weave_4 (by decide) ?_
  refine lv_iadd hx hb d_Mo_weave_6 ?_
  refine lv_topi (fun v_6 ev_6 => ?_)
  obtain rfl : v_6 = nI (wl + 16) := ev_6.trans (nI_add _ _)
  refine lv_ldc (own := "VersionedBlockModel") (index := 63) (v := 65536) hx hb hown (hts _ (List.mem_cons_of_mem _ mw_2_220)) d_Mo_weave_7 ?_
  refine lv_icmp_le (tgt := 15) hx hb d_Mo_weave_9 (by decide) (fun c_9 => absurd c_9 (nI_ge (a := 65536) hf (by omega))) (fun c_9 => ?_)
  refine lv_bipush (v := (-3)) hx hb d_Mo_weave_12 (by decide) ?_
  exact W.iret (v := (-3)) hx hb hr (fun t9 ht hW => ⟨(-3), rfl, rfl, ht⟩) (fun _ h => by cases h) d_Mo_weave_14
set_option maxHeartbeats 4000000 in
set_option maxRecDepth 100000 in
theorem c_Mo_weave (l : Launch) (D : va_G) (ka : Nat → ClassId) (sz : Nat) (mo a1 a2 a3 a4 a5 a6 a7 a8 a9 b1 b2 : Nat) (cn nx ld : Int32) (wl : Nat) (b : Int64) (hf : wl + 16 ≤ 65536) : Met l y_Mo_weave w_Mo_weave ({ frames := 0, cells := 0, slots := 0, locals := 0 }) (pW classes (tyS ka) D [.ref mo, .long b] ([(mo, .inr (5, [.ref a1, .ref a2, .ref a3, .int cn, .ref a4, .ref a5, .ref a6, .ref a7, .int (nI wl), .ref a8, .int nx, .ref a9, .ref b1, .ref b2, .int ld]))]) sz) (va_Qi (fun (r : Int32) (_ : Unit) => r = (nI (wl + 16))) (fun (_ : Unit) t9 => (True) ∧ va_P D classes ([(mo, .inr (5, [.ref a1, .ref a2, .ref a3, .int cn, .ref a4, .ref a5, .ref a6, .ref a7, .int (nI (wl + 16)), .ref a8, .int nx, .ref a9, .ref b1, .ref b2, .int ld]))]) t9.heap ∧ va_D (va_A ([(mo, .inr (5, [.ref a1, .ref a2, .ref a3, .int cn, .ref a4, .ref a5, .ref a6, .ref a7, .int (nI wl), .ref a8, .int nx, .ref a9, .ref b1, .ref b2, .int ld]))]) sz) ([(mo, .inr (5, [.ref a1, .ref a2, .ref a3, .int cn, .ref a4, .ref a5, .ref a6, .ref a7, .int (nI (wl + 16)), .ref a8, .int nx, .ref a9, .ref b1, .ref b2, .int ld]))])) (va_A ([(mo, .inr (5, [.ref a1, .ref a2, .ref a3, .int cn, .ref a4, .ref a5, .ref a6, .ref a7, .int (nI wl), .ref a8, .int nx, .ref a9, .ref b1, .ref b2, .int ld]))]) sz)) 0 0 (va_A ([(mo, .inr (5, [.ref a1, .ref a2, .ref a3, .int cn, .ref a4, .ref a5, .ref a6, .ref a7, .int (nI wl), .ref a8, .int nx, .ref a9, .ref b1, .ref b2, .int ld]))]) sz) := by
  refine Met.ofW (cc := b_Mo_weave) (maxL := 3) (ret := (some .int)) (by decide) rfl ?_
  intro pP eE sS mM args below meth cC s1 B hml hv
  obtain ⟨rfl, hsz, hP, hK, hN, hD0⟩ := hv
  have hx := B.exec
  have hb := B.bytes
  have hr := B.returns
  have hts := atoms_spec (ws := w_Mo_weave) B.pre
  have hown : sS.vm.findClass "VersionedBlockModel" = some mM.cls := findClass_of_methodNamed B.named
  have hlocks := B.notSynchronized
  subst hsz
  have hD := hD0.self (sz := sS.heap.size)
  generalize hAe : va_A ([(mo, .inr (5, [.ref a1, .ref a2, .ref a3, .int cn, .ref a4, .ref a5, .ref a6, .ref a7, .int (nI wl), .ref a8, .int nx, .ref a9, .ref b1, .ref b2, .int ld]))]) sS.heap.size = A at hD ⊢
  have hA : ∀ q : Nat, sS.heap.size ≤ q → A q := fun q h => by rw [← hAe]; exact Or.inr h
  have hS : va_S A sS.heap sS.heap [] := va_S.rf
  have hl := lv_entry ([.ref mo, .long b]) (n := 3) (Nat.le_of_ble_eq_true rfl)
  rw [lg_entry_eq]
  generalize (lg_sl ([.ref mo, .long b]) ++ List.replicate (3 - (lg_sl ([.ref mo, .long b])).length) Slot.unset).toArray = ls at hl ⊢
  have hl : lv_has ls 3 [(0, .ref mo), (1, .long b)] := hl
  refine lv_aload_n hx hb d_Mo_weave_0 rfl (lv_at hl 0 rfl) ?_
  refine va_get (D := D) (ci := 5) (v := .int (nI wl)) (C := "VersionedBlockModel") (T := T_Mo) (N := 15) hx hb hts (fun w h => List.mem_cons_of_mem _ (il_Mo w h)) hown hK hP 0 rfl rfl 8 (by decide) (hts _ (List.mem_cons_of_mem _ mw_2_153)) (fun _ h9 => h9) rfl d_Mo_weave_1 ?_
  refine lv_bipush (v := (nI 16)) hx hb d_Mo_weave_4 (by decide) ?_
  refine lv_iadd hx hb d_Mo_weave_6 ?_
  refine lv_topi (fun v_6 ev_6 => ?_)
  obtain rfl : v_6 = nI (wl + 16) := ev_6.trans (nI_add _ _)
  refine lv_ldc (own := "VersionedBlockModel") (index := 63) (v := 65536) hx hb hown (hts _ (List.mem_cons_of_mem _ mw_2_220)) d_Mo_weave_7 ?_
  refine lv_icmp_le (tgt := 15) hx hb d_Mo_weave_9 (by decide) (fun c_9 => ?_) (fun c_9 => absurd (nI_le (b := 65536) hf (by decide)) c_9)
  refine lv_aload_n hx hb d_Mo_weave_15 rfl (lv_at hl 0 rfl) ?_
  refine lv_dup hx hb d_Mo_weave_16 rfl ?_
  refine va_get (D := D) (ci := 5) (v := .int (nI wl)) (C := "VersionedBlockModel") (T := T_Mo) (N := 15) hx hb hts (fun w h => List.mem_cons_of_mem _ (il_Mo w h)) hown hK hP 0 rfl rfl 8 (by decide) (hts _ (List.mem_cons_of_mem _ mw_2_153)) (fun _ h9 => h9) rfl d_Mo_weave_17 ?_
  refine lv_bipush (v := (nI 16)) hx hb d_Mo_weave_20 (by decide) ?_
  refine lv_iadd hx hb d_Mo_weave_22 ?_
  refine lv_topi (fun v_22 ev_22 => ?_)
  obtain rfl : v_22 = nI (wl + 16) := ev_22.trans (nI_add _ _)
  refine va_put (D := D) (ci := 5) (v := .int (nI (wl + 16))) (ty := .int) (C := "VersionedBlockModel") (T := T_Mo) (N := 15) hx hb hts (fun w h => List.mem_cons_of_mem _ (il_Mo w h)) t_Mo t_Mo_ok n_Mo hown hK hP hD hS 0 rfl rfl 8 (by decide) (hts _ (List.mem_cons_of_mem _ mw_2_153)) (fun _ h9 => h9) rfl (by decide +kernel) rfl rfl (Nat.le_of_ble_eq_true rfl) d_Mo_weave_23 (fun H locs hP hD hS => ?_)
  have hP : va_P D classes ([(mo, .inr (5, [.ref a1, .ref a2, .ref a3, .int cn, .ref a4, .ref a5, .ref a6, .ref a7, .int (nI (wl + 16)), .ref a8, .int nx, .ref a9, .ref b1, .ref b2, .int ld]))]) H := hP
  have hD : va_D A ([(mo, .inr (5, [.ref a1, .ref a2, .ref a3, .int cn, .ref a4, .ref a5, .ref a6, .ref a7, .int (nI (wl + 16)), .ref a8, .int nx, .ref a9, .ref b1, .ref b2, .int ld]))]) := hD
  refine lv_aload_n hx hb d_Mo_weave_26 rfl (lv_at hl 0 rfl) ?_
  refine va_get (D := D) (ci := 5) (v := .int (nI (wl + 16))) (C := "VersionedBlockModel") (T := T_Mo) (N := 15) hx hb hts (fun w h => List.mem_cons_of_mem _ (il_Mo w h)) hown hK hP 0 rfl rfl 8 (by decide) (hts _ (List.mem_cons_of_mem _ mw_2_153)) (fun _ h9 => h9) rfl d_Mo_weave_27 ?_
  have hP9 := hP.sub (ws' := [(mo, .inr (5, [.ref a1, .ref a2, .ref a3, .int cn, .ref a4, .ref a5, .ref a6, .ref a7, .int (nI (wl + 16)), .ref a8, .int nx, .ref a9, .ref b1, .ref b2, .int ld]))]) [0] rfl
  have hD9 := hD.sub (ws' := [(mo, .inr (5, [.ref a1, .ref a2, .ref a3, .int cn, .ref a4, .ref a5, .ref a6, .ref a7, .int (nI (wl + 16)), .ref a8, .int nx, .ref a9, .ref b1, .ref b2, .int ld]))]) [0] (by decide) rfl
  exact W.iret (v := (nI (wl + 16))) hx hb hr (fun t9 ht hW => ⟨⟨(nI (wl + 16)), (), rfl, rfl, trivial, by rw [ht]; exact hP9, hD9⟩, hS.F ht⟩) hS.2.2 d_Mo_weave_30
set_option maxHeartbeats 4000000 in
set_option maxRecDepth 100000 in
theorem c_Mo_tr_full (l : Launch) (D : va_G) (ka : Nat → ClassId) (mo a1 a2 a3 a4 a5 a6 a7 a8 a9 b1 b2 : Nat) (wn nx ld : Int32)  : Met l y_Mo_transaction w_Mo_transaction ({ frames := 0, cells := 0, slots := 0, locals := 0 }) (pR classes (tyS ka) D [.ref mo] ([(mo, .inr (5, [.ref a1, .ref a2, .ref a3, .int (nI 64), .ref a4, .ref a5, .ref a6, .ref a7, .int wn, .ref a8, .int nx, .ref a9, .ref b1, .ref b2, .int ld]))])) (vp_Si (fun r => r = (-3))) 0 0 (fun _ => False) := by
  refine Met.ofW (cc := b_Mo_transaction) (maxL := 1) (ret := (some .int)) (by decide) rfl ?_
  intro pP eE sS mM args below meth cC s1 B hml hv
  obtain ⟨rfl, hP, hK, hN⟩ := hv
  have hx := B.exec
  have hb := B.bytes
  have hr := B.returns
  have hts := atoms_spec (ws := w_Mo_transaction) B.pre
  have hown : sS.vm.findClass "VersionedBlockModel" = some mM.cls := findClass_of_methodNamed B.named
  have hlocks := B.notSynchronized
  have hl := lv_entry ([.ref mo]) (n := 1) (Nat.le_of_ble_eq_true rfl)
  rw [lg_entry_eq]
  generalize (lg_sl ([.ref mo]) ++ List.replicate (1 - (lg_sl ([.ref mo])).length) Slot.unset).toArray = ls at hl ⊢
  have hl : lv_has ls 1 [(0, .ref mo)] := hl
  refine lv_aload_n hx hb d_Mo_transaction_0 rfl (lv_at hl 0 rfl) ?_
  refine va_get (D := D) (ci := 5) (v := .int (nI 64)) (C := "VersionedBlockModel") (T := T_Mo) (N := 15) hx hb hts (fun w h => List.mem_cons_of_mem _ (il_Mo w h)) hown hK hP 0 rfl rfl 3 (by decide) (hts _ (List.mem_cons_of_mem _ mw_2_148)) (fun _ h9 => h9) rfl d_Mo_transaction_1 ?_
  refine lv_bipush (v := (nI 64)) hx hb d_Mo_transaction_4 (by decide) ?_
  refine lv_icmp_ne (tgt := 12) hx hb d_Mo_transaction_6 (by decide) (fun c_6 => absurd rfl c_6) (fun c_6 => ?_)
  refine lv_bipush (v := (-3)) hx hb d_Mo_transaction_9 (by decide) ?_
  exact W.iret (v := (-3)) hx hb hr (fun t9 ht hW => ⟨(-3), rfl, rfl, ht⟩) (fun _ h => by cases h) d_Mo_transaction_11
set_option maxHeartbeats 4000000 in
set_option maxRecDepth 100000 in
theorem c_Mo_tr (l : Launch) (D : va_G) (ka : Nat → ClassId) (sz : Nat) (mo a1 a2 a3 a4 a5 a6 a7 a8 a9 b1 b2 : Nat) (n : Nat) (wn nx ld : Int32) (zs it : Nat → Int32) (hn : n < 64) : Met l y_Mo_transaction w_Mo_transaction ({ frames := 0, cells := 0, slots := 0, locals := 0 }) (pW classes (tyS ka) D [.ref mo] ([(mo, .inr (5, [.ref a1, .ref a2, .ref a3, .int (nI n), .ref a4, .ref a5, .ref a6, .ref a7, .int wn, .ref a8, .int nx, .ref a9, .ref b1, .ref b2, .int ld])), (a4, .inl ((ka 1), 64, .inl zs)), (a9, .inl ((ka 2), 64, .inl it))]) sz) (va_Qi (fun (r : Int32) (_ : Unit) => r = (nI n)) (fun (_ : Unit) t9 => (True) ∧ va_P D classes ([(mo, .inr (5, [.ref a1, .ref a2, .ref a3, .int (nI (n + 1)), .ref a4, .ref a5, .ref a6, .ref a7, .int wn, .ref a8, .int nx, .ref a9, .ref b1, .ref b2, .int ld])), (a4, .inl ((ka 1), 64, .inl (upd zs n (nI 0)))), (a9, .inl ((ka 2), 64, .inl (upd it n 0)))]) t9.heap ∧ va_D (va_A ([(mo, .inr (5, [.ref a1, .ref a2, .ref a3, .int (nI n), .ref a4, .ref a5, .ref a6, .ref a7, .int wn, .ref a8, .int nx, .ref a9, .ref b1, .ref b2, .int ld])), (a4, .inl ((ka 1), 64, .inl zs)), (a9, .inl ((ka 2), 64, .inl it))]) sz) ([(mo, .inr (5, [.ref a1, .ref a2, .ref a3, .int (nI (n + 1)), .ref a4, .ref a5, .ref a6, .ref a7, .int wn, .ref a8, .int nx, .ref a9, .ref b1, .ref b2, .int ld])), (a4, .inl ((ka 1), 64, .inl (upd zs n (nI 0)))), (a9, .inl ((ka 2), 64, .inl (upd it n 0)))])) (va_A ([(mo, .inr (5, [.ref a1, .ref a2, .ref a3, .int (nI n), .ref a4, .ref a5, .ref a6, .ref a7, .int wn, .ref a8, .int nx, .ref a9, .ref b1, .ref b2, .int ld])), (a4, .inl ((ka 1), 64, .inl zs)), (a9, .inl ((ka 2), 64, .inl it))]) sz)) 0 0 (va_A ([(mo, .inr (5, [.ref a1, .ref a2, .ref a3, .int (nI n), .ref a4, .ref a5, .ref a6, .ref a7, .int wn, .ref a8, .int nx, .ref a9, .ref b1, .ref b2, .int ld])), (a4, .inl ((ka 1), 64, .inl zs)), (a9, .inl ((ka 2), 64, .inl it))]) sz) := by
  refine Met.ofW (cc := b_Mo_transaction) (maxL := 1) (ret := (some .int)) (by decide) rfl ?_
  intro pP eE sS mM args below meth cC s1 B hml hv
  obtain ⟨rfl, hsz, hP, hK, hN, hD0⟩ := hv
  have hx := B.exec
  have hb := B.bytes
  have hr := B.returns
  have hts := atoms_spec (ws := w_Mo_transaction) B.pre
  have hown : sS.vm.findClass "VersionedBlockModel" = some mM.cls := findClass_of_methodNamed B.named
  have hlocks := B.notSynchronized
  subst hsz
  have hD := hD0.self (sz := sS.heap.size)
  generalize hAe : va_A ([(mo, .inr (5, [.ref a1, .ref a2, .ref a3, .int (nI n), .ref a4, .ref a5, .ref a6, .ref a7, .int wn, .ref a8, .int nx, .ref a9, .ref b1, .ref b2, .int ld])), (a4, .inl ((ka 1), 64, .inl zs)), (a9, .inl ((ka 2), 64, .inl it))]) sS.heap.size = A at hD ⊢
  have hA : ∀ q : Nat, sS.heap.size ≤ q → A q := fun q h => by rw [← hAe]; exact Or.inr h
  have hS : va_S A sS.heap sS.heap [] := va_S.rf
  have hl := lv_entry ([.ref mo]) (n := 1) (Nat.le_of_ble_eq_true rfl)
  rw [lg_entry_eq]
  generalize (lg_sl ([.ref mo]) ++ List.replicate (1 - (lg_sl ([.ref mo])).length) Slot.unset).toArray = ls at hl ⊢
  have hl : lv_has ls 1 [(0, .ref mo)] := hl
  refine lv_aload_n hx hb d_Mo_transaction_0 rfl (lv_at hl 0 rfl) ?_
  refine va_get (D := D) (ci := 5) (v := .int (nI n)) (C := "VersionedBlockModel") (T := T_Mo) (N := 15) hx hb hts (fun w h => List.mem_cons_of_mem _ (il_Mo w h)) hown hK hP 0 rfl rfl 3 (by decide) (hts _ (List.mem_cons_of_mem _ mw_2_148)) (fun _ h9 => h9) rfl d_Mo_transaction_1 ?_
  refine lv_bipush (v := (nI 64)) hx hb d_Mo_transaction_4 (by decide) ?_
  refine lv_icmp_ne (tgt := 12) hx hb d_Mo_transaction_6 (by decide) (fun c_6 => ?_) (fun c_6 => absurd c_6 (fun q => by have := (nI_eq (by omega) (by decide)).mp q; omega))
  refine lv_aload_n hx hb d_Mo_transaction_12 rfl (lv_at hl 0 rfl) ?_
  refine va_get (D := D) (ci := 5) (v := .ref a4) (C := "VersionedBlockModel") (T := T_Mo) (N := 15) hx hb hts (fun w h => List.mem_cons_of_mem _ (il_Mo w h)) hown hK hP 0 rfl rfl 4 (by decide) (hts _ (List.mem_cons_of_mem _ mw_2_149)) (fun _ h9 => h9) rfl d_Mo_transaction_13 ?_
  refine lv_aload_n hx hb d_Mo_transaction_16 rfl (lv_at hl 0 rfl) ?_
  refine va_get (D := D) (ci := 5) (v := .int (nI n)) (C := "VersionedBlockModel") (T := T_Mo) (N := 15) hx hb hts (fun w h => List.mem_cons_of_mem _ (il_Mo w h)) hown hK hP 0 rfl rfl 3 (by decide) (hts _ (List.mem_cons_of_mem _ mw_2_148)) (fun _ h9 => h9) rfl d_Mo_transaction_17 ?_
  refine lv_iconst (v := (nI 0)) hx hb d_Mo_transaction_20 (by decide) ?_
  refine my_iast hx hb hK hP hD hS 1 1 rfl rfl (k := n) hn (Nat.le_of_ble_eq_true rfl) d_Mo_transaction_21 (fun H locs hP hD hS => ?_)
  have hP : va_P D classes ([(mo, .inr (5, [.ref a1, .ref a2, .ref a3, .int (nI n), .ref a4, .ref a5, .ref a6, .ref a7, .int wn, .ref a8, .int nx, .ref a9, .ref b1, .ref b2, .int ld])), (a4, .inl ((ka 1), 64, .inl (upd zs n (nI 0)))), (a9, .inl ((ka 2), 64, .inl it))]) H := hP
  have hD : va_D A ([(mo, .inr (5, [.ref a1, .ref a2, .ref a3, .int (nI n), .ref a4, .ref a5, .ref a6, .ref a7, .int wn, .ref a8, .int nx, .ref a9, .ref b1, .ref b2, .int ld])), (a4, .inl ((ka 1), 64, .inl (upd zs n (nI 0)))), (a9, .inl ((ka 2), 64, .inl it))]) := hD
  refine lv_aload_n hx hb d_Mo_transaction_22 rfl (lv_at hl 0 rfl) ?_
  refine va_get (D := D) (ci := 5) (v := .ref a9) (C := "VersionedBlockModel") (T := T_Mo) (N := 15) hx hb hts (fun w h => List.mem_cons_of_mem _ (il_Mo w h)) hown hK hP 0 rfl rfl 11 (by decide) (hts _ (List.mem_cons_of_mem _ mw_2_156)) (fun _ h9 => h9) rfl d_Mo_transaction_23 ?_
  refine lv_aload_n hx hb d_Mo_transaction_26 rfl (lv_at hl 0 rfl) ?_
  refine va_get (D := D) (ci := 5) (v := .int (nI n)) (C := "VersionedBlockModel") (T := T_Mo) (N := 15) hx hb hts (fun w h => List.mem_cons_of_mem _ (il_Mo w h)) hown hK hP 0 rfl rfl 3 (by decide) (hts _ (List.mem_cons_of_mem _ mw_2_148)) (fun _ h9 => h9) rfl d_Mo_transaction_27 ?_
  refine lv_iconst (v := 0) hx hb d_Mo_transaction_30 (by decide) ?_
  refine my_zast hx hb hK hP hD hS 2 2 rfl rfl (k := n) hn (Nat.le_of_ble_eq_true rfl) rfl d_Mo_transaction_31 (fun H locs hP hD hS => ?_)
  have hP : va_P D classes ([(mo, .inr (5, [.ref a1, .ref a2, .ref a3, .int (nI n), .ref a4, .ref a5, .ref a6, .ref a7, .int wn, .ref a8, .int nx, .ref a9, .ref b1, .ref b2, .int ld])), (a4, .inl ((ka 1), 64, .inl (upd zs n (nI 0)))), (a9, .inl ((ka 2), 64, .inl (upd it n 0)))]) H := hP
  have hD : va_D A ([(mo, .inr (5, [.ref a1, .ref a2, .ref a3, .int (nI n), .ref a4, .ref a5, .ref a6, .ref a7, .int wn, .ref a8, .int nx, .ref a9, .ref b1, .ref b2, .int ld])), (a4, .inl ((ka 1), 64, .inl (upd zs n (nI 0)))), (a9, .inl ((ka 2), 64, .inl (upd it n 0)))]) := hD
  refine lv_aload_n hx hb d_Mo_transaction_32 rfl (lv_at hl 0 rfl) ?_
  refine lv_dup hx hb d_Mo_transaction_33 rfl ?_
  refine va_get (D := D) (ci := 5) (v := .int (nI n)) (C := "VersionedBlockModel") (T := T_Mo) (N := 15) hx hb hts (fun w h => List.mem_cons_of_mem _ (il_Mo w h)) hown hK hP 0 rfl rfl 3 (by decide) (hts _ (List.mem_cons_of_mem _ mw_2_148)) (fun _ h9 => h9) rfl d_Mo_transaction_34 ?_
  refine lv_iconst (v := 1) hx hb d_Mo_transaction_37 (by decide) ?_
  refine lv_iadd hx hb d_Mo_transaction_38 ?_
  refine lv_topi (fun v_38 ev_38 => ?_)
  obtain rfl : v_38 = nI (n + 1) := ev_38.trans (nI_1 _)
  refine va_put (D := D) (ci := 5) (v := .int (nI (n + 1))) (ty := .int) (C := "VersionedBlockModel") (T := T_Mo) (N := 15) hx hb hts (fun w h => List.mem_cons_of_mem _ (il_Mo w h)) t_Mo t_Mo_ok n_Mo hown hK hP hD hS 0 rfl rfl 3 (by decide) (hts _ (List.mem_cons_of_mem _ mw_2_148)) (fun _ h9 => h9) rfl (by decide +kernel) rfl rfl (Nat.le_of_ble_eq_true rfl) d_Mo_transaction_39 (fun H locs hP hD hS => ?_)
  have hP : va_P D classes ([(mo, .inr (5, [.ref a1, .ref a2, .ref a3, .int (nI (n + 1)), .ref a4, .ref a5, .ref a6, .ref a7, .int wn, .ref a8, .int nx, .ref a9, .ref b1, .ref b2, .int ld])), (a4, .inl ((ka 1), 64, .inl (upd zs n (nI 0)))), (a9, .inl ((ka 2), 64, .inl (upd it n 0)))]) H := hP
  have hD : va_D A ([(mo, .inr (5, [.ref a1, .ref a2, .ref a3, .int (nI (n + 1)), .ref a4, .ref a5, .ref a6, .ref a7, .int wn, .ref a8, .int nx, .ref a9, .ref b1, .ref b2, .int ld])), (a4, .inl ((ka 1), 64, .inl (upd zs n (nI 0)))), (a9, .inl ((ka 2), 64, .inl (upd it n 0)))]) := hD
  refine lv_aload_n hx hb d_Mo_transaction_42 rfl (lv_at hl 0 rfl) ?_
  refine va_get (D := D) (ci := 5) (v := .int (nI (n + 1))) (C := "VersionedBlockModel") (T := T_Mo) (N := 15) hx hb hts (fun w h => List.mem_cons_of_mem _ (il_Mo w h)) hown hK hP 0 rfl rfl 3 (by decide) (hts _ (List.mem_cons_of_mem _ mw_2_148)) (fun _ h9 => h9) rfl d_Mo_transaction_43 ?_
  refine lv_iconst (v := 1) hx hb d_Mo_transaction_46 (by decide) ?_
  refine lv_isub hx hb d_Mo_transaction_47 ?_
  refine lv_topi (fun v_47 ev_47 => ?_)
  obtain rfl : v_47 = nI n := ev_47.trans (nI_pred n)
  have hP9 := hP.sub (ws' := [(mo, .inr (5, [.ref a1, .ref a2, .ref a3, .int (nI (n + 1)), .ref a4, .ref a5, .ref a6, .ref a7, .int wn, .ref a8, .int nx, .ref a9, .ref b1, .ref b2, .int ld])), (a4, .inl ((ka 1), 64, .inl (upd zs n (nI 0)))), (a9, .inl ((ka 2), 64, .inl (upd it n 0)))]) [0, 1, 2] rfl
  have hD9 := hD.sub (ws' := [(mo, .inr (5, [.ref a1, .ref a2, .ref a3, .int (nI (n + 1)), .ref a4, .ref a5, .ref a6, .ref a7, .int wn, .ref a8, .int nx, .ref a9, .ref b1, .ref b2, .int ld])), (a4, .inl ((ka 1), 64, .inl (upd zs n (nI 0)))), (a9, .inl ((ka 2), 64, .inl (upd it n 0)))]) [0, 1, 2] (by decide) rfl
  exact W.iret (v := (nI n)) hx hb hr (fun t9 ht hW => ⟨⟨(nI n), (), rfl, rfl, trivial, by rw [ht]; exact hP9, hD9⟩, hS.F ht⟩) hS.2.2 d_Mo_transaction_48
set_option maxHeartbeats 4000000 in
set_option maxRecDepth 100000 in
theorem c_Mo_in_bad (l : Launch) (D : va_G) (ka : Nat → ClassId) (mo a1 a2 a3 a4 a5 a6 a7 a8 a9 b1 b2 : Nat) (cn wn nx ld : Int32) (op a : Int32) (b : Int64) (hop : ¬ (¬ op < 0 ∧ op ≤ nI 10)) : Met l y_Mo_instruction w_Mo_instruction ({ frames := 0, cells := 0, slots := 0, locals := 0 }) (pR classes (tyS ka) D [.ref mo, .int op, .int a, .long b] ([(mo, .inr (5, [.ref a1, .ref a2, .ref a3, .int cn, .ref a4, .ref a5, .ref a6, .ref a7, .int wn, .ref a8, .int nx, .ref a9, .ref b1, .ref b2, .int ld]))])) (vp_Si (fun r => r = (-1))) 0 0 (fun _ => False) := by
  refine Met.ofW (cc := b_Mo_instruction) (maxL := 7) (ret := (some .int)) (by decide) rfl ?_
  intro pP eE sS mM args below meth cC s1 B hml hv
  obtain ⟨rfl, hP, hK, hN⟩ := hv
  have hx := B.exec
  have hb := B.bytes
  have hr := B.returns
  have hts := atoms_spec (ws := w_Mo_instruction) B.pre
  have hown : sS.vm.findClass "VersionedBlockModel" = some mM.cls := findClass_of_methodNamed B.named
  have hlocks := B.notSynchronized
  have hl := lv_entry ([.ref mo, .int op, .int a, .long b]) (n := 7) (Nat.le_of_ble_eq_true rfl)
  rw [lg_entry_eq]
  generalize (lg_sl ([.ref mo, .int op, .int a, .long b]) ++ List.replicate (7 - (lg_sl ([.ref mo, .int op, .int a, .long b])).length) Slot.unset).toArray = ls at hl ⊢
  have hl : lv_has ls 7 [(0, .ref mo), (1, .int op), (2, .int a), (3, .long b)] := hl
  refine lv_iload_n hx hb d_Mo_instruction_0 rfl (lv_at hl 1 rfl) ?_
  refine lv_if_lt (tgt := 10) hx hb d_Mo_instruction_1 (by decide) (fun c_1 => ?_) (fun c_1 => ?_)
  · refine lv_iconst (v := (-1)) hx hb d_Mo_instruction_10 (by decide) ?_
    exact W.iret (v := (-1)) hx hb hr (fun t9 ht hW => ⟨(-1), rfl, rfl, ht⟩) (fun _ h => by cases h) d_Mo_instruction_11
  · refine lv_iload_n hx hb d_Mo_instruction_4 rfl (lv_at hl 1 rfl) ?_
    refine lv_bipush (v := (nI 10)) hx hb d_Mo_instruction_5 (by decide) ?_
    refine lv_icmp_le (tgt := 12) hx hb d_Mo_instruction_7 (by decide) (fun c_7 => ?_) (fun c_7 => ?_)
    · exact absurd ⟨c_1, c_7⟩ hop
    · refine lv_iconst (v := (-1)) hx hb d_Mo_instruction_10 (by decide) ?_
      exact W.iret (v := (-1)) hx hb hr (fun t9 ht hW => ⟨(-1), rfl, rfl, ht⟩) (fun _ h => by cases h) d_Mo_instruction_11
set_option maxHeartbeats 4000000 in
set_option maxRecDepth 100000 in
theorem c_Mo_in_no (l : Launch) (D : va_G) (ka : Nat → ClassId) (mo a1 a2 a3 a4 a5 a6 a7 a8 a9 b1 b2 : Nat) (wn nx ld : Int32) (op a : Int32) (b : Int64) (hop : ¬ op < 0 ∧ op ≤ nI 10) : Met l y_Mo_instruction w_Mo_instruction ({ frames := 0, cells := 0, slots := 0, locals := 0 }) (pR classes (tyS ka) D [.ref mo, .int op, .int a, .long b] ([(mo, .inr (5, [.ref a1, .ref a2, .ref a3, .int (nI 0), .ref a4, .ref a5, .ref a6, .ref a7, .int wn, .ref a8, .int nx, .ref a9, .ref b1, .ref b2, .int ld]))])) (vp_Si (fun r => r = (-2))) 0 0 (fun _ => False) := by
  refine Met.ofW (cc := b_Mo_instruction) (maxL := 7) (ret := (some .int)) (by decide) rfl ?_
  intro pP eE sS mM args below meth cC s1 B hml hv
  obtain ⟨rfl, hP, hK, hN⟩ := hv
  have hx := B.exec
  have hb := B.bytes
  have hr := B.returns
  have hts := atoms_spec (ws := w_Mo_instruction) B.pre
  have hown : sS.vm.findClass "VersionedBlockModel" = some mM.cls := findClass_of_methodNamed B.named
  have hlocks := B.notSynchronized
  have hl := lv_entry ([.ref mo, .int op, .int a, .long b]) (n := 7) (Nat.le_of_ble_eq_true rfl)
  rw [lg_entry_eq]
  generalize (lg_sl ([.ref mo, .int op, .int a, .long b]) ++ List.replicate (7 - (lg_sl ([.ref mo, .int op, .int a, .long b])).length) Slot.unset).toArray = ls at hl ⊢
  have hl : lv_has ls 7 [(0, .ref mo), (1, .int op), (2, .int a), (3, .long b)] := hl
  refine lv_iload_n hx hb d_Mo_instruction_0 rfl (lv_at hl 1 rfl) ?_
  refine lv_if_lt (tgt := 10) hx hb d_Mo_instruction_1 (by decide) (fun c_1 => absurd c_1 hop.1) (fun c_1 => ?_)
  refine lv_iload_n hx hb d_Mo_instruction_4 rfl (lv_at hl 1 rfl) ?_
  refine lv_bipush (v := (nI 10)) hx hb d_Mo_instruction_5 (by decide) ?_
  refine lv_icmp_le (tgt := 12) hx hb d_Mo_instruction_7 (by decide) (fun c_7 => ?_) (fun c_7 => absurd hop.2 c_7)
  refine lv_aload_n hx hb d_Mo_instruction_12 rfl (lv_at hl 0 rfl) ?_
  refine va_get (D := D) (ci := 5) (v := .int (nI 0)) (C := "VersionedBlockModel") (T := T_Mo) (N := 15) hx hb hts (fun w h => List.mem_cons_of_mem _ (il_Mo w h)) hown hK hP 0 rfl rfl 3 (by decide) (hts _ (List.mem_cons_of_mem _ mw_2_148)) (fun _ h9 => h9) rfl d_Mo_instruction_13 ?_
  refine lv_if_ne (tgt := 22) hx hb d_Mo_instruction_16 (by decide) (fun c_16 => absurd rfl c_16) (fun c_16 => ?_)
  refine lv_bipush (v := (-2)) hx hb d_Mo_instruction_19 (by decide) ?_
  exact W.iret (v := (-2)) hx hb hr (fun t9 ht hW => ⟨(-2), rfl, rfl, ht⟩) (fun _ h => by cases h) d_Mo_instruction_21
set_option maxHeartbeats 4000000 in
set_option maxRecDepth 100000 in
theorem c_Mo_in_full (l : Launch) (D : va_G) (ka : Nat → ClassId) (mo a1 a2 a3 a4 a5 a6 a7 a8 a9 b1 b2 : Nat) (n op : Nat) (wn nx ld : Int32) (zs : Nat → Int32) (a : Int32) (b : Int64) (hn : n < 64) (hop : op ≤ 10) (hz : zs n = nI 32) : Met l y_Mo_instruction w_Mo_instruction ({ frames := 0, cells := 0, slots := 0, locals := 0 }) (pR classes (tyS ka) D [.ref mo, .int (nI op), .int a, .long b] ([(mo, .inr (5, [.ref a1, .ref a2, .ref a3, .int (nI (n + 1)), .ref a4, .ref a5, .ref a6, .ref a7, .int wn, .ref a8, .int nx, .ref a9, .ref b1, .ref b2, .int ld])), (a4, .inl ((ka 1), 64, .inl zs))])) (vp_Si (fun r => r = (-3))) 0 0 (fun _ => False) := by
  refine Met.ofW (cc := b_Mo_instruction) (maxL := 7) (ret := (some .int)) (by decide) rfl ?_
  intro pP eE sS mM args below meth cC s1 B hml hv
  obtain ⟨rfl, hP, hK, hN⟩ := hv
  have hx := B.exec
  have hb := B.bytes
  have hr := B.returns
  have hts := atoms_spec (ws := w_Mo_instruction) B.pre
  have hown : sS.vm.findClass "VersionedBlockModel" = some mM.cls := findClass_of_methodNamed B.named
  have hlocks := B.notSynchronized
  have hl := lv_entry ([.ref mo, .int (nI op), .int a, .long b]) (n := 7) (Nat.le_of_ble_eq_true rfl)
  rw [lg_entry_eq]
  generalize (lg_sl ([.ref mo, .int (nI op), .int a, .long b]) ++ List.replicate (7 - (lg_sl ([.ref mo, .int (nI op), .int a, .long b])).length) Slot.unset).toArray = ls at hl ⊢
  have hl : lv_has ls 7 [(0, .ref mo), (1, .int (nI op)), (2, .int a), (3, .long b)] := hl
  refine lv_iload_n hx hb d_Mo_instruction_0 rfl (lv_at hl 1 rfl) ?_
  refine lv_if_lt (tgt := 10) hx hb d_Mo_instruction_1 (by decide) (fun c_1 => absurd c_1 (nI_pos (by omega))) (fun c_1 => ?_)
  refine lv_iload_n hx hb d_Mo_instruction_4 rfl (lv_at hl 1 rfl) ?_
  refine lv_bipush (v := (nI 10)) hx hb d_Mo_instruction_5 (by decide) ?_
  refine lv_icmp_le (tgt := 12) hx hb d_Mo_instruction_7 (by decide) (fun c_7 => ?_) (fun c_7 => absurd (nI_le (by omega) (by decide)) c_7)
  refine lv_aload_n hx hb d_Mo_instruction_12 rfl (lv_at hl 0 rfl) ?_
  refine va_get (D := D) (ci := 5) (v := .int (nI (n + 1))) (C := "VersionedBlockModel") (T := T_Mo) (N := 15) hx hb hts (fun w h => List.mem_cons_of_mem _ (il_Mo w h)) hown hK hP 0 rfl rfl 3 (by decide) (hts _ (List.mem_cons_of_mem _ mw_2_148)) (fun _ h9 => h9) rfl d_Mo_instruction_13 ?_
  refine lv_if_ne (tgt := 22) hx hb d_Mo_instruction_16 (by decide) (fun c_16 => ?_) (fun c_16 => absurd c_16 (nI_ne0 (by omega) (by omega)))
  refine lv_aload_n hx hb d_Mo_instruction_22 rfl (lv_at hl 0 rfl) ?_
  refine va_get (D := D) (ci := 5) (v := .int (nI (n + 1))) (C := "VersionedBlockModel") (T := T_Mo) (N := 15) hx hb hts (fun w h => List.mem_cons_of_mem _ (il_Mo w h)) hown hK hP 0 rfl rfl 3 (by decide) (hts _ (List.mem_cons_of_mem _ mw_2_148)) (fun _ h9 => h9) rfl d_Mo_instruction_23 ?_
  refine lv_iconst (v := 1) hx hb d_Mo_instruction_26 (by decide) ?_
  refine lv_isub hx hb d_Mo_instruction_27 ?_
  refine lv_topi (fun v_27 ev_27 => ?_)
  obtain rfl : v_27 = nI n := ev_27.trans (nI_pred n)
  refine lv_istore (lv' := [(5, .int (nI n)), (0, .ref mo), (1, .int (nI op)), (2, .int a), (3, .long b)]) hx hb d_Mo_instruction_28 hl (by decide) rfl (fun ls hl => ?_)
  refine lv_aload_n hx hb d_Mo_instruction_30 rfl (lv_at hl 1 rfl) ?_
  refine va_get (D := D) (ci := 5) (v := .ref a4) (C := "VersionedBlockModel") (T := T_Mo) (N := 15) hx hb hts (fun w h => List.mem_cons_of_mem _ (il_Mo w h)) hown hK hP 0 rfl rfl 4 (by decide) (hts _ (List.mem_cons_of_mem _ mw_2_149)) (fun _ h9 => h9) rfl d_Mo_instruction_31 ?_
  refine lv_iload hx hb d_Mo_instruction_34 (lv_at hl 0 rfl) ?_
  refine my_iald hx hb hK hP 1 1 rfl rfl (k := n) hn (Nat.le_of_ble_eq_true rfl) d_Mo_instruction_36 ?_
  refine lv_topi (fun v_36 ev_36 => ?_)
  obtain rfl : v_36 = nI 32 := ev_36.trans hz
  refine lv_bipush (v := (nI 32)) hx hb d_Mo_instruction_37 (by decide) ?_
  refine lv_icmp_ne (tgt := 45) hx hb d_Mo_instruction_39 (by decide) (fun c_39 => absurd rfl c_39) (fun c_39 => ?_)
  refine lv_bipush (v := (-3)) hx hb d_Mo_instruction_42 (by decide) ?_
  exact W.iret (v := (-3)) hx hb hr (fun t9 ht hW => ⟨(-3), rfl, rfl, ht⟩) (fun _ h => by cases h) d_Mo_instruction_44
set_option maxHeartbeats 4000000 in
set_option maxRecDepth 100000 in
theorem c_Mo_in (l : Launch) (D : va_G) (ka : Nat → ClassId) (sz : Nat) (mo a1 a2 a3 a4 a5 a6 a7 a8 a9 b1 b2 : Nat) (n op k : Nat) (wn nx ld : Int32) (zs os fs it : Nat → Int32) (ss : Nat → Int64) (a : Int32) (b : Int64) (hn : n < 64) (hop : op ≤ 10) (hz : zs n = nI k) (hk : k < 32) : Met l y_Mo_instruction w_Mo_instruction ({ frames := 1, cells := 0, slots := 0, locals := 22 }) (pW classes (tyS ka) D [.ref mo, .int (nI op), .int a, .long b] ([(mo, .inr (5, [.ref a1, .ref a2, .ref a3, .int (nI (n + 1)), .ref a4, .ref a5, .ref a6, .ref a7, .int wn, .ref a8, .int nx, .ref a9, .ref b1, .ref b2, .int ld])), (a4, .inl ((ka 1), 64, .inl zs)), (a5, .inl ((ka 5), 2048, .inl os)), (a6, .inl ((ka 1), 2048, .inl fs)), (a7, .inl ((ka 0), 2048, .inr (.inl ss))), (a9, .inl ((ka 2), 64, .inl it))]) sz) (va_Qi (fun (r : Int32) (_ : Unit) => r = (nI (k + 1))) (fun (_ : Unit) t9 => (True) ∧ va_P D classes ([(mo, .inr (5, [.ref a1, .ref a2, .ref a3, .int (nI (n + 1)), .ref a4, .ref a5, .ref a6, .ref a7, .int wn, .ref a8, .int nx, .ref a9, .ref b1, .ref b2, .int ld])), (a4, .inl ((ka 1), 64, .inl (upd zs n (nI (k + 1))))), (a5, .inl ((ka 5), 2048, .inl (upd os (32 * n + k) (nI op)))), (a6, .inl ((ka 1), 2048, .inl (upd fs (32 * n + k) (nI (sp_rg a.toInt64))))), (a7, .inl ((ka 0), 2048, .inr (.inl (vp_updL ss (32 * n + k) b)))), (a9, .inl ((ka 2), 64, .inl (upd it n 0)))]) t9.heap ∧ va_D (va_A ([(mo, .inr (5, [.ref a1, .ref a2, .ref a3, .int (nI (n + 1)), .ref a4, .ref a5, .ref a6, .ref a7, .int wn, .ref a8, .int nx, .ref a9, .ref b1, .ref b2, .int ld])), (a4, .inl ((ka 1), 64, .inl zs)), (a5, .inl ((ka 5), 2048, .inl os)), (a6, .inl ((ka 1), 2048, .inl fs)), (a7, .inl ((ka 0), 2048, .inr (.inl ss))), (a9, .inl ((ka 2), 64, .inl it))]) sz) ([(mo, .inr (5, [.ref a1, .ref a2, .ref a3, .int (nI (n + 1)), .ref a4, .ref a5, .ref a6, .ref a7, .int wn, .ref a8, .int nx, .ref a9, .ref b1, .ref b2, .int ld])), (a4, .inl ((ka 1), 64, .inl (upd zs n (nI (k + 1))))), (a5, .inl ((ka 5), 2048, .inl (upd os (32 * n + k) (nI op)))), (a6, .inl ((ka 1), 2048, .inl (upd fs (32 * n + k) (nI (sp_rg a.toInt64))))), (a7, .inl ((ka 0), 2048, .inr (.inl (vp_updL ss (32 * n + k) b)))), (a9, .inl ((ka 2), 64, .inl (upd it n 0)))])) (va_A ([(mo, .inr (5, [.ref a1, .ref a2, .ref a3, .int (nI (n + 1)), .ref a4, .ref a5, .ref a6, .ref a7, .int wn, .ref a8, .int nx, .ref a9, .ref b1, .ref b2, .int ld])), (a4, .inl ((ka 1), 64, .inl zs)), (a5, .inl ((ka 5), 2048, .inl os)), (a6, .inl ((ka 1), 2048, .inl fs)), (a7, .inl ((ka 0), 2048, .inr (.inl ss))), (a9, .inl ((ka 2), 64, .inl it))]) sz)) 0 0 (va_A ([(mo, .inr (5, [.ref a1, .ref a2, .ref a3, .int (nI (n + 1)), .ref a4, .ref a5, .ref a6, .ref a7, .int wn, .ref a8, .int nx, .ref a9, .ref b1, .ref b2, .int ld])), (a4, .inl ((ka 1), 64, .inl zs)), (a5, .inl ((ka 5), 2048, .inl os)), (a6, .inl ((ka 1), 2048, .inl fs)), (a7, .inl ((ka 0), 2048, .inr (.inl ss))), (a9, .inl ((ka 2), 64, .inl it))]) sz) := by
  refine Met.ofW (cc := b_Mo_instruction) (maxL := 7) (ret := (some .int)) (by decide) rfl ?_
  intro pP eE sS mM args below meth cC s1 B hml hv
  obtain ⟨rfl, hsz, hP, hK, hN, hD0⟩ := hv
  have hx := B.exec
  have hb := B.bytes
  have hr := B.returns
  have hts := atoms_spec (ws := w_Mo_instruction) B.pre
  have hown : sS.vm.findClass "VersionedBlockModel" = some mM.cls := findClass_of_methodNamed B.named
  have hlocks := B.notSynchronized
  subst hsz
  have hD := hD0.self (sz := sS.heap.size)
  generalize hAe : va_A ([(mo, .inr (5, [.ref a1, .ref a2, .ref a3, .int (nI (n + 1)), .ref a4, .ref a5, .ref a6, .ref a7, .int wn, .ref a8, .int nx, .ref a9, .ref b1, .ref b2, .int ld])), (a4, .inl ((ka 1), 64, .inl zs)), (a5, .inl ((ka 5), 2048, .inl os)), (a6, .inl ((ka 1), 2048, .inl fs)), (a7, .inl ((ka 0), 2048, .inr (.inl ss))), (a9, .inl ((ka 2), 64, .inl it))]) sS.heap.size = A at hD ⊢
  have hA : ∀ q : Nat, sS.heap.size ≤ q → A q := fun q h => by rw [← hAe]; exact Or.inr h
  have hS : va_S A sS.heap sS.heap [] := va_S.rf
  have hl := lv_entry ([.ref mo, .int (nI op), .int a, .long b]) (n := 7) (Nat.le_of_ble_eq_true rfl)
  rw [lg_entry_eq]
  generalize (lg_sl ([.ref mo, .int (nI op), .int a, .long b]) ++ List.replicate (7 - (lg_sl ([.ref mo, .int (nI op), .int a, .long b])).length) Slot.unset).toArray = ls at hl ⊢
  have hl : lv_has ls 7 [(0, .ref mo), (1, .int (nI op)), (2, .int a), (3, .long b)] := hl
  refine lv_iload_n hx hb d_Mo_instruction_0 rfl (lv_at hl 1 rfl) ?_
  refine lv_if_lt (tgt := 10) hx hb d_Mo_instruction_1 (by decide) (fun c_1 => absurd c_1 (nI_pos (by omega))) (fun c_1 => ?_)
  refine lv_iload_n hx hb d_Mo_instruction_4 rfl (lv_at hl 1 rfl) ?_
  refine lv_bipush (v := (nI 10)) hx hb d_Mo_instruction_5 (by decide) ?_
  refine lv_icmp_le (tgt := 12) hx hb d_Mo_instruction_7 (by decide) (fun c_7 => ?_) (fun c_7 => absurd (nI_le (by omega) (by decide)) c_7)
  refine lv_aload_n hx hb d_Mo_instruction_12 rfl (lv_at hl 0 rfl) ?_
  refine va_get (D := D) (ci := 5) (v := .int (nI (n + 1))) (C := "VersionedBlockModel") (T := T_Mo) (N := 15) hx hb hts (fun w h => List.mem_cons_of_mem _ (il_Mo w h)) hown hK hP 0 rfl rfl 3 (by decide) (hts _ (List.mem_cons_of_mem _ mw_2_148)) (fun _ h9 => h9) rfl d_Mo_instruction_13 ?_
  refine lv_if_ne (tgt := 22) hx hb d_Mo_instruction_16 (by decide) (fun c_16 => ?_) (fun c_16 => absurd c_16 (nI_ne0 (by omega) (by omega)))
  refine lv_aload_n hx hb d_Mo_instruction_22 rfl (lv_at hl 0 rfl) ?_
  refine va_get (D := D) (ci := 5) (v := .int (nI (n + 1))) (C := "VersionedBlockModel") (T := T_Mo) (N := 15) hx hb hts (fun w h => List.mem_cons_of_mem _ (il_Mo w h)) hown hK hP 0 rfl rfl 3 (by decide) (hts _ (List.mem_cons_of_mem _ mw_2_148)) (fun _ h9 => h9) rfl d_Mo_instruction_23 ?_
  refine lv_iconst (v := 1) hx hb d_Mo_instruction_26 (by decide) ?_
  refine lv_isub hx hb d_Mo_instruction_27 ?_
  refine lv_topi (fun v_27 ev_27 => ?_)
  obtain rfl : v_27 = nI n := ev_27.trans (nI_pred n)
  refine lv_istore (lv' := [(5, .int (nI n)), (0, .ref mo), (1, .int (nI op)), (2, .int a), (3, .long b)]) hx hb d_Mo_instruction_28 hl (by decide) rfl (fun ls hl => ?_)
  refine lv_aload_n hx hb d_Mo_instruction_30 rfl (lv_at hl 1 rfl) ?_
  refine va_get (D := D) (ci := 5) (v := .ref a4) (C := "VersionedBlockModel") (T := T_Mo) (N := 15) hx hb hts (fun w h => List.mem_cons_of_mem _ (il_Mo w h)) hown hK hP 0 rfl rfl 4 (by decide) (hts _ (List.mem_cons_of_mem _ mw_2_149)) (fun _ h9 => h9) rfl d_Mo_instruction_31 ?_
  refine lv_iload hx hb d_Mo_instruction_34 (lv_at hl 0 rfl) ?_
  refine my_iald hx hb hK hP 1 1 rfl rfl (k := n) hn (Nat.le_of_ble_eq_true rfl) d_Mo_instruction_36 ?_
  refine lv_topi (fun v_36 ev_36 => ?_)
  obtain rfl : v_36 = nI k := ev_36.trans hz
  refine lv_bipush (v := (nI 32)) hx hb d_Mo_instruction_37 (by decide) ?_
  refine lv_icmp_ne (tgt := 45) hx hb d_Mo_instruction_39 (by decide) (fun c_39 => ?_) (fun c_39 => absurd c_39 (fun q => by have := (nI_eq (by omega) (by decide)).mp q; omega))
  refine lv_bipush (v := (nI 32)) hx hb d_Mo_instruction_45 (by decide) ?_
  refine lv_iload hx hb d_Mo_instruction_47 (lv_at hl 0 rfl) ?_
  refine lv_imul hx hb d_Mo_instruction_49 ?_
  refine lv_topi (fun v_49 ev_49 => ?_)
  obtain rfl : v_49 = nI (32 * n) := ev_49.trans (pk_mul _ _)
  refine lv_aload_n hx hb d_Mo_instruction_50 rfl (lv_at hl 1 rfl) ?_
  refine va_get (D := D) (ci := 5) (v := .ref a4) (C := "VersionedBlockModel") (T := T_Mo) (N := 15) hx hb hts (fun w h => List.mem_cons_of_mem _ (il_Mo w h)) hown hK hP 0 rfl rfl 4 (by decide) (hts _ (List.mem_cons_of_mem _ mw_2_149)) (fun _ h9 => h9) rfl d_Mo_instruction_51 ?_
  refine lv_iload hx hb d_Mo_instruction_54 (lv_at hl 0 rfl) ?_
  refine my_iald hx hb hK hP 1 1 rfl rfl (k := n) hn (Nat.le_of_ble_eq_true rfl) d_Mo_instruction_56 ?_
  refine lv_topi (fun v_56 ev_56 => ?_)
  obtain rfl : v_56 = nI k := ev_56.trans hz
  refine lv_iadd hx hb d_Mo_instruction_57 ?_
  refine lv_topi (fun v_57 ev_57 => ?_)
  obtain rfl : v_57 = nI (32 * n + k) := ev_57.trans (nI_add _ _)
  refine lv_istore (lv' := [(6, .int (nI (32 * n + k))), (5, .int (nI n)), (0, .ref mo), (1, .int (nI op)), (2, .int a), (3, .long b)]) hx hb d_Mo_instruction_58 hl (by decide) rfl (fun ls hl => ?_)
  refine lv_aload_n hx hb d_Mo_instruction_60 rfl (lv_at hl 2 rfl) ?_
  refine va_get (D := D) (ci := 5) (v := .ref a5) (C := "VersionedBlockModel") (T := T_Mo) (N := 15) hx hb hts (fun w h => List.mem_cons_of_mem _ (il_Mo w h)) hown hK hP 0 rfl rfl 5 (by decide) (hts _ (List.mem_cons_of_mem _ mw_2_150)) (fun _ h9 => h9) rfl d_Mo_instruction_61 ?_
  refine lv_iload hx hb d_Mo_instruction_64 (lv_at hl 0 rfl) ?_
  refine lv_iload_n hx hb d_Mo_instruction_66 rfl (lv_at hl 3 rfl) ?_
  refine lv_i2b (v := nI op) hx hb d_Mo_instruction_67 (op_b op (by omega)).1 ?_
  refine my_bast hx hb hK hP hD hS 2 5 rfl rfl (k := (32 * n + k)) (by omega) (Nat.le_of_ble_eq_true rfl) (op_b op (by omega)).2 d_Mo_instruction_68 (fun H locs hP hD hS => ?_)
  have hP : va_P D classes ([(mo, .inr (5, [.ref a1, .ref a2, .ref a3, .int (nI (n + 1)), .ref a4, .ref a5, .ref a6, .ref a7, .int wn, .ref a8, .int nx, .ref a9, .ref b1, .ref b2, .int ld])), (a4, .inl ((ka 1), 64, .inl zs)), (a5, .inl ((ka 5), 2048, .inl (upd os (32 * n + k) (nI op)))), (a6, .inl ((ka 1), 2048, .inl fs)), (a7, .inl ((ka 0), 2048, .inr (.inl ss))), (a9, .inl ((ka 2), 64, .inl it))]) H := hP
  have hD : va_D A ([(mo, .inr (5, [.ref a1, .ref a2, .ref a3, .int (nI (n + 1)), .ref a4, .ref a5, .ref a6, .ref a7, .int wn, .ref a8, .int nx, .ref a9, .ref b1, .ref b2, .int ld])), (a4, .inl ((ka 1), 64, .inl zs)), (a5, .inl ((ka 5), 2048, .inl (upd os (32 * n + k) (nI op)))), (a6, .inl ((ka 1), 2048, .inl fs)), (a7, .inl ((ka 0), 2048, .inr (.inl ss))), (a9, .inl ((ka 2), 64, .inl it))]) := hD
  refine lv_aload_n hx hb d_Mo_instruction_69 rfl (lv_at hl 2 rfl) ?_
  refine va_get (D := D) (ci := 5) (v := .ref a6) (C := "VersionedBlockModel") (T := T_Mo) (N := 15) hx hb hts (fun w h => List.mem_cons_of_mem _ (il_Mo w h)) hown hK hP 0 rfl rfl 6 (by decide) (hts _ (List.mem_cons_of_mem _ mw_2_151)) (fun _ h9 => h9) rfl d_Mo_instruction_70 ?_
  refine lv_iload hx hb d_Mo_instruction_73 (lv_at hl 0 rfl) ?_
  refine lv_iload_n hx hb d_Mo_instruction_75 rfl (lv_at hl 4 rfl) ?_
  refine lv_bipush (v := (nI 8)) hx hb d_Mo_instruction_76 (by decide) ?_
  refine vp_callSi (run_of (va_runS (As := [.int a, .int (nI 8)]) (rest := [.int (nI (32 * n + k)), .ref a6]) ⟨hx, hb, hml, hown, hts⟩ (c_fmII l a 8 (by decide) (by decide)) ⟨callB_of 2 hts (gd_tb mw_1_184) rfl rfl rfl (hts _ (List.mem_cons_of_mem _ mw_1_3)) (hts _ (List.mem_cons_of_mem _ mw_2_215)) (by decide +kernel) ⟨Nat.le_of_ble_eq_true rfl, Nat.le_of_ble_eq_true rfl⟩, (hts _ (List.mem_cons_of_mem _ mw_1_183))⟩ ⟨pE_blind, pE_pre hN⟩ rfl rfl hl.1 rfl (lv_room (Nat.le_of_ble_eq_true rfl)) d_Mo_instruction_78 ⟨Nat.le_of_ble_eq_true rfl, Nat.le_of_ble_eq_true rfl⟩)) (fun r_78 hr_78 => ?_)
  obtain rfl : r_78 = nI (sp_rg a.toInt64) := hr_78.trans (congrArg nI (sp_rg_fi a))
  refine my_iast hx hb hK hP hD hS 3 1 rfl rfl (k := (32 * n + k)) (by omega) (Nat.le_of_ble_eq_true rfl) d_Mo_instruction_81 (fun H locs hP hD hS => ?_)
  have hP : va_P D classes ([(mo, .inr (5, [.ref a1, .ref a2, .ref a3, .int (nI (n + 1)), .ref a4, .ref a5, .ref a6, .ref a7, .int wn, .ref a8, .int nx, .ref a9, .ref b1, .ref b2, .int ld])), (a4, .inl ((ka 1), 64, .inl zs)), (a5, .inl ((ka 5), 2048, .inl (upd os (32 * n + k) (nI op)))), (a6, .inl ((ka 1), 2048, .inl (upd fs (32 * n + k) (nI (sp_rg a.toInt64))))), (a7, .inl ((ka 0), 2048, .inr (.inl ss))), (a9, .inl ((ka 2), 64, .inl it))]) H := hP
  have hD : va_D A ([(mo, .inr (5, [.ref a1, .ref a2, .ref a3, .int (nI (n + 1)), .ref a4, .ref a5, .ref a6, .ref a7, .int wn, .ref a8, .int nx, .ref a9, .ref b1, .ref b2, .int ld])), (a4, .inl ((ka 1), 64, .inl zs)), (a5, .inl ((ka 5), 2048, .inl (upd os (32 * n + k) (nI op)))), (a6, .inl ((ka 1), 2048, .inl (upd fs (32 * n + k) (nI (sp_rg a.toInt64))))), (a7, .inl ((ka 0), 2048, .inr (.inl ss))), (a9, .inl ((ka 2), 64, .inl it))]) := hD
  refine lv_aload_n hx hb d_Mo_instruction_82 rfl (lv_at hl 2 rfl) ?_
  refine va_get (D := D) (ci := 5) (v := .ref a7) (C := "VersionedBlockModel") (T := T_Mo) (N := 15) hx hb hts (fun w h => List.mem_cons_of_mem _ (il_Mo w h)) hown hK hP 0 rfl rfl 7 (by decide) (hts _ (List.mem_cons_of_mem _ mw_2_152)) (fun _ h9 => h9) rfl d_Mo_instruction_83 ?_
  refine lv_iload hx hb d_Mo_instruction_86 (lv_at hl 0 rfl) ?_
  refine lv_lload_n hx hb d_Mo_instruction_88 rfl (lv_at hl 5 rfl) ?_
  refine my_last hx hb hK hP hD hS 4 0 rfl rfl (k := (32 * n + k)) (by omega) (Nat.le_of_ble_eq_true rfl) d_Mo_instruction_89 (fun H locs hP hD hS => ?_)
  have hP : va_P D classes ([(mo, .inr (5, [.ref a1, .ref a2, .ref a3, .int (nI (n + 1)), .ref a4, .ref a5, .ref a6, .ref a7, .int wn, .ref a8, .int nx, .ref a9, .ref b1, .ref b2, .int ld])), (a4, .inl ((ka 1), 64, .inl zs)), (a5, .inl ((ka 5), 2048, .inl (upd os (32 * n + k) (nI op)))), (a6, .inl ((ka 1), 2048, .inl (upd fs (32 * n + k) (nI (sp_rg a.toInt64))))), (a7, .inl ((ka 0), 2048, .inr (.inl (vp_updL ss (32 * n + k) b)))), (a9, .inl ((ka 2), 64, .inl it))]) H := hP
  have hD : va_D A ([(mo, .inr (5, [.ref a1, .ref a2, .ref a3, .int (nI (n + 1)), .ref a4, .ref a5, .ref a6, .ref a7, .int wn, .ref a8, .int nx, .ref a9, .ref b1, .ref b2, .int ld])), (a4, .inl ((ka 1), 64, .inl zs)), (a5, .inl ((ka 5), 2048, .inl (upd os (32 * n + k) (nI op)))), (a6, .inl ((ka 1), 2048, .inl (upd fs (32 * n + k) (nI (sp_rg a.toInt64))))), (a7, .inl ((ka 0), 2048, .inr (.inl (vp_updL ss (32 * n + k) b)))), (a9, .inl ((ka 2), 64, .inl it))]) := hD
  refine lv_aload_n hx hb d_Mo_instruction_90 rfl (lv_at hl 2 rfl) ?_
  refine va_get (D := D) (ci := 5) (v := .ref a4) (C := "VersionedBlockModel") (T := T_Mo) (N := 15) hx hb hts (fun w h => List.mem_cons_of_mem _ (il_Mo w h)) hown hK hP 0 rfl rfl 4 (by decide) (hts _ (List.mem_cons_of_mem _ mw_2_149)) (fun _ h9 => h9) rfl d_Mo_instruction_91 ?_
  refine lv_iload hx hb d_Mo_instruction_94 (lv_at hl 1 rfl) ?_
  refine lv_dup2_11 hx hb d_Mo_instruction_96 rfl rfl ?_
  refine my_iald hx hb hK hP 1 1 rfl rfl (k := n) hn (Nat.le_of_ble_eq_true rfl) d_Mo_instruction_97 ?_
  refine lv_topi (fun v_97 ev_97 => ?_)
  obtain rfl : v_97 = nI k := ev_97.trans hz
  refine lv_iconst (v := 1) hx hb d_Mo_instruction_98 (by decide) ?_
  refine lv_iadd hx hb d_Mo_instruction_99 ?_
  refine lv_topi (fun v_99 ev_99 => ?_)
  obtain rfl : v_99 = nI (k + 1) := ev_99.trans (nI_1 _)
  refine my_iast hx hb hK hP hD hS 1 1 rfl rfl (k := n) hn (Nat.le_of_ble_eq_true rfl) d_Mo_instruction_100 (fun H locs hP hD hS => ?_)
  have hP : va_P D classes ([(mo, .inr (5, [.ref a1, .ref a2, .ref a3, .int (nI (n + 1)), .ref a4, .ref a5, .ref a6, .ref a7, .int wn, .ref a8, .int nx, .ref a9, .ref b1, .ref b2, .int ld])), (a4, .inl ((ka 1), 64, .inl (upd zs n (nI (k + 1))))), (a5, .inl ((ka 5), 2048, .inl (upd os (32 * n + k) (nI op)))), (a6, .inl ((ka 1), 2048, .inl (upd fs (32 * n + k) (nI (sp_rg a.toInt64))))), (a7, .inl ((ka 0), 2048, .inr (.inl (vp_updL ss (32 * n + k) b)))), (a9, .inl ((ka 2), 64, .inl it))]) H := hP
  have hD : va_D A ([(mo, .inr (5, [.ref a1, .ref a2, .ref a3, .int (nI (n + 1)), .ref a4, .ref a5, .ref a6, .ref a7, .int wn, .ref a8, .int nx, .ref a9, .ref b1, .ref b2, .int ld])), (a4, .inl ((ka 1), 64, .inl (upd zs n (nI (k + 1))))), (a5, .inl ((ka 5), 2048, .inl (upd os (32 * n + k) (nI op)))), (a6, .inl ((ka 1), 2048, .inl (upd fs (32 * n + k) (nI (sp_rg a.toInt64))))), (a7, .inl ((ka 0), 2048, .inr (.inl (vp_updL ss (32 * n + k) b)))), (a9, .inl ((ka 2), 64, .inl it))]) := hD
  refine lv_aload_n hx hb d_Mo_instruction_101 rfl (lv_at hl 2 rfl) ?_
  refine va_get (D := D) (ci := 5) (v := .ref a9) (C := "VersionedBlockModel") (T := T_Mo) (N := 15) hx hb hts (fun w h => List.mem_cons_of_mem _ (il_Mo w h)) hown hK hP 0 rfl rfl 11 (by decide) (hts _ (List.mem_cons_of_mem _ mw_2_156)) (fun _ h9 => h9) rfl d_Mo_instruction_102 ?_
  refine lv_iload hx hb d_Mo_instruction_105 (lv_at hl 1 rfl) ?_
  refine lv_iconst (v := 0) hx hb d_Mo_instruction_107 (by decide) ?_
  refine my_zast hx hb hK hP hD hS 5 2 rfl rfl (k := n) hn (Nat.le_of_ble_eq_true rfl) rfl d_Mo_instruction_108 (fun H locs hP hD hS => ?_)
  have hP : va_P D classes ([(mo, .inr (5, [.ref a1, .ref a2, .ref a3, .int (nI (n + 1)), .ref a4, .ref a5, .ref a6, .ref a7, .int wn, .ref a8, .int nx, .ref a9, .ref b1, .ref b2, .int ld])), (a4, .inl ((ka 1), 64, .inl (upd zs n (nI (k + 1))))), (a5, .inl ((ka 5), 2048, .inl (upd os (32 * n + k) (nI op)))), (a6, .inl ((ka 1), 2048, .inl (upd fs (32 * n + k) (nI (sp_rg a.toInt64))))), (a7, .inl ((ka 0), 2048, .inr (.inl (vp_updL ss (32 * n + k) b)))), (a9, .inl ((ka 2), 64, .inl (upd it n 0)))]) H := hP
  have hD : va_D A ([(mo, .inr (5, [.ref a1, .ref a2, .ref a3, .int (nI (n + 1)), .ref a4, .ref a5, .ref a6, .ref a7, .int wn, .ref a8, .int nx, .ref a9, .ref b1, .ref b2, .int ld])), (a4, .inl ((ka 1), 64, .inl (upd zs n (nI (k + 1))))), (a5, .inl ((ka 5), 2048, .inl (upd os (32 * n + k) (nI op)))), (a6, .inl ((ka 1), 2048, .inl (upd fs (32 * n + k) (nI (sp_rg a.toInt64))))), (a7, .inl ((ka 0), 2048, .inr (.inl (vp_updL ss (32 * n + k) b)))), (a9, .inl ((ka 2), 64, .inl (upd it n 0)))]) := hD
  refine lv_aload_n hx hb d_Mo_instruction_109 rfl (lv_at hl 2 rfl) ?_
  refine va_get (D := D) (ci := 5) (v := .ref a4) (C := "VersionedBlockModel") (T := T_Mo) (N := 15) hx hb hts (fun w h => List.mem_cons_of_mem _ (il_Mo w h)) hown hK hP 0 rfl rfl 4 (by decide) (hts _ (List.mem_cons_of_mem _ mw_2_149)) (fun _ h9 => h9) rfl d_Mo_instruction_110 ?_
  refine lv_iload hx hb d_Mo_instruction_113 (lv_at hl 1 rfl) ?_
  refine my_iald hx hb hK hP 1 1 rfl rfl (k := n) hn (Nat.le_of_ble_eq_true rfl) d_Mo_instruction_115 ?_
  refine lv_topi (fun v_115 ev_115 => ?_)
  obtain rfl : v_115 = nI (k + 1) := ev_115.trans pk_us
  have hP9 := hP.sub (ws' := [(mo, .inr (5, [.ref a1, .ref a2, .ref a3, .int (nI (n + 1)), .ref a4, .ref a5, .ref a6, .ref a7, .int wn, .ref a8, .int nx, .ref a9, .ref b1, .ref b2, .int ld])), (a4, .inl ((ka 1), 64, .inl (upd zs n (nI (k + 1))))), (a5, .inl ((ka 5), 2048, .inl (upd os (32 * n + k) (nI op)))), (a6, .inl ((ka 1), 2048, .inl (upd fs (32 * n + k) (nI (sp_rg a.toInt64))))), (a7, .inl ((ka 0), 2048, .inr (.inl (vp_updL ss (32 * n + k) b)))), (a9, .inl ((ka 2), 64, .inl (upd it n 0)))]) [0, 1, 2, 3, 4, 5] rfl
  have hD9 := hD.sub (ws' := [(mo, .inr (5, [.ref a1, .ref a2, .ref a3, .int (nI (n + 1)), .ref a4, .ref a5, .ref a6, .ref a7, .int wn, .ref a8, .int nx, .ref a9, .ref b1, .ref b2, .int ld])), (a4, .inl ((ka 1), 64, .inl (upd zs n (nI (k + 1))))), (a5, .inl ((ka 5), 2048, .inl (upd os (32 * n + k) (nI op)))), (a6, .inl ((ka 1), 2048, .inl (upd fs (32 * n + k) (nI (sp_rg a.toInt64))))), (a7, .inl ((ka 0), 2048, .inr (.inl (vp_updL ss (32 * n + k) b)))), (a9, .inl ((ka 2), 64, .inl (upd it n 0)))]) [0, 1, 2, 3, 4, 5] (by decide) rfl
  exact W.iret (v := (nI (k + 1))) hx hb hr (fun t9 ht hW => ⟨⟨(nI (k + 1)), (), rfl, rfl, trivial, by rw [ht]; exact hP9, hD9⟩, hS.F ht⟩) hS.2.2 d_Mo_instruction_116
set_option maxHeartbeats 4000000 in
set_option maxRecDepth 100000 in
theorem c_Mo_told_no (l : Launch) (D : va_G) (ka : Nat → ClassId) (mo a1 a2 a3 a4 a5 a6 a7 a8 a9 b1 b2 : Nat) (n : Nat) (x y : Int32) (wn nx ld : Int32) (hx0 : ¬ (¬ x < 0 ∧ ¬ nI n ≤ x)) : Met l y_Mo_told w_Mo_told ({ frames := 0, cells := 0, slots := 0, locals := 0 }) (pR classes (tyS ka) D [.ref mo, .int x, .int y] ([(mo, .inr (5, [.ref a1, .ref a2, .ref a3, .int (nI n), .ref a4, .ref a5, .ref a6, .ref a7, .int wn, .ref a8, .int nx, .ref a9, .ref b1, .ref b2, .int ld]))])) (vp_Si (fun r => r = (-1))) 0 0 (fun _ => False) := by
  refine Met.ofW (cc := b_Mo_told) (maxL := 3) (ret := (some .int)) (by decide) rfl ?_
  intro pP eE sS mM args below meth cC s1 B hml hv
  obtain ⟨rfl, hP, hK, hN⟩ := hv
  have hx := B.exec
  have hb := B.bytes
  have hr := B.returns
  have hts := atoms_spec (ws := w_Mo_told) B.pre
  have hown : sS.vm.findClass "VersionedBlockModel" = some mM.cls := findClass_of_methodNamed B.named
  have hlocks := B.notSynchronized
  have hl := lv_entry ([.ref mo, .int x, .int y]) (n := 3) (Nat.le_of_ble_eq_true rfl)
  rw [lg_entry_eq]
  generalize (lg_sl ([.ref mo, .int x, .int y]) ++ List.replicate (3 - (lg_sl ([.ref mo, .int x, .int y])).length) Slot.unset).toArray = ls at hl ⊢
  have hl : lv_has ls 3 [(0, .ref mo), (1, .int x), (2, .int y)] := hl
  refine lv_iload_n hx hb d_Mo_told_0 rfl (lv_at hl 1 rfl) ?_
  refine lv_if_lt (tgt := 21) hx hb d_Mo_told_1 (by decide) (fun c_1 => ?_) (fun c_1 => ?_)
  · refine lv_iconst (v := (-1)) hx hb d_Mo_told_21 (by decide) ?_
    exact W.iret (v := (-1)) hx hb hr (fun t9 ht hW => ⟨(-1), rfl, rfl, ht⟩) (fun _ h => by cases h) d_Mo_told_22
  · refine lv_iload_n hx hb d_Mo_told_4 rfl (lv_at hl 1 rfl) ?_
    refine lv_aload_n hx hb d_Mo_told_5 rfl (lv_at hl 0 rfl) ?_
    refine va_get (D := D) (ci := 5) (v := .int (nI n)) (C := "VersionedBlockModel") (T := T_Mo) (N := 15) hx hb hts (fun w h => List.mem_cons_of_mem _ (il_Mo w h)) hown hK hP 0 rfl rfl 3 (by decide) (hts _ (List.mem_cons_of_mem _ mw_2_148)) (fun _ h9 => h9) rfl d_Mo_told_6 ?_
    refine lv_icmp_ge (tgt := 21) hx hb d_Mo_told_9 (by decide) (fun c_9 => ?_) (fun c_9 => ?_)
    · refine lv_iconst (v := (-1)) hx hb d_Mo_told_21 (by decide) ?_
      exact W.iret (v := (-1)) hx hb hr (fun t9 ht hW => ⟨(-1), rfl, rfl, ht⟩) (fun _ h => by cases h) d_Mo_told_22
    · exact absurd ⟨c_1, c_9⟩ hx0
set_option maxHeartbeats 4000000 in
set_option maxRecDepth 100000 in
theorem c_Mo_told_bad (l : Launch) (D : va_G) (ka : Nat → ClassId) (mo a1 a2 a3 a4 a5 a6 a7 a8 a9 b1 b2 : Nat) (n j : Nat) (y : Int32) (wn nx ld : Int32) (hj : j < n) (hn : n ≤ 64) (hy0 : ¬ (¬ y < 0 ∧ y ≤ 3)) : Met l y_Mo_told w_Mo_told ({ frames := 0, cells := 0, slots := 0, locals := 0 }) (pR classes (tyS ka) D [.ref mo, .int (nI j), .int y] ([(mo, .inr (5, [.ref a1, .ref a2, .ref a3, .int (nI n), .ref a4, .ref a5, .ref a6, .ref a7, .int wn, .ref a8, .int nx, .ref a9, .ref b1, .ref b2, .int ld]))])) (vp_Si (fun r => r = (-1))) 0 0 (fun _ => False) := by
  refine Met.ofW (cc := b_Mo_told) (maxL := 3) (ret := (some .int)) (by decide) rfl ?_
  intro pP eE sS mM args below meth cC s1 B hml hv
  obtain ⟨rfl, hP, hK, hN⟩ := hv
  have hx := B.exec
  have hb := B.bytes
  have hr := B.returns
  have hts := atoms_spec (ws := w_Mo_told) B.pre
  have hown : sS.vm.findClass "VersionedBlockModel" = some mM.cls := findClass_of_methodNamed B.named
  have hlocks := B.notSynchronized
  have hl := lv_entry ([.ref mo, .int (nI j), .int y]) (n := 3) (Nat.le_of_ble_eq_true rfl)
  rw [lg_entry_eq]
  generalize (lg_sl ([.ref mo, .int (nI j), .int y]) ++ List.replicate (3 - (lg_sl ([.ref mo, .int (nI j), .int y])).length) Slot.unset).toArray = ls at hl ⊢
  have hl : lv_has ls 3 [(0, .ref mo), (1, .int (nI j)), (2, .int y)] := hl
  refine lv_iload_n hx hb d_Mo_told_0 rfl (lv_at hl 1 rfl) ?_
  refine lv_if_lt (tgt := 21) hx hb d_Mo_told_1 (by decide) (fun c_1 => absurd c_1 (nI_pos (by omega))) (fun c_1 => ?_)
  refine lv_iload_n hx hb d_Mo_told_4 rfl (lv_at hl 1 rfl) ?_
  refine lv_aload_n hx hb d_Mo_told_5 rfl (lv_at hl 0 rfl) ?_
  refine va_get (D := D) (ci := 5) (v := .int (nI n)) (C := "VersionedBlockModel") (T := T_Mo) (N := 15) hx hb hts (fun w h => List.mem_cons_of_mem _ (il_Mo w h)) hown hK hP 0 rfl rfl 3 (by decide) (hts _ (List.mem_cons_of_mem _ mw_2_148)) (fun _ h9 => h9) rfl d_Mo_told_6 ?_
  refine lv_icmp_ge (tgt := 21) hx hb d_Mo_told_9 (by decide) (fun c_9 => absurd c_9 (nI_ge hj (by omega))) (fun c_9 => ?_)
  refine lv_iload_n hx hb d_Mo_told_12 rfl (lv_at hl 2 rfl) ?_
  refine lv_if_lt (tgt := 21) hx hb d_Mo_told_13 (by decide) (fun c_13 => ?_) (fun c_13 => ?_)
  · refine lv_iconst (v := (-1)) hx hb d_Mo_told_21 (by decide) ?_
    exact W.iret (v := (-1)) hx hb hr (fun t9 ht hW => ⟨(-1), rfl, rfl, ht⟩) (fun _ h => by cases h) d_Mo_told_22
  · refine lv_iload_n hx hb d_Mo_told_16 rfl (lv_at hl 2 rfl) ?_
    refine lv_iconst (v := 3) hx hb d_Mo_told_17 (by decide) ?_
    refine lv_icmp_le (tgt := 23) hx hb d_Mo_told_18 (by decide) (fun c_18 => ?_) (fun c_18 => ?_)
    · exact absurd ⟨c_13, c_18⟩ hy0
    · refine lv_iconst (v := (-1)) hx hb d_Mo_told_21 (by decide) ?_
      exact W.iret (v := (-1)) hx hb hr (fun t9 ht hW => ⟨(-1), rfl, rfl, ht⟩) (fun _ h => by cases h) d_Mo_told_22
set_option maxHeartbeats 4000000 in
set_option maxRecDepth 100000 in
theorem c_Mo_told_none (l : Launch) (D : va_G) (ka : Nat → ClassId) (mo a1 a2 a3 a4 a5 a6 a7 a8 a9 b1 b2 : Nat) (n j c : Nat) (wn nx ld : Int32) (it : Nat → Int32) (hj : j < n) (hn : n ≤ 64) (hc : c ≤ 3) (hit : it j = 0) : Met l y_Mo_told w_Mo_told ({ frames := 0, cells := 0, slots := 0, locals := 0 }) (pR classes (tyS ka) D [.ref mo, .int (nI j), .int (nI c)] ([(mo, .inr (5, [.ref a1, .ref a2, .ref a3, .int (nI n), .ref a4, .ref a5, .ref a6, .ref a7, .int wn, .ref a8, .int nx, .ref a9, .ref b1, .ref b2, .int ld])), (a9, .inl ((ka 2), 64, .inl it))])) (vp_Si (fun r => r = (-2))) 0 0 (fun _ => False) := by
  refine Met.ofW (cc := b_Mo_told) (maxL := 3) (ret := (some .int)) (by decide) rfl ?_
  intro pP eE sS mM args below meth cC s1 B hml hv
  obtain ⟨rfl, hP, hK, hN⟩ := hv
  have hx := B.exec
  have hb := B.bytes
  have hr := B.returns
  have hts := atoms_spec (ws := w_Mo_told) B.pre
  have hown : sS.vm.findClass "VersionedBlockModel" = some mM.cls := findClass_of_methodNamed B.named
  have hlocks := B.notSynchronized
  have hl := lv_entry ([.ref mo, .int (nI j), .int (nI c)]) (n := 3) (Nat.le_of_ble_eq_true rfl)
  rw [lg_entry_eq]
  generalize (lg_sl ([.ref mo, .int (nI j), .int (nI c)]) ++ List.replicate (3 - (lg_sl ([.ref mo, .int (nI j), .int (nI c)])).length) Slot.unset).toArray = ls at hl ⊢
  have hl : lv_has ls 3 [(0, .ref mo), (1, .int (nI j)), (2, .int (nI c))] := hl
  refine lv_iload_n hx hb d_Mo_told_0 rfl (lv_at hl 1 rfl) ?_
  refine lv_if_lt (tgt := 21) hx hb d_Mo_told_1 (by decide) (fun c_1 => absurd c_1 (nI_pos (by omega))) (fun c_1 => ?_)
  refine lv_iload_n hx hb d_Mo_told_4 rfl (lv_at hl 1 rfl) ?_
  refine lv_aload_n hx hb d_Mo_told_5 rfl (lv_at hl 0 rfl) ?_
  refine va_get (D := D) (ci := 5) (v := .int (nI n)) (C := "VersionedBlockModel") (T := T_Mo) (N := 15) hx hb hts (fun w h => List.mem_cons_of_mem _ (il_Mo w h)) hown hK hP 0 rfl rfl 3 (by decide) (hts _ (List.mem_cons_of_mem _ mw_2_148)) (fun _ h9 => h9) rfl d_Mo_told_6 ?_
  refine lv_icmp_ge (tgt := 21) hx hb d_Mo_told_9 (by decide) (fun c_9 => absurd c_9 (nI_ge hj (by omega))) (fun c_9 => ?_)
  refine lv_iload_n hx hb d_Mo_told_12 rfl (lv_at hl 2 rfl) ?_
  refine lv_if_lt (tgt := 21) hx hb d_Mo_told_13 (by decide) (fun c_13 => absurd c_13 (nI_pos (by omega))) (fun c_13 => ?_)
  refine lv_iload_n hx hb d_Mo_told_16 rfl (lv_at hl 2 rfl) ?_
  refine lv_iconst (v := (nI 3)) hx hb d_Mo_told_17 (by decide) ?_
  refine lv_icmp_le (tgt := 23) hx hb d_Mo_told_18 (by decide) (fun c_18 => ?_) (fun c_18 => absurd (nI_le hc (by decide)) c_18)
  refine lv_aload_n hx hb d_Mo_told_23 rfl (lv_at hl 0 rfl) ?_
  refine va_get (D := D) (ci := 5) (v := .ref a9) (C := "VersionedBlockModel") (T := T_Mo) (N := 15) hx hb hts (fun w h => List.mem_cons_of_mem _ (il_Mo w h)) hown hK hP 0 rfl rfl 11 (by decide) (hts _ (List.mem_cons_of_mem _ mw_2_156)) (fun _ h9 => h9) rfl d_Mo_told_24 ?_
  refine lv_iload_n hx hb d_Mo_told_27 rfl (lv_at hl 1 rfl) ?_
  refine my_zald hx hb hK hP 1 2 rfl rfl (k := j) (by omega) (Nat.le_of_ble_eq_true rfl) d_Mo_told_28 ?_
  refine lv_if_eq (tgt := 45) hx hb d_Mo_told_29 (by decide) (fun c_29 => ?_) (fun c_29 => absurd hit c_29)
  refine lv_bipush (v := (-2)) hx hb d_Mo_told_45 (by decide) ?_
  exact W.iret (v := (-2)) hx hb hr (fun t9 ht hW => ⟨(-2), rfl, rfl, ht⟩) (fun _ h => by cases h) d_Mo_told_47
set_option maxHeartbeats 4000000 in
set_option maxRecDepth 100000 in
theorem c_Mo_told (l : Launch) (D : va_G) (ka : Nat → ClassId) (mo a1 a2 a3 a4 a5 a6 a7 a8 a9 b1 b2 : Nat) (n j c : Nat) (wn nx ld : Int32) (it tv : Nat → Int32) (hj : j < n) (hn : n ≤ 64) (hc : c ≤ 3) (hit : it j = 1) : Met l y_Mo_told w_Mo_told ({ frames := 0, cells := 0, slots := 0, locals := 0 }) (pR classes (tyS ka) D [.ref mo, .int (nI j), .int (nI c)] ([(mo, .inr (5, [.ref a1, .ref a2, .ref a3, .int (nI n), .ref a4, .ref a5, .ref a6, .ref a7, .int wn, .ref a8, .int nx, .ref a9, .ref b1, .ref b2, .int ld])), (a9, .inl ((ka 2), 64, .inl it)), (b1, .inl ((ka 1), 256, .inl tv))])) (vp_Si (fun r => r = (tv (4 * j + c)))) 0 0 (fun _ => False) := by
  refine Met.ofW (cc := b_Mo_told) (maxL := 3) (ret := (some .int)) (by decide) rfl ?_
  intro pP eE sS mM args below meth cC s1 B hml hv
  obtain ⟨rfl, hP, hK, hN⟩ := hv
  have hx := B.exec
  have hb := B.bytes
  have hr := B.returns
  have hts := atoms_spec (ws := w_Mo_told) B.pre
  have hown : sS.vm.findClass "VersionedBlockModel" = some mM.cls := findClass_of_methodNamed B.named
  have hlocks := B.notSynchronized
  have hl := lv_entry ([.ref mo, .int (nI j), .int (nI c)]) (n := 3) (Nat.le_of_ble_eq_true rfl)
  rw [lg_entry_eq]
  generalize (lg_sl ([.ref mo, .int (nI j), .int (nI c)]) ++ List.replicate (3 - (lg_sl ([.ref mo, .int (nI j), .int (nI c)])).length) Slot.unset).toArray = ls at hl ⊢
  have hl : lv_has ls 3 [(0, .ref mo), (1, .int (nI j)), (2, .int (nI c))] := hl
  refine lv_iload_n hx hb d_Mo_told_0 rfl (lv_at hl 1 rfl) ?_
  refine lv_if_lt (tgt := 21) hx hb d_Mo_told_1 (by decide) (fun c_1 => absurd c_1 (nI_pos (by omega))) (fun c_1 => ?_)
  refine lv_iload_n hx hb d_Mo_told_4 rfl (lv_at hl 1 rfl) ?_
  refine lv_aload_n hx hb d_Mo_told_5 rfl (lv_at hl 0 rfl) ?_
  refine va_get (D := D) (ci := 5) (v := .int (nI n)) (C := "VersionedBlockModel") (T := T_Mo) (N := 15) hx hb hts (fun w h => List.mem_cons_of_mem _ (il_Mo w h)) hown hK hP 0 rfl rfl 3 (by decide) (hts _ (List.mem_cons_of_mem _ mw_2_148)) (fun _ h9 => h9) rfl d_Mo_told_6 ?_
  refine lv_icmp_ge (tgt := 21) hx hb d_Mo_told_9 (by decide) (fun c_9 => absurd c_9 (nI_ge hj (by omega))) (fun c_9 => ?_)
  refine lv_iload_n hx hb d_Mo_told_12 rfl (lv_at hl 2 rfl) ?_
  refine lv_if_lt (tgt := 21) hx hb d_Mo_told_13 (by decide) (fun c_13 => absurd c_13 (nI_pos (by omega))) (fun c_13 => ?_)
  refine lv_iload_n hx hb d_Mo_told_16 rfl (lv_at hl 2 rfl) ?_
  refine lv_iconst (v := (nI 3)) hx hb d_Mo_told_17 (by decide) ?_
  refine lv_icmp_le (tgt := 23) hx hb d_Mo_told_18 (by decide) (fun c_18 => ?_) (fun c_18 => absurd (nI_le hc (by decide)) c_18)
  refine lv_aload_n hx hb d_Mo_told_23 rfl (lv_at hl 0 rfl) ?_
  refine va_get (D := D) (ci := 5) (v := .ref a9) (C := "VersionedBlockModel") (T := T_Mo) (N := 15) hx hb hts (fun w h => List.mem_cons_of_mem _ (il_Mo w h)) hown hK hP 0 rfl rfl 11 (by decide) (hts _ (List.mem_cons_of_mem _ mw_2_156)) (fun _ h9 => h9) rfl d_Mo_told_24 ?_
  refine lv_iload_n hx hb d_Mo_told_27 rfl (lv_at hl 1 rfl) ?_
  refine my_zald hx hb hK hP 1 2 rfl rfl (k := j) (by omega) (Nat.le_of_ble_eq_true rfl) d_Mo_told_28 ?_
  refine lv_if_eq (tgt := 45) hx hb d_Mo_told_29 (by decide) (fun c_29 => absurd c_29 (by rw [hit]; decide)) (fun c_29 => ?_)
  refine lv_aload_n hx hb d_Mo_told_32 rfl (lv_at hl 0 rfl) ?_
  refine va_get (D := D) (ci := 5) (v := .ref b1) (C := "VersionedBlockModel") (T := T_Mo) (N := 15) hx hb hts (fun w h => List.mem_cons_of_mem _ (il_Mo w h)) hown hK hP 0 rfl rfl 12 (by decide) (hts _ (List.mem_cons_of_mem _ mw_2_157)) (fun _ h9 => h9) rfl d_Mo_told_33 ?_
  refine lv_iconst (v := (nI 4)) hx hb d_Mo_told_36 (by decide) ?_
  refine lv_iload_n hx hb d_Mo_told_37 rfl (lv_at hl 1 rfl) ?_
  refine lv_imul hx hb d_Mo_told_38 ?_
  refine lv_topi (fun v_38 ev_38 => ?_)
  obtain rfl : v_38 = nI (4 * j) := ev_38.trans (pk_mul _ _)
  refine lv_iload_n hx hb d_Mo_told_39 rfl (lv_at hl 2 rfl) ?_
  refine lv_iadd hx hb d_Mo_told_40 ?_
  refine lv_topi (fun v_40 ev_40 => ?_)
  obtain rfl : v_40 = nI (4 * j + c) := ev_40.trans (nI_add _ _)
  refine my_iald hx hb hK hP 2 1 rfl rfl (k := (4 * j + c)) (by omega) (Nat.le_of_ble_eq_true rfl) d_Mo_told_41 ?_
  refine lv_goto (tgt := 47) hx hb d_Mo_told_42 (by decide) ?_
  exact W.iret (v := (tv (4 * j + c))) hx hb hr (fun t9 ht hW => ⟨(tv (4 * j + c)), rfl, rfl, ht⟩) (fun _ h => by cases h) d_Mo_told_47
set_option maxHeartbeats 4000000 in
set_option maxRecDepth 100000 in
theorem c_Mo_res_no (l : Launch) (D : va_G) (ka : Nat → ClassId) (mo a1 a2 a3 a4 a5 a6 a7 a8 a9 b1 b2 : Nat) (n : Nat) (x : Int32) (wn nx ld : Int32) (hx0 : ¬ (¬ x < 0 ∧ ¬ nI n ≤ x)) : Met l y_Mo_result w_Mo_result ({ frames := 0, cells := 0, slots := 0, locals := 0 }) (pR classes (tyS ka) D [.ref mo, .int x] ([(mo, .inr (5, [.ref a1, .ref a2, .ref a3, .int (nI n), .ref a4, .ref a5, .ref a6, .ref a7, .int wn, .ref a8, .int nx, .ref a9, .ref b1, .ref b2, .int ld]))])) (vp_Sl (fun r => r = 0)) 0 0 (fun _ => False) := by
  refine Met.ofW (cc := b_Mo_result) (maxL := 2) (ret := (some .long)) (by decide) rfl ?_
  intro pP eE sS mM args below meth cC s1 B hml hv
  obtain ⟨rfl, hP, hK, hN⟩ := hv
  have hx := B.exec
  have hb := B.bytes
  have hr := B.returns
  have hts := atoms_spec (ws := w_Mo_result) B.pre
  have hown : sS.vm.findClass "VersionedBlockModel" = some mM.cls := findClass_of_methodNamed B.named
  have hlocks := B.notSynchronized
  have hl := lv_entry ([.ref mo, .int x]) (n := 2) (Nat.le_of_ble_eq_true rfl)
  rw [lg_entry_eq]
  generalize (lg_sl ([.ref mo, .int x]) ++ List.replicate (2 - (lg_sl ([.ref mo, .int x])).length) Slot.unset).toArray = ls at hl ⊢
  have hl : lv_has ls 2 [(0, .ref mo), (1, .int x)] := hl
  refine lv_iload_n hx hb d_Mo_result_0 rfl (lv_at hl 1 rfl) ?_
  refine lv_if_lt (tgt := 30) hx hb d_Mo_result_1 (by decide) (fun c_1 => ?_) (fun c_1 => ?_)
  · refine lv_lconst (v := 0) hx hb d_Mo_result_30 (by decide) ?_
    exact W.lret (v := 0) hx hb hr (fun t9 ht hW => ⟨0, rfl, rfl, ht⟩) (fun _ h => by cases h) d_Mo_result_31
  · refine lv_iload_n hx hb d_Mo_result_4 rfl (lv_at hl 1 rfl) ?_
    refine lv_aload_n hx hb d_Mo_result_5 rfl (lv_at hl 0 rfl) ?_
    refine va_get (D := D) (ci := 5) (v := .int (nI n)) (C := "VersionedBlockModel") (T := T_Mo) (N := 15) hx hb hts (fun w h => List.mem_cons_of_mem _ (il_Mo w h)) hown hK hP 0 rfl rfl 3 (by decide) (hts _ (List.mem_cons_of_mem _ mw_2_148)) (fun _ h9 => h9) rfl d_Mo_result_6 ?_
    refine lv_icmp_ge (tgt := 30) hx hb d_Mo_result_9 (by decide) (fun c_9 => ?_) (fun c_9 => ?_)
    · refine lv_lconst (v := 0) hx hb d_Mo_result_30 (by decide) ?_
      exact W.lret (v := 0) hx hb hr (fun t9 ht hW => ⟨0, rfl, rfl, ht⟩) (fun _ h => by cases h) d_Mo_result_31
    · exact absurd ⟨c_1, c_9⟩ hx0
set_option maxHeartbeats 4000000 in
set_option maxRecDepth 100000 in
theorem c_Mo_res_none (l : Launch) (D : va_G) (ka : Nat → ClassId) (mo a1 a2 a3 a4 a5 a6 a7 a8 a9 b1 b2 : Nat) (n j : Nat) (wn nx ld : Int32) (it : Nat → Int32) (hj : j < n) (hn : n ≤ 64) (hit : it j = 0) : Met l y_Mo_result w_Mo_result ({ frames := 0, cells := 0, slots := 0, locals := 0 }) (pR classes (tyS ka) D [.ref mo, .int (nI j)] ([(mo, .inr (5, [.ref a1, .ref a2, .ref a3, .int (nI n), .ref a4, .ref a5, .ref a6, .ref a7, .int wn, .ref a8, .int nx, .ref a9, .ref b1, .ref b2, .int ld])), (a9, .inl ((ka 2), 64, .inl it))])) (vp_Sl (fun r => r = 0)) 0 0 (fun _ => False) := by
  refine Met.ofW (cc := b_Mo_result) (maxL := 2) (ret := (some .long)) (by decide) rfl ?_
  intro pP eE sS mM args below meth cC s1 B hml hv
  obtain ⟨rfl, hP, hK, hN⟩ := hv
  have hx := B.exec
  have hb := B.bytes
  have hr := B.returns
  have hts := atoms_spec (ws := w_Mo_result) B.pre
  have hown : sS.vm.findClass "VersionedBlockModel" = some mM.cls := findClass_of_methodNamed B.named
  have hlocks := B.notSynchronized
  have hl := lv_entry ([.ref mo, .int (nI j)]) (n := 2) (Nat.le_of_ble_eq_true rfl)
  rw [lg_entry_eq]
  generalize (lg_sl ([.ref mo, .int (nI j)]) ++ List.replicate (2 - (lg_sl ([.ref mo, .int (nI j)])).length) Slot.unset).toArray = ls at hl ⊢
  have hl : lv_has ls 2 [(0, .ref mo), (1, .int (nI j))] := hl
  refine lv_iload_n hx hb d_Mo_result_0 rfl (lv_at hl 1 rfl) ?_
  refine lv_if_lt (tgt := 30) hx hb d_Mo_result_1 (by decide) (fun c_1 => absurd c_1 (nI_pos (by omega))) (fun c_1 => ?_)
  refine lv_iload_n hx hb d_Mo_result_4 rfl (lv_at hl 1 rfl) ?_
  refine lv_aload_n hx hb d_Mo_result_5 rfl (lv_at hl 0 rfl) ?_
  refine va_get (D := D) (ci := 5) (v := .int (nI n)) (C := "VersionedBlockModel") (T := T_Mo) (N := 15) hx hb hts (fun w h => List.mem_cons_of_mem _ (il_Mo w h)) hown hK hP 0 rfl rfl 3 (by decide) (hts _ (List.mem_cons_of_mem _ mw_2_148)) (fun _ h9 => h9) rfl d_Mo_result_6 ?_
  refine lv_icmp_ge (tgt := 30) hx hb d_Mo_result_9 (by decide) (fun c_9 => absurd c_9 (nI_ge hj (by omega))) (fun c_9 => ?_)
  refine lv_aload_n hx hb d_Mo_result_12 rfl (lv_at hl 0 rfl) ?_
  refine va_get (D := D) (ci := 5) (v := .ref a9) (C := "VersionedBlockModel") (T := T_Mo) (N := 15) hx hb hts (fun w h => List.mem_cons_of_mem _ (il_Mo w h)) hown hK hP 0 rfl rfl 11 (by decide) (hts _ (List.mem_cons_of_mem _ mw_2_156)) (fun _ h9 => h9) rfl d_Mo_result_13 ?_
  refine lv_iload_n hx hb d_Mo_result_16 rfl (lv_at hl 1 rfl) ?_
  refine my_zald hx hb hK hP 1 2 rfl rfl (k := j) (by omega) (Nat.le_of_ble_eq_true rfl) d_Mo_result_17 ?_
  refine lv_if_eq (tgt := 30) hx hb d_Mo_result_18 (by decide) (fun c_18 => ?_) (fun c_18 => absurd hit c_18)
  refine lv_lconst (v := 0) hx hb d_Mo_result_30 (by decide) ?_
  exact W.lret (v := 0) hx hb hr (fun t9 ht hW => ⟨0, rfl, rfl, ht⟩) (fun _ h => by cases h) d_Mo_result_31
set_option maxHeartbeats 4000000 in
set_option maxRecDepth 100000 in
theorem c_Mo_res (l : Launch) (D : va_G) (ka : Nat → ClassId) (mo a1 a2 a3 a4 a5 a6 a7 a8 a9 b1 b2 : Nat) (n j : Nat) (wn nx ld : Int32) (it : Nat → Int32) (rv : Nat → Int64) (hj : j < n) (hn : n ≤ 64) (hit : it j = 1) : Met l y_Mo_result w_Mo_result ({ frames := 0, cells := 0, slots := 0, locals := 0 }) (pR classes (tyS ka) D [.ref mo, .int (nI j)] ([(mo, .inr (5, [.ref a1, .ref a2, .ref a3, .int (nI n), .ref a4, .ref a5, .ref a6, .ref a7, .int wn, .ref a8, .int nx, .ref a9, .ref b1, .ref b2, .int ld])), (a9, .inl ((ka 2), 64, .inl it)), (b2, .inl ((ka 0), 64, .inr (.inl rv)))])) (vp_Sl (fun r => r = (rv j))) 0 0 (fun _ => False) := by
  refine Met.ofW (cc := b_Mo_result) (maxL := 2) (ret := (some .long)) (by decide) rfl ?_
  intro pP eE sS mM args below meth cC s1 B hml hv
  obtain ⟨rfl, hP, hK, hN⟩ := hv
  have hx := B.exec
  have hb := B.bytes
  have hr := B.returns
  have hts := atoms_spec (ws := w_Mo_result) B.pre
  have hown : sS.vm.findClass "VersionedBlockModel" = some mM.cls := findClass_of_methodNamed B.named
  have hlocks := B.notSynchronized
  have hl := lv_entry ([.ref mo, .int (nI j)]) (n := 2) (Nat.le_of_ble_eq_true rfl)
  rw [lg_entry_eq]
  generalize (lg_sl ([.ref mo, .int (nI j)]) ++ List.replicate (2 - (lg_sl ([.ref mo, .int (nI j)])).length) Slot.unset).toArray = ls at hl ⊢
  have hl : lv_has ls 2 [(0, .ref mo), (1, .int (nI j))] := hl
  refine lv_iload_n hx hb d_Mo_result_0 rfl (lv_at hl 1 rfl) ?_
  refine lv_if_lt (tgt := 30) hx hb d_Mo_result_1 (by decide) (fun c_1 => absurd c_1 (nI_pos (by omega))) (fun c_1 => ?_)
  refine lv_iload_n hx hb d_Mo_result_4 rfl (lv_at hl 1 rfl) ?_
  refine lv_aload_n hx hb d_Mo_result_5 rfl (lv_at hl 0 rfl) ?_
  refine va_get (D := D) (ci := 5) (v := .int (nI n)) (C := "VersionedBlockModel") (T := T_Mo) (N := 15) hx hb hts (fun w h => List.mem_cons_of_mem _ (il_Mo w h)) hown hK hP 0 rfl rfl 3 (by decide) (hts _ (List.mem_cons_of_mem _ mw_2_148)) (fun _ h9 => h9) rfl d_Mo_result_6 ?_
  refine lv_icmp_ge (tgt := 30) hx hb d_Mo_result_9 (by decide) (fun c_9 => absurd c_9 (nI_ge hj (by omega))) (fun c_9 => ?_)
  refine lv_aload_n hx hb d_Mo_result_12 rfl (lv_at hl 0 rfl) ?_
  refine va_get (D := D) (ci := 5) (v := .ref a9) (C := "VersionedBlockModel") (T := T_Mo) (N := 15) hx hb hts (fun w h => List.mem_cons_of_mem _ (il_Mo w h)) hown hK hP 0 rfl rfl 11 (by decide) (hts _ (List.mem_cons_of_mem _ mw_2_156)) (fun _ h9 => h9) rfl d_Mo_result_13 ?_
  refine lv_iload_n hx hb d_Mo_result_16 rfl (lv_at hl 1 rfl) ?_
  refine my_zald hx hb hK hP 1 2 rfl rfl (k := j) (by omega) (Nat.le_of_ble_eq_true rfl) d_Mo_result_17 ?_
  refine lv_if_eq (tgt := 30) hx hb d_Mo_result_18 (by decide) (fun c_18 => absurd c_18 (by rw [hit]; decide)) (fun c_18 => ?_)
  refine lv_aload_n hx hb d_Mo_result_21 rfl (lv_at hl 0 rfl) ?_
  refine va_get (D := D) (ci := 5) (v := .ref b2) (C := "VersionedBlockModel") (T := T_Mo) (N := 15) hx hb hts (fun w h => List.mem_cons_of_mem _ (il_Mo w h)) hown hK hP 0 rfl rfl 13 (by decide) (hts _ (List.mem_cons_of_mem _ mw_2_158)) (fun _ h9 => h9) rfl d_Mo_result_22 ?_
  refine lv_iload_n hx hb d_Mo_result_25 rfl (lv_at hl 1 rfl) ?_
  refine my_lald hx hb hK hP 2 0 rfl rfl (k := j) (by omega) (Nat.le_of_ble_eq_true rfl) d_Mo_result_26 ?_
  refine lv_goto (tgt := 31) hx hb d_Mo_result_27 (by decide) ?_
  exact W.lret (v := (rv j)) hx hb hr (fun t9 ht hW => ⟨(rv j), rfl, rfl, ht⟩) (fun _ h => by cases h) d_Mo_result_31
set_option maxHeartbeats 4000000 in
set_option maxRecDepth 100000 in
theorem c_Mo_init (l : Launch) (D : va_G) (ka : Nat → ClassId) (sz : Nat) (mo : Nat) (x : Int32)  : Met l y_Mo_init w_Mo_init ({ frames := 1, cells := 11, slots := 7368, locals := 12 }) (pW classes (tyS ka) D [.ref mo, .int x] ([(mo, .inr (5, [.null, .null, .null, .int 0, .null, .null, .null, .null, .int 0, .null, .int 0, .null, .null, .null, .int 0]))]) sz) (va_Qv (fun _ : Unit => True) (fun (_ : Unit) t9 => ∃ (a1 a2 a3 a4 a5 a6 a7 a8 a9 b1 b2 : Nat), (True) ∧ va_P D classes ([(mo, .inr (5, [.ref a1, .ref a2, .ref a3, .int (nI 0), .ref a4, .ref a5, .ref a6, .ref a7, .int (nI 0), .ref a8, .int 0, .ref a9, .ref b1, .ref b2, .int 0])), (a1, .inl ((ka 0), 256, .inr (.inl (fun _ => 0)))), (a2, .inl ((ka 0), 256, .inr (.inl (fun _ => 0)))), (a3, .inl ((ka 2), 256, .inl (fun _ => 0))), (a4, .inl ((ka 1), 64, .inl (fun _ => 0))), (a5, .inl ((ka 5), 2048, .inl (fun _ => 0))), (a6, .inl ((ka 1), 2048, .inl (fun _ => 0))), (a7, .inl ((ka 0), 2048, .inr (.inl (fun _ => 0)))), (a8, .inl ((ka 0), 8, .inr (.inl (fun _ => 0)))), (a9, .inl ((ka 2), 64, .inl (fun _ => 0))), (b1, .inl ((ka 1), 256, .inl (fun _ => 0))), (b2, .inl ((ka 0), 64, .inr (.inl (fun _ => 0))))]) t9.heap ∧ va_D (va_A ([(mo, .inr (5, [.null, .null, .null, .int 0, .null, .null, .null, .null, .int 0, .null, .int 0, .null, .null, .null, .int 0]))]) sz) ([(mo, .inr (5, [.ref a1, .ref a2, .ref a3, .int (nI 0), .ref a4, .ref a5, .ref a6, .ref a7, .int (nI 0), .ref a8, .int 0, .ref a9, .ref b1, .ref b2, .int 0])), (a1, .inl ((ka 0), 256, .inr (.inl (fun _ => 0)))), (a2, .inl ((ka 0), 256, .inr (.inl (fun _ => 0)))), (a3, .inl ((ka 2), 256, .inl (fun _ => 0))), (a4, .inl ((ka 1), 64, .inl (fun _ => 0))), (a5, .inl ((ka 5), 2048, .inl (fun _ => 0))), (a6, .inl ((ka 1), 2048, .inl (fun _ => 0))), (a7, .inl ((ka 0), 2048, .inr (.inl (fun _ => 0)))), (a8, .inl ((ka 0), 8, .inr (.inl (fun _ => 0)))), (a9, .inl ((ka 2), 64, .inl (fun _ => 0))), (b1, .inl ((ka 1), 256, .inl (fun _ => 0))), (b2, .inl ((ka 0), 64, .inr (.inl (fun _ => 0))))])) (va_A ([(mo, .inr (5, [.null, .null, .null, .int 0, .null, .null, .null, .null, .int 0, .null, .int 0, .null, .null, .null, .int 0]))]) sz)) 11 7368 (va_A ([(mo, .inr (5, [.null, .null, .null, .int 0, .null, .null, .null, .null, .int 0, .null, .int 0, .null, .null, .null, .int 0]))]) sz) := by
  refine Met.ofW (cc := b_Mo_init) (maxL := 2) (ret := none) (by decide) rfl ?_
  intro pP eE sS mM args below meth cC s1 B hml hv
  obtain ⟨rfl, hsz, hP, hK, hN, hD0⟩ := hv
  have hx := B.exec
  have hb := B.bytes
  have hr := B.returns
  have hts := atoms_spec (ws := w_Mo_init) B.pre
  have hown : sS.vm.findClass "VersionedBlockModel" = some mM.cls := findClass_of_methodNamed B.named
  have hlocks := B.notSynchronized
  have hin : meth.name = "<init>" := (name_of_methodNamed B.named B.method).1
  subst hsz
  have hD := hD0.self (sz := sS.heap.size)
  generalize hAe : va_A ([(mo, .inr (5, [.null, .null, .null, .int 0, .null, .null, .null, .null, .int 0, .null, .int 0, .null, .null, .null, .int 0]))]) sS.heap.size = A at hD ⊢
  have hA : ∀ q : Nat, sS.heap.size ≤ q → A q := fun q h => by rw [← hAe]; exact Or.inr h
  have hS : va_S A sS.heap sS.heap [] := va_S.rf
  have hl := lv_entry ([.ref mo, .int x]) (n := 2) (Nat.le_of_ble_eq_true rfl)
  rw [lg_entry_eq]
  generalize (lg_sl ([.ref mo, .int x]) ++ List.replicate (2 - (lg_sl ([.ref mo, .int x])).length) Slot.unset).toArray = ls at hl ⊢
  have hl : lv_has ls 2 [(0, .ref mo), (1, .int x)] := hl
  refine lv_aload_n hx hb d_Mo_init_0 rfl (lv_at hl 0 rfl) ?_
  refine W.objInit hx hb hown (hts _ (List.mem_cons_of_mem _ mw_2_144)) (hts _ (List.mem_cons_of_mem _ mw_1_16)) (hts _ (List.mem_cons_of_mem _ mw_1_17)) rfl (by rw [hml]; exact hl.1) rfl d_Mo_init_1 (Nat.le_of_ble_eq_true rfl) (Nat.le_of_ble_eq_true rfl) ?_
  refine W.eq (g2 := F0 mM 4 ls []) rfl ?_
  refine lv_aload_n hx hb d_Mo_init_4 rfl (lv_at hl 0 rfl) ?_
  refine lv_sipush (v := 256) hx hb d_Mo_init_5 (by decide) ?_
  refine my_newa (ty := .long) (a0 := (256, .inr (.inl (fun _ => 0)))) hx hb (hts _ (List.mem_cons_of_mem _ mw_1_33)) rfl hK 0 (cA0 := ka 0) rfl hP hD hS hA (fun _ => rfl) (k := 256) (by decide) (by decide) (Nat.le_of_ble_eq_true rfl) (Nat.le_of_ble_eq_true rfl) d_Mo_init_8 (fun q8 H hP hD hS => ?_)
  have hP : va_P D classes ([(mo, .inr (5, [.null, .null, .null, .int 0, .null, .null, .null, .null, .int 0, .null, .int 0, .null, .null, .null, .int 0])), (q8, .inl ((ka 0), 256, .inr (.inl (fun _ => 0))))]) H := hP
  have hD : va_D A ([(mo, .inr (5, [.null, .null, .null, .int 0, .null, .null, .null, .null, .int 0, .null, .int 0, .null, .null, .null, .int 0])), (q8, .inl ((ka 0), 256, .inr (.inl (fun _ => 0))))]) := hD
  refine W.widen (k := 1) (n := 256) (by omega) (by omega) ?_
  refine va_putF (D := D) (ci := 5) (v := .ref q8) (ty := .array .long) (C := "VersionedBlockModel") (T := T_Mo) (N := 15) hx hb hts (fun w h => List.mem_cons_of_mem _ (il_Mo w h)) t_Mo t_Mo_ok n_Mo hown hK hP hD hS 0 rfl rfl 0 (by decide) (hts _ (List.mem_cons_of_mem _ mw_2_145)) (fun _ h9 => h9) rfl hin rfl (by decide +kernel) rfl rfl (Nat.le_of_ble_eq_true rfl) d_Mo_init_10 (fun H locs hP hD hS => ?_)
  have hP : va_P D classes ([(mo, .inr (5, [.ref q8, .null, .null, .int 0, .null, .null, .null, .null, .int 0, .null, .int 0, .null, .null, .null, .int 0])), (q8, .inl ((ka 0), 256, .inr (.inl (fun _ => 0))))]) H := hP
  have hD : va_D A ([(mo, .inr (5, [.ref q8, .null, .null, .int 0, .null, .null, .null, .null, .int 0, .null, .int 0, .null, .null, .null, .int 0])), (q8, .inl ((ka 0), 256, .inr (.inl (fun _ => 0))))]) := hD
  refine lv_aload_n hx hb d_Mo_init_13 rfl (lv_at hl 0 rfl) ?_
  refine lv_sipush (v := 256) hx hb d_Mo_init_14 (by decide) ?_
  refine my_newa (ty := .long) (a0 := (256, .inr (.inl (fun _ => 0)))) hx hb (hts _ (List.mem_cons_of_mem _ mw_1_33)) rfl hK 0 (cA0 := ka 0) rfl hP hD hS hA (fun _ => rfl) (k := 256) (by decide) (by decide) (Nat.le_of_ble_eq_true rfl) (Nat.le_of_ble_eq_true rfl) d_Mo_init_17 (fun q17 H hP hD hS => ?_)
  have hP : va_P D classes ([(mo, .inr (5, [.ref q8, .null, .null, .int 0, .null, .null, .null, .null, .int 0, .null, .int 0, .null, .null, .null, .int 0])), (q8, .inl ((ka 0), 256, .inr (.inl (fun _ => 0)))), (q17, .inl ((ka 0), 256, .inr (.inl (fun _ => 0))))]) H := hP
  have hD : va_D A ([(mo, .inr (5, [.ref q8, .null, .null, .int 0, .null, .null, .null, .null, .int 0, .null, .int 0, .null, .null, .null, .int 0])), (q8, .inl ((ka 0), 256, .inr (.inl (fun _ => 0)))), (q17, .inl ((ka 0), 256, .inr (.inl (fun _ => 0))))]) := hD
  refine W.widen (k := 2) (n := 512) (by omega) (by omega) ?_
  refine va_putF (D := D) (ci := 5) (v := .ref q17) (ty := .array .long) (C := "VersionedBlockModel") (T := T_Mo) (N := 15) hx hb hts (fun w h => List.mem_cons_of_mem _ (il_Mo w h)) t_Mo t_Mo_ok n_Mo hown hK hP hD hS 0 rfl rfl 1 (by decide) (hts _ (List.mem_cons_of_mem _ mw_2_146)) (fun _ h9 => h9) rfl hin rfl (by decide +kernel) rfl rfl (Nat.le_of_ble_eq_true rfl) d_Mo_init_19 (fun H locs hP hD hS => ?_)
  have hP : va_P D classes ([(mo, .inr (5, [.ref q8, .ref q17, .null, .int 0, .null, .null, .null, .null, .int 0, .null, .int 0, .null, .null, .null, .int 0])), (q8, .inl ((ka 0), 256, .inr (.inl (fun _ => 0)))), (q17, .inl ((ka 0), 256, .inr (.inl (fun _ => 0))))]) H := hP
  have hD : va_D A ([(mo, .inr (5, [.ref q8, .ref q17, .null, .int 0, .null, .null, .null, .null, .int 0, .null, .int 0, .null, .null, .null, .int 0])), (q8, .inl ((ka 0), 256, .inr (.inl (fun _ => 0)))), (q17, .inl ((ka 0), 256, .inr (.inl (fun _ => 0))))]) := hD
  refine lv_aload_n hx hb d_Mo_init_22 rfl (lv_at hl 0 rfl) ?_
  refine lv_sipush (v := 256) hx hb d_Mo_init_23 (by decide) ?_
  refine my_newa (ty := .boolean) (a0 := (256, .inl (fun _ => 0))) hx hb (hts _ (List.mem_cons_of_mem _ mw_1_221)) rfl hK 2 (cA0 := ka 2) rfl hP hD hS hA (fun _ => rfl) (k := 256) (by decide) (by decide) (Nat.le_of_ble_eq_true rfl) (Nat.le_of_ble_eq_true rfl) d_Mo_init_26 (fun q26 H hP hD hS => ?_)
  have hP : va_P D classes ([(mo, .inr (5, [.ref q8, .ref q17, .null, .int 0, .null, .null, .null, .null, .int 0, .null, .int 0, .null, .null, .null, .int 0])), (q8, .inl ((ka 0), 256, .inr (.inl (fun _ => 0)))), (q17, .inl ((ka 0), 256, .inr (.inl (fun _ => 0)))), (q26, .inl ((ka 2), 256, .inl (fun _ => 0)))]) H := hP
  have hD : va_D A ([(mo, .inr (5, [.ref q8, .ref q17, .null, .int 0, .null, .null, .null, .null, .int 0, .null, .int 0, .null, .null, .null, .int 0])), (q8, .inl ((ka 0), 256, .inr (.inl (fun _ => 0)))), (q17, .inl ((ka 0), 256, .inr (.inl (fun _ => 0)))), (q26, .inl ((ka 2), 256, .inl (fun _ => 0)))]) := hD
  refine W.widen (k := 3) (n := 768) (by omega) (by omega) ?_
  refine va_putF (D := D) (ci := 5) (v := .ref q26) (ty := .array .boolean) (C := "VersionedBlockModel") (T := T_Mo) (N := 15) hx hb hts (fun w h => List.mem_cons_of_mem _ (il_Mo w h)) t_Mo t_Mo_ok n_Mo hown hK hP hD hS 0 rfl rfl 2 (by decide) (hts _ (List.mem_cons_of_mem _ mw_2_147)) (fun _ h9 => h9) rfl hin rfl (by decide +kernel) rfl rfl (Nat.le_of_ble_eq_true rfl) d_Mo_init_28 (fun H locs hP hD hS => ?_)
  have hP : va_P D classes ([(mo, .inr (5, [.ref q8, .ref q17, .ref q26, .int 0, .null, .null, .null, .null, .int 0, .null, .int 0, .null, .null, .null, .int 0])), (q8, .inl ((ka 0), 256, .inr (.inl (fun _ => 0)))), (q17, .inl ((ka 0), 256, .inr (.inl (fun _ => 0)))), (q26, .inl ((ka 2), 256, .inl (fun _ => 0)))]) H := hP
  have hD : va_D A ([(mo, .inr (5, [.ref q8, .ref q17, .ref q26, .int 0, .null, .null, .null, .null, .int 0, .null, .int 0, .null, .null, .null, .int 0])), (q8, .inl ((ka 0), 256, .inr (.inl (fun _ => 0)))), (q17, .inl ((ka 0), 256, .inr (.inl (fun _ => 0)))), (q26, .inl ((ka 2), 256, .inl (fun _ => 0)))]) := hD
  refine lv_aload_n hx hb d_Mo_init_31 rfl (lv_at hl 0 rfl) ?_
  refine lv_bipush (v := 64) hx hb d_Mo_init_32 (by decide) ?_
  refine my_newa (ty := .int) (a0 := (64, .inl (fun _ => 0))) hx hb (hts _ (List.mem_cons_of_mem _ mw_1_122)) rfl hK 1 (cA0 := ka 1) rfl hP hD hS hA (fun _ => rfl) (k := 64) (by decide) (by decide) (Nat.le_of_ble_eq_true rfl) (Nat.le_of_ble_eq_true rfl) d_Mo_init_34 (fun q34 H hP hD hS => ?_)
  have hP : va_P D classes ([(mo, .inr (5, [.ref q8, .ref q17, .ref q26, .int 0, .null, .null, .null, .null, .int 0, .null, .int 0, .null, .null, .null, .int 0])), (q8, .inl ((ka 0), 256, .inr (.inl (fun _ => 0)))), (q17, .inl ((ka 0), 256, .inr (.inl (fun _ => 0)))), (q26, .inl ((ka 2), 256, .inl (fun _ => 0))), (q34, .inl ((ka 1), 64, .inl (fun _ => 0)))]) H := hP
  have hD : va_D A ([(mo, .inr (5, [.ref q8, .ref q17, .ref q26, .int 0, .null, .null, .null, .null, .int 0, .null, .int 0, .null, .null, .null, .int 0])), (q8, .inl ((ka 0), 256, .inr (.inl (fun _ => 0)))), (q17, .inl ((ka 0), 256, .inr (.inl (fun _ => 0)))), (q26, .inl ((ka 2), 256, .inl (fun _ => 0))), (q34, .inl ((ka 1), 64, .inl (fun _ => 0)))]) := hD
  refine W.widen (k := 4) (n := 832) (by omega) (by omega) ?_
  refine va_putF (D := D) (ci := 5) (v := .ref q34) (ty := .array .int) (C := "VersionedBlockModel") (T := T_Mo) (N := 15) hx hb hts (fun w h => List.mem_cons_of_mem _ (il_Mo w h)) t_Mo t_Mo_ok n_Mo hown hK hP hD hS 0 rfl rfl 4 (by decide) (hts _ (List.mem_cons_of_mem _ mw_2_149)) (fun _ h9 => h9) rfl hin rfl (by decide +kernel) rfl rfl (Nat.le_of_ble_eq_true rfl) d_Mo_init_36 (fun H locs hP hD hS => ?_)
  have hP : va_P D classes ([(mo, .inr (5, [.ref q8, .ref q17, .ref q26, .int 0, .ref q34, .null, .null, .null, .int 0, .null, .int 0, .null, .null, .null, .int 0])), (q8, .inl ((ka 0), 256, .inr (.inl (fun _ => 0)))), (q17, .inl ((ka 0), 256, .inr (.inl (fun _ => 0)))), (q26, .inl ((ka 2), 256, .inl (fun _ => 0))), (q34, .inl ((ka 1), 64, .inl (fun _ => 0)))]) H := hP
  have hD : va_D A ([(mo, .inr (5, [.ref q8, .ref q17, .ref q26, .int 0, .ref q34, .null, .null, .null, .int 0, .null, .int 0, .null, .null, .null, .int 0])), (q8, .inl ((ka 0), 256, .inr (.inl (fun _ => 0)))), (q17, .inl ((ka 0), 256, .inr (.inl (fun _ => 0)))), (q26, .inl ((ka 2), 256, .inl (fun _ => 0))), (q34, .inl ((ka 1), 64, .inl (fun _ => 0)))]) := hD
  refine lv_aload_n hx hb d_Mo_init_39 rfl (lv_at hl 0 rfl) ?_
  refine lv_sipush (v := 2048) hx hb d_Mo_init_40 (by decide) ?_
  refine my_newa (ty := .byte) (a0 := (2048, .inl (fun _ => 0))) hx hb (hts _ (List.mem_cons_of_mem _ mw_2_191)) rfl hK 5 (cA0 := ka 5) rfl hP hD hS hA (fun _ => rfl) (k := 2048) (by decide) (by decide) (Nat.le_of_ble_eq_true rfl) (Nat.le_of_ble_eq_true rfl) d_Mo_init_43 (fun q43 H hP hD hS => ?_)
  have hP : va_P D classes ([(mo, .inr (5, [.ref q8, .ref q17, .ref q26, .int 0, .ref q34, .null, .null, .null, .int 0, .null, .int 0, .null, .null, .null, .int 0])), (q8, .inl ((ka 0), 256, .inr (.inl (fun _ => 0)))), (q17, .inl ((ka 0), 256, .inr (.inl (fun _ => 0)))), (q26, .inl ((ka 2), 256, .inl (fun _ => 0))), (q34, .inl ((ka 1), 64, .inl (fun _ => 0))), (q43, .inl ((ka 5), 2048, .inl (fun _ => 0)))]) H := hP
  have hD : va_D A ([(mo, .inr (5, [.ref q8, .ref q17, .ref q26, .int 0, .ref q34, .null, .null, .null, .int 0, .null, .int 0, .null, .null, .null, .int 0])), (q8, .inl ((ka 0), 256, .inr (.inl (fun _ => 0)))), (q17, .inl ((ka 0), 256, .inr (.inl (fun _ => 0)))), (q26, .inl ((ka 2), 256, .inl (fun _ => 0))), (q34, .inl ((ka 1), 64, .inl (fun _ => 0))), (q43, .inl ((ka 5), 2048, .inl (fun _ => 0)))]) := hD
  refine W.widen (k := 5) (n := 2880) (by omega) (by omega) ?_
  refine va_putF (D := D) (ci := 5) (v := .ref q43) (ty := .array .byte) (C := "VersionedBlockModel") (T := T_Mo) (N := 15) hx hb hts (fun w h => List.mem_cons_of_mem _ (il_Mo w h)) t_Mo t_Mo_ok n_Mo hown hK hP hD hS 0 rfl rfl 5 (by decide) (hts _ (List.mem_cons_of_mem _ mw_2_150)) (fun _ h9 => h9) rfl hin rfl (by decide +kernel) rfl rfl (Nat.le_of_ble_eq_true rfl) d_Mo_init_45 (fun H locs hP hD hS => ?_)
  have hP : va_P D classes ([(mo, .inr (5, [.ref q8, .ref q17, .ref q26, .int 0, .ref q34, .ref q43, .null, .null, .int 0, .null, .int 0, .null, .null, .null, .int 0])), (q8, .inl ((ka 0), 256, .inr (.inl (fun _ => 0)))), (q17, .inl ((ka 0), 256, .inr (.inl (fun _ => 0)))), (q26, .inl ((ka 2), 256, .inl (fun _ => 0))), (q34, .inl ((ka 1), 64, .inl (fun _ => 0))), (q43, .inl ((ka 5), 2048, .inl (fun _ => 0)))]) H := hP
  have hD : va_D A ([(mo, .inr (5, [.ref q8, .ref q17, .ref q26, .int 0, .ref q34, .ref q43, .null, .null, .int 0, .null, .int 0, .null, .null, .null, .int 0])), (q8, .inl ((ka 0), 256, .inr (.inl (fun _ => 0)))), (q17, .inl ((ka 0), 256, .inr (.inl (fun _ => 0)))), (q26, .inl ((ka 2), 256, .inl (fun _ => 0))), (q34, .inl ((ka 1), 64, .inl (fun _ => 0))), (q43, .inl ((ka 5), 2048, .inl (fun _ => 0)))]) := hD
  refine lv_aload_n hx hb d_Mo_init_48 rfl (lv_at hl 0 rfl) ?_
  refine lv_sipush (v := 2048) hx hb d_Mo_init_49 (by decide) ?_
  refine my_newa (ty := .int) (a0 := (2048, .inl (fun _ => 0))) hx hb (hts _ (List.mem_cons_of_mem _ mw_1_122)) rfl hK 1 (cA0 := ka 1) rfl hP hD hS hA (fun _ => rfl) (k := 2048) (by decide) (by decide) (Nat.le_of_ble_eq_true rfl) (Nat.le_of_ble_eq_true rfl) d_Mo_init_52 (fun q52 H hP hD hS => ?_)
  have hP : va_P D classes ([(mo, .inr (5, [.ref q8, .ref q17, .ref q26, .int 0, .ref q34, .ref q43, .null, .null, .int 0, .null, .int 0, .null, .null, .null, .int 0])), (q8, .inl ((ka 0), 256, .inr (.inl (fun _ => 0)))), (q17, .inl ((ka 0), 256, .inr (.inl (fun _ => 0)))), (q26, .inl ((ka 2), 256, .inl (fun _ => 0))), (q34, .inl ((ka 1), 64, .inl (fun _ => 0))), (q43, .inl ((ka 5), 2048, .inl (fun _ => 0))), (q52, .inl ((ka 1), 2048, .inl (fun _ => 0)))]) H := hP
  have hD : va_D A ([(mo, .inr (5, [.ref q8, .ref q17, .ref q26, .int 0, .ref q34, .ref q43, .null, .null, .int 0, .null, .int 0, .null, .null, .null, .int 0])), (q8, .inl ((ka 0), 256, .inr (.inl (fun _ => 0)))), (q17, .inl ((ka 0), 256, .inr (.inl (fun _ => 0)))), (q26, .inl ((ka 2), 256, .inl (fun _ => 0))), (q34, .inl ((ka 1), 64, .inl (fun _ => 0))), (q43, .inl ((ka 5), 2048, .inl (fun _ => 0))), (q52, .inl ((ka 1), 2048, .inl (fun _ => 0)))]) := hD
  refine W.widen (k := 6) (n := 4928) (by omega) (by omega) ?_
  refine va_putF (D := D) (ci := 5) (v := .ref q52) (ty := .array .int) (C := "VersionedBlockModel") (T := T_Mo) (N := 15) hx hb hts (fun w h => List.mem_cons_of_mem _ (il_Mo w h)) t_Mo t_Mo_ok n_Mo hown hK hP hD hS 0 rfl rfl 6 (by decide) (hts _ (List.mem_cons_of_mem _ mw_2_151)) (fun _ h9 => h9) rfl hin rfl (by decide +kernel) rfl rfl (Nat.le_of_ble_eq_true rfl) d_Mo_init_54 (fun H locs hP hD hS => ?_)
  have hP : va_P D classes ([(mo, .inr (5, [.ref q8, .ref q17, .ref q26, .int 0, .ref q34, .ref q43, .ref q52, .null, .int 0, .null, .int 0, .null, .null, .null, .int 0])), (q8, .inl ((ka 0), 256, .inr (.inl (fun _ => 0)))), (q17, .inl ((ka 0), 256, .inr (.inl (fun _ => 0)))), (q26, .inl ((ka 2), 256, .inl (fun _ => 0))), (q34, .inl ((ka 1), 64, .inl (fun _ => 0))), (q43, .inl ((ka 5), 2048, .inl (fun _ => 0))), (q52, .inl ((ka 1), 2048, .inl (fun _ => 0)))]) H := hP
  have hD : va_D A ([(mo, .inr (5, [.ref q8, .ref q17, .ref q26, .int 0, .ref q34, .ref q43, .ref q52, .null, .int 0, .null, .int 0, .null, .null, .null, .int 0])), (q8, .inl ((ka 0), 256, .inr (.inl (fun _ => 0)))), (q17, .inl ((ka 0), 256, .inr (.inl (fun _ => 0)))), (q26, .inl ((ka 2), 256, .inl (fun _ => 0))), (q34, .inl ((ka 1), 64, .inl (fun _ => 0))), (q43, .inl ((ka 5), 2048, .inl (fun _ => 0))), (q52, .inl ((ka 1), 2048, .inl (fun _ => 0)))]) := hD
  refine lv_aload_n hx hb d_Mo_init_57 rfl (lv_at hl 0 rfl) ?_
  refine lv_sipush (v := 2048) hx hb d_Mo_init_58 (by decide) ?_
  refine my_newa (ty := .long) (a0 := (2048, .inr (.inl (fun _ => 0)))) hx hb (hts _ (List.mem_cons_of_mem _ mw_1_33)) rfl hK 0 (cA0 := ka 0) rfl hP hD hS hA (fun _ => rfl) (k := 2048) (by decide) (by decide) (Nat.le_of_ble_eq_true rfl) (Nat.le_of_ble_eq_true rfl) d_Mo_init_61 (fun q61 H hP hD hS => ?_)
  have hP : va_P D classes ([(mo, .inr (5, [.ref q8, .ref q17, .ref q26, .int 0, .ref q34, .ref q43, .ref q52, .null, .int 0, .null, .int 0, .null, .null, .null, .int 0])), (q8, .inl ((ka 0), 256, .inr (.inl (fun _ => 0)))), (q17, .inl ((ka 0), 256, .inr (.inl (fun _ => 0)))), (q26, .inl ((ka 2), 256, .inl (fun _ => 0))), (q34, .inl ((ka 1), 64, .inl (fun _ => 0))), (q43, .inl ((ka 5), 2048, .inl (fun _ => 0))), (q52, .inl ((ka 1), 2048, .inl (fun _ => 0))), (q61, .inl ((ka 0), 2048, .inr (.inl (fun _ => 0))))]) H := hP
  have hD : va_D A ([(mo, .inr (5, [.ref q8, .ref q17, .ref q26, .int 0, .ref q34, .ref q43, .ref q52, .null, .int 0, .null, .int 0, .null, .null, .null, .int 0])), (q8, .inl ((ka 0), 256, .inr (.inl (fun _ => 0)))), (q17, .inl ((ka 0), 256, .inr (.inl (fun _ => 0)))), (q26, .inl ((ka 2), 256, .inl (fun _ => 0))), (q34, .inl ((ka 1), 64, .inl (fun _ => 0))), (q43, .inl ((ka 5), 2048, .inl (fun _ => 0))), (q52, .inl ((ka 1), 2048, .inl (fun _ => 0))), (q61, .inl ((ka 0), 2048, .inr (.inl (fun _ => 0))))]) := hD
  refine W.widen (k := 7) (n := 6976) (by omega) (by omega) ?_
  refine va_putF (D := D) (ci := 5) (v := .ref q61) (ty := .array .long) (C := "VersionedBlockModel") (T := T_Mo) (N := 15) hx hb hts (fun w h => List.mem_cons_of_mem _ (il_Mo w h)) t_Mo t_Mo_ok n_Mo hown hK hP hD hS 0 rfl rfl 7 (by decide) (hts _ (List.mem_cons_of_mem _ mw_2_152)) (fun _ h9 => h9) rfl hin rfl (by decide +kernel) rfl rfl (Nat.le_of_ble_eq_true rfl) d_Mo_init_63 (fun H locs hP hD hS => ?_)
  have hP : va_P D classes ([(mo, .inr (5, [.ref q8, .ref q17, .ref q26, .int 0, .ref q34, .ref q43, .ref q52, .ref q61, .int 0, .null, .int 0, .null, .null, .null, .int 0])), (q8, .inl ((ka 0), 256, .inr (.inl (fun _ => 0)))), (q17, .inl ((ka 0), 256, .inr (.inl (fun _ => 0)))), (q26, .inl ((ka 2), 256, .inl (fun _ => 0))), (q34, .inl ((ka 1), 64, .inl (fun _ => 0))), (q43, .inl ((ka 5), 2048, .inl (fun _ => 0))), (q52, .inl ((ka 1), 2048, .inl (fun _ => 0))), (q61, .inl ((ka 0), 2048, .inr (.inl (fun _ => 0))))]) H := hP
  have hD : va_D A ([(mo, .inr (5, [.ref q8, .ref q17, .ref q26, .int 0, .ref q34, .ref q43, .ref q52, .ref q61, .int 0, .null, .int 0, .null, .null, .null, .int 0])), (q8, .inl ((ka 0), 256, .inr (.inl (fun _ => 0)))), (q17, .inl ((ka 0), 256, .inr (.inl (fun _ => 0)))), (q26, .inl ((ka 2), 256, .inl (fun _ => 0))), (q34, .inl ((ka 1), 64, .inl (fun _ => 0))), (q43, .inl ((ka 5), 2048, .inl (fun _ => 0))), (q52, .inl ((ka 1), 2048, .inl (fun _ => 0))), (q61, .inl ((ka 0), 2048, .inr (.inl (fun _ => 0))))]) := hD
  refine lv_aload_n hx hb d_Mo_init_66 rfl (lv_at hl 0 rfl) ?_
  refine lv_bipush (v := 8) hx hb d_Mo_init_67 (by decide) ?_
  refine my_newa (ty := .long) (a0 := (8, .inr (.inl (fun _ => 0)))) hx hb (hts _ (List.mem_cons_of_mem _ mw_1_33)) rfl hK 0 (cA0 := ka 0) rfl hP hD hS hA (fun _ => rfl) (k := 8) (by decide) (by decide) (Nat.le_of_ble_eq_true rfl) (Nat.le_of_ble_eq_true rfl) d_Mo_init_69 (fun q69 H hP hD hS => ?_)
  have hP : va_P D classes ([(mo, .inr (5, [.ref q8, .ref q17, .ref q26, .int 0, .ref q34, .ref q43, .ref q52, .ref q61, .int 0, .null, .int 0, .null, .null, .null, .int 0])), (q8, .inl ((ka 0), 256, .inr (.inl (fun _ => 0)))), (q17, .inl ((ka 0), 256, .inr (.inl (fun _ => 0)))), (q26, .inl ((ka 2), 256, .inl (fun _ => 0))), (q34, .inl ((ka 1), 64, .inl (fun _ => 0))), (q43, .inl ((ka 5), 2048, .inl (fun _ => 0))), (q52, .inl ((ka 1), 2048, .inl (fun _ => 0))), (q61, .inl ((ka 0), 2048, .inr (.inl (fun _ => 0)))), (q69, .inl ((ka 0), 8, .inr (.inl (fun _ => 0))))]) H := hP
  have hD : va_D A ([(mo, .inr (5, [.ref q8, .ref q17, .ref q26, .int 0, .ref q34, .ref q43, .ref q52, .ref q61, .int 0, .null, .int 0, .null, .null, .null, .int 0])), (q8, .inl ((ka 0), 256, .inr (.inl (fun _ => 0)))), (q17, .inl ((ka 0), 256, .inr (.inl (fun _ => 0)))), (q26, .inl ((ka 2), 256, .inl (fun _ => 0))), (q34, .inl ((ka 1), 64, .inl (fun _ => 0))), (q43, .inl ((ka 5), 2048, .inl (fun _ => 0))), (q52, .inl ((ka 1), 2048, .inl (fun _ => 0))), (q61, .inl ((ka 0), 2048, .inr (.inl (fun _ => 0)))), (q69, .inl ((ka 0), 8, .inr (.inl (fun _ => 0))))]) := hD
  refine W.widen (k := 8) (n := 6984) (by omega) (by omega) ?_
  refine va_putF (D := D) (ci := 5) (v := .ref q69) (ty := .array .long) (C := "VersionedBlockModel") (T := T_Mo) (N := 15) hx hb hts (fun w h => List.mem_cons_of_mem _ (il_Mo w h)) t_Mo t_Mo_ok n_Mo hown hK hP hD hS 0 rfl rfl 9 (by decide) (hts _ (List.mem_cons_of_mem _ mw_2_154)) (fun _ h9 => h9) rfl hin rfl (by decide +kernel) rfl rfl (Nat.le_of_ble_eq_true rfl) d_Mo_init_71 (fun H locs hP hD hS => ?_)
  have hP : va_P D classes ([(mo, .inr (5, [.ref q8, .ref q17, .ref q26, .int 0, .ref q34, .ref q43, .ref q52, .ref q61, .int 0, .ref q69, .int 0, .null, .null, .null, .int 0])), (q8, .inl ((ka 0), 256, .inr (.inl (fun _ => 0)))), (q17, .inl ((ka 0), 256, .inr (.inl (fun _ => 0)))), (q26, .inl ((ka 2), 256, .inl (fun _ => 0))), (q34, .inl ((ka 1), 64, .inl (fun _ => 0))), (q43, .inl ((ka 5), 2048, .inl (fun _ => 0))), (q52, .inl ((ka 1), 2048, .inl (fun _ => 0))), (q61, .inl ((ka 0), 2048, .inr (.inl (fun _ => 0)))), (q69, .inl ((ka 0), 8, .inr (.inl (fun _ => 0))))]) H := hP
  have hD : va_D A ([(mo, .inr (5, [.ref q8, .ref q17, .ref q26, .int 0, .ref q34, .ref q43, .ref q52, .ref q61, .int 0, .ref q69, .int 0, .null, .null, .null, .int 0])), (q8, .inl ((ka 0), 256, .inr (.inl (fun _ => 0)))), (q17, .inl ((ka 0), 256, .inr (.inl (fun _ => 0)))), (q26, .inl ((ka 2), 256, .inl (fun _ => 0))), (q34, .inl ((ka 1), 64, .inl (fun _ => 0))), (q43, .inl ((ka 5), 2048, .inl (fun _ => 0))), (q52, .inl ((ka 1), 2048, .inl (fun _ => 0))), (q61, .inl ((ka 0), 2048, .inr (.inl (fun _ => 0)))), (q69, .inl ((ka 0), 8, .inr (.inl (fun _ => 0))))]) := hD
  refine lv_aload_n hx hb d_Mo_init_74 rfl (lv_at hl 0 rfl) ?_
  refine lv_bipush (v := 64) hx hb d_Mo_init_75 (by decide) ?_
  refine my_newa (ty := .boolean) (a0 := (64, .inl (fun _ => 0))) hx hb (hts _ (List.mem_cons_of_mem _ mw_1_221)) rfl hK 2 (cA0 := ka 2) rfl hP hD hS hA (fun _ => rfl) (k := 64) (by decide) (by decide) (Nat.le_of_ble_eq_true rfl) (Nat.le_of_ble_eq_true rfl) d_Mo_init_77 (fun q77 H hP hD hS => ?_)
  have hP : va_P D classes ([(mo, .inr (5, [.ref q8, .ref q17, .ref q26, .int 0, .ref q34, .ref q43, .ref q52, .ref q61, .int 0, .ref q69, .int 0, .null, .null, .null, .int 0])), (q8, .inl ((ka 0), 256, .inr (.inl (fun _ => 0)))), (q17, .inl ((ka 0), 256, .inr (.inl (fun _ => 0)))), (q26, .inl ((ka 2), 256, .inl (fun _ => 0))), (q34, .inl ((ka 1), 64, .inl (fun _ => 0))), (q43, .inl ((ka 5), 2048, .inl (fun _ => 0))), (q52, .inl ((ka 1), 2048, .inl (fun _ => 0))), (q61, .inl ((ka 0), 2048, .inr (.inl (fun _ => 0)))), (q69, .inl ((ka 0), 8, .inr (.inl (fun _ => 0)))), (q77, .inl ((ka 2), 64, .inl (fun _ => 0)))]) H := hP
  have hD : va_D A ([(mo, .inr (5, [.ref q8, .ref q17, .ref q26, .int 0, .ref q34, .ref q43, .ref q52, .ref q61, .int 0, .ref q69, .int 0, .null, .null, .null, .int 0])), (q8, .inl ((ka 0), 256, .inr (.inl (fun _ => 0)))), (q17, .inl ((ka 0), 256, .inr (.inl (fun _ => 0)))), (q26, .inl ((ka 2), 256, .inl (fun _ => 0))), (q34, .inl ((ka 1), 64, .inl (fun _ => 0))), (q43, .inl ((ka 5), 2048, .inl (fun _ => 0))), (q52, .inl ((ka 1), 2048, .inl (fun _ => 0))), (q61, .inl ((ka 0), 2048, .inr (.inl (fun _ => 0)))), (q69, .inl ((ka 0), 8, .inr (.inl (fun _ => 0)))), (q77, .inl ((ka 2), 64, .inl (fun _ => 0)))]) := hD
  refine W.widen (k := 9) (n := 7048) (by omega) (by omega) ?_
  refine va_putF (D := D) (ci := 5) (v := .ref q77) (ty := .array .boolean) (C := "VersionedBlockModel") (T := T_Mo) (N := 15) hx hb hts (fun w h => List.mem_cons_of_mem _ (il_Mo w h)) t_Mo t_Mo_ok n_Mo hown hK hP hD hS 0 rfl rfl 11 (by decide) (hts _ (List.mem_cons_of_mem _ mw_2_156)) (fun _ h9 => h9) rfl hin rfl (by decide +kernel) rfl rfl (Nat.le_of_ble_eq_true rfl) d_Mo_init_79 (fun H locs hP hD hS => ?_)
  have hP : va_P D classes ([(mo, .inr (5, [.ref q8, .ref q17, .ref q26, .int 0, .ref q34, .ref q43, .ref q52, .ref q61, .int 0, .ref q69, .int 0, .ref q77, .null, .null, .int 0])), (q8, .inl ((ka 0), 256, .inr (.inl (fun _ => 0)))), (q17, .inl ((ka 0), 256, .inr (.inl (fun _ => 0)))), (q26, .inl ((ka 2), 256, .inl (fun _ => 0))), (q34, .inl ((ka 1), 64, .inl (fun _ => 0))), (q43, .inl ((ka 5), 2048, .inl (fun _ => 0))), (q52, .inl ((ka 1), 2048, .inl (fun _ => 0))), (q61, .inl ((ka 0), 2048, .inr (.inl (fun _ => 0)))), (q69, .inl ((ka 0), 8, .inr (.inl (fun _ => 0)))), (q77, .inl ((ka 2), 64, .inl (fun _ => 0)))]) H := hP
  have hD : va_D A ([(mo, .inr (5, [.ref q8, .ref q17, .ref q26, .int 0, .ref q34, .ref q43, .ref q52, .ref q61, .int 0, .ref q69, .int 0, .ref q77, .null, .null, .int 0])), (q8, .inl ((ka 0), 256, .inr (.inl (fun _ => 0)))), (q17, .inl ((ka 0), 256, .inr (.inl (fun _ => 0)))), (q26, .inl ((ka 2), 256, .inl (fun _ => 0))), (q34, .inl ((ka 1), 64, .inl (fun _ => 0))), (q43, .inl ((ka 5), 2048, .inl (fun _ => 0))), (q52, .inl ((ka 1), 2048, .inl (fun _ => 0))), (q61, .inl ((ka 0), 2048, .inr (.inl (fun _ => 0)))), (q69, .inl ((ka 0), 8, .inr (.inl (fun _ => 0)))), (q77, .inl ((ka 2), 64, .inl (fun _ => 0)))]) := hD
  refine lv_aload_n hx hb d_Mo_init_82 rfl (lv_at hl 0 rfl) ?_
  refine lv_sipush (v := 256) hx hb d_Mo_init_83 (by decide) ?_
  refine my_newa (ty := .int) (a0 := (256, .inl (fun _ => 0))) hx hb (hts _ (List.mem_cons_of_mem _ mw_1_122)) rfl hK 1 (cA0 := ka 1) rfl hP hD hS hA (fun _ => rfl) (k := 256) (by decide) (by decide) (Nat.le_of_ble_eq_true rfl) (Nat.le_of_ble_eq_true rfl) d_Mo_init_86 (fun q86 H hP hD hS => ?_)
  have hP : va_P D classes ([(mo, .inr (5, [.ref q8, .ref q17, .ref q26, .int 0, .ref q34, .ref q43, .ref q52, .ref q61, .int 0, .ref q69, .int 0, .ref q77, .null, .null, .int 0])), (q8, .inl ((ka 0), 256, .inr (.inl (fun _ => 0)))), (q17, .inl ((ka 0), 256, .inr (.inl (fun _ => 0)))), (q26, .inl ((ka 2), 256, .inl (fun _ => 0))), (q34, .inl ((ka 1), 64, .inl (fun _ => 0))), (q43, .inl ((ka 5), 2048, .inl (fun _ => 0))), (q52, .inl ((ka 1), 2048, .inl (fun _ => 0))), (q61, .inl ((ka 0), 2048, .inr (.inl (fun _ => 0)))), (q69, .inl ((ka 0), 8, .inr (.inl (fun _ => 0)))), (q77, .inl ((ka 2), 64, .inl (fun _ => 0))), (q86, .inl ((ka 1), 256, .inl (fun _ => 0)))]) H := hP
  have hD : va_D A ([(mo, .inr (5, [.ref q8, .ref q17, .ref q26, .int 0, .ref q34, .ref q43, .ref q52, .ref q61, .int 0, .ref q69, .int 0, .ref q77, .null, .null, .int 0])), (q8, .inl ((ka 0), 256, .inr (.inl (fun _ => 0)))), (q17, .inl ((ka 0), 256, .inr (.inl (fun _ => 0)))), (q26, .inl ((ka 2), 256, .inl (fun _ => 0))), (q34, .inl ((ka 1), 64, .inl (fun _ => 0))), (q43, .inl ((ka 5), 2048, .inl (fun _ => 0))), (q52, .inl ((ka 1), 2048, .inl (fun _ => 0))), (q61, .inl ((ka 0), 2048, .inr (.inl (fun _ => 0)))), (q69, .inl ((ka 0), 8, .inr (.inl (fun _ => 0)))), (q77, .inl ((ka 2), 64, .inl (fun _ => 0))), (q86, .inl ((ka 1), 256, .inl (fun _ => 0)))]) := hD
  refine W.widen (k := 10) (n := 7304) (by omega) (by omega) ?_
  refine va_putF (D := D) (ci := 5) (v := .ref q86) (ty := .array .int) (C := "VersionedBlockModel") (T := T_Mo) (N := 15) hx hb hts (fun w h => List.mem_cons_of_mem _ (il_Mo w h)) t_Mo t_Mo_ok n_Mo hown hK hP hD hS 0 rfl rfl 12 (by decide) (hts _ (List.mem_cons_of_mem _ mw_2_157)) (fun _ h9 => h9) rfl hin rfl (by decide +kernel) rfl rfl (Nat.le_of_ble_eq_true rfl) d_Mo_init_88 (fun H locs hP hD hS => ?_)
  have hP : va_P D classes ([(mo, .inr (5, [.ref q8, .ref q17, .ref q26, .int 0, .ref q34, .ref q43, .ref q52, .ref q61, .int 0, .ref q69, .int 0, .ref q77, .ref q86, .null, .int 0])), (q8, .inl ((ka 0), 256, .inr (.inl (fun _ => 0)))), (q17, .inl ((ka 0), 256, .inr (.inl (fun _ => 0)))), (q26, .inl ((ka 2), 256, .inl (fun _ => 0))), (q34, .inl ((ka 1), 64, .inl (fun _ => 0))), (q43, .inl ((ka 5), 2048, .inl (fun _ => 0))), (q52, .inl ((ka 1), 2048, .inl (fun _ => 0))), (q61, .inl ((ka 0), 2048, .inr (.inl (fun _ => 0)))), (q69, .inl ((ka 0), 8, .inr (.inl (fun _ => 0)))), (q77, .inl ((ka 2), 64, .inl (fun _ => 0))), (q86, .inl ((ka 1), 256, .inl (fun _ => 0)))]) H := hP
  have hD : va_D A ([(mo, .inr (5, [.ref q8, .ref q17, .ref q26, .int 0, .ref q34, .ref q43, .ref q52, .ref q61, .int 0, .ref q69, .int 0, .ref q77, .ref q86, .null, .int 0])), (q8, .inl ((ka 0), 256, .inr (.inl (fun _ => 0)))), (q17, .inl ((ka 0), 256, .inr (.inl (fun _ => 0)))), (q26, .inl ((ka 2), 256, .inl (fun _ => 0))), (q34, .inl ((ka 1), 64, .inl (fun _ => 0))), (q43, .inl ((ka 5), 2048, .inl (fun _ => 0))), (q52, .inl ((ka 1), 2048, .inl (fun _ => 0))), (q61, .inl ((ka 0), 2048, .inr (.inl (fun _ => 0)))), (q69, .inl ((ka 0), 8, .inr (.inl (fun _ => 0)))), (q77, .inl ((ka 2), 64, .inl (fun _ => 0))), (q86, .inl ((ka 1), 256, .inl (fun _ => 0)))]) := hD
  refine lv_aload_n hx hb d_Mo_init_91 rfl (lv_at hl 0 rfl) ?_
  refine lv_bipush (v := 64) hx hb d_Mo_init_92 (by decide) ?_
  refine my_newa (ty := .long) (a0 := (64, .inr (.inl (fun _ => 0)))) hx hb (hts _ (List.mem_cons_of_mem _ mw_1_33)) rfl hK 0 (cA0 := ka 0) rfl hP hD hS hA (fun _ => rfl) (k := 64) (by decide) (by decide) (Nat.le_of_ble_eq_true rfl) (Nat.le_of_ble_eq_true rfl) d_Mo_init_94 (fun q94 H hP hD hS => ?_)
  have hP : va_P D classes ([(mo, .inr (5, [.ref q8, .ref q17, .ref q26, .int 0, .ref q34, .ref q43, .ref q52, .ref q61, .int 0, .ref q69, .int 0, .ref q77, .ref q86, .null, .int 0])), (q8, .inl ((ka 0), 256, .inr (.inl (fun _ => 0)))), (q17, .inl ((ka 0), 256, .inr (.inl (fun _ => 0)))), (q26, .inl ((ka 2), 256, .inl (fun _ => 0))), (q34, .inl ((ka 1), 64, .inl (fun _ => 0))), (q43, .inl ((ka 5), 2048, .inl (fun _ => 0))), (q52, .inl ((ka 1), 2048, .inl (fun _ => 0))), (q61, .inl ((ka 0), 2048, .inr (.inl (fun _ => 0)))), (q69, .inl ((ka 0), 8, .inr (.inl (fun _ => 0)))), (q77, .inl ((ka 2), 64, .inl (fun _ => 0))), (q86, .inl ((ka 1), 256, .inl (fun _ => 0))), (q94, .inl ((ka 0), 64, .inr (.inl (fun _ => 0))))]) H := hP
  have hD : va_D A ([(mo, .inr (5, [.ref q8, .ref q17, .ref q26, .int 0, .ref q34, .ref q43, .ref q52, .ref q61, .int 0, .ref q69, .int 0, .ref q77, .ref q86, .null, .int 0])), (q8, .inl ((ka 0), 256, .inr (.inl (fun _ => 0)))), (q17, .inl ((ka 0), 256, .inr (.inl (fun _ => 0)))), (q26, .inl ((ka 2), 256, .inl (fun _ => 0))), (q34, .inl ((ka 1), 64, .inl (fun _ => 0))), (q43, .inl ((ka 5), 2048, .inl (fun _ => 0))), (q52, .inl ((ka 1), 2048, .inl (fun _ => 0))), (q61, .inl ((ka 0), 2048, .inr (.inl (fun _ => 0)))), (q69, .inl ((ka 0), 8, .inr (.inl (fun _ => 0)))), (q77, .inl ((ka 2), 64, .inl (fun _ => 0))), (q86, .inl ((ka 1), 256, .inl (fun _ => 0))), (q94, .inl ((ka 0), 64, .inr (.inl (fun _ => 0))))]) := hD
  refine W.widen (k := 11) (n := 7368) (by omega) (by omega) ?_
  refine va_putF (D := D) (ci := 5) (v := .ref q94) (ty := .array .long) (C := "VersionedBlockModel") (T := T_Mo) (N := 15) hx hb hts (fun w h => List.mem_cons_of_mem _ (il_Mo w h)) t_Mo t_Mo_ok n_Mo hown hK hP hD hS 0 rfl rfl 13 (by decide) (hts _ (List.mem_cons_of_mem _ mw_2_158)) (fun _ h9 => h9) rfl hin rfl (by decide +kernel) rfl rfl (Nat.le_of_ble_eq_true rfl) d_Mo_init_96 (fun H locs hP hD hS => ?_)
  have hP : va_P D classes ([(mo, .inr (5, [.ref q8, .ref q17, .ref q26, .int 0, .ref q34, .ref q43, .ref q52, .ref q61, .int 0, .ref q69, .int 0, .ref q77, .ref q86, .ref q94, .int 0])), (q8, .inl ((ka 0), 256, .inr (.inl (fun _ => 0)))), (q17, .inl ((ka 0), 256, .inr (.inl (fun _ => 0)))), (q26, .inl ((ka 2), 256, .inl (fun _ => 0))), (q34, .inl ((ka 1), 64, .inl (fun _ => 0))), (q43, .inl ((ka 5), 2048, .inl (fun _ => 0))), (q52, .inl ((ka 1), 2048, .inl (fun _ => 0))), (q61, .inl ((ka 0), 2048, .inr (.inl (fun _ => 0)))), (q69, .inl ((ka 0), 8, .inr (.inl (fun _ => 0)))), (q77, .inl ((ka 2), 64, .inl (fun _ => 0))), (q86, .inl ((ka 1), 256, .inl (fun _ => 0))), (q94, .inl ((ka 0), 64, .inr (.inl (fun _ => 0))))]) H := hP
  have hD : va_D A ([(mo, .inr (5, [.ref q8, .ref q17, .ref q26, .int 0, .ref q34, .ref q43, .ref q52, .ref q61, .int 0, .ref q69, .int 0, .ref q77, .ref q86, .ref q94, .int 0])), (q8, .inl ((ka 0), 256, .inr (.inl (fun _ => 0)))), (q17, .inl ((ka 0), 256, .inr (.inl (fun _ => 0)))), (q26, .inl ((ka 2), 256, .inl (fun _ => 0))), (q34, .inl ((ka 1), 64, .inl (fun _ => 0))), (q43, .inl ((ka 5), 2048, .inl (fun _ => 0))), (q52, .inl ((ka 1), 2048, .inl (fun _ => 0))), (q61, .inl ((ka 0), 2048, .inr (.inl (fun _ => 0)))), (q69, .inl ((ka 0), 8, .inr (.inl (fun _ => 0)))), (q77, .inl ((ka 2), 64, .inl (fun _ => 0))), (q86, .inl ((ka 1), 256, .inl (fun _ => 0))), (q94, .inl ((ka 0), 64, .inr (.inl (fun _ => 0))))]) := hD
  have hP9 := hP.sub (ws' := [(mo, .inr (5, [.ref q8, .ref q17, .ref q26, .int (nI 0), .ref q34, .ref q43, .ref q52, .ref q61, .int (nI 0), .ref q69, .int 0, .ref q77, .ref q86, .ref q94, .int 0])), (q8, .inl ((ka 0), 256, .inr (.inl (fun _ => 0)))), (q17, .inl ((ka 0), 256, .inr (.inl (fun _ => 0)))), (q26, .inl ((ka 2), 256, .inl (fun _ => 0))), (q34, .inl ((ka 1), 64, .inl (fun _ => 0))), (q43, .inl ((ka 5), 2048, .inl (fun _ => 0))), (q52, .inl ((ka 1), 2048, .inl (fun _ => 0))), (q61, .inl ((ka 0), 2048, .inr (.inl (fun _ => 0)))), (q69, .inl ((ka 0), 8, .inr (.inl (fun _ => 0)))), (q77, .inl ((ka 2), 64, .inl (fun _ => 0))), (q86, .inl ((ka 1), 256, .inl (fun _ => 0))), (q94, .inl ((ka 0), 64, .inr (.inl (fun _ => 0))))]) [0, 1, 2, 3, 4, 5, 6, 7, 8, 9, 10, 11] rfl
  have hD9 := hD.sub (ws' := [(mo, .inr (5, [.ref q8, .ref q17, .ref q26, .int (nI 0), .ref q34, .ref q43, .ref q52, .ref q61, .int (nI 0), .ref q69, .int 0, .ref q77, .ref q86, .ref q94, .int 0])), (q8, .inl ((ka 0), 256, .inr (.inl (fun _ => 0)))), (q17, .inl ((ka 0), 256, .inr (.inl (fun _ => 0)))), (q26, .inl ((ka 2), 256, .inl (fun _ => 0))), (q34, .inl ((ka 1), 64, .inl (fun _ => 0))), (q43, .inl ((ka 5), 2048, .inl (fun _ => 0))), (q52, .inl ((ka 1), 2048, .inl (fun _ => 0))), (q61, .inl ((ka 0), 2048, .inr (.inl (fun _ => 0)))), (q69, .inl ((ka 0), 8, .inr (.inl (fun _ => 0)))), (q77, .inl ((ka 2), 64, .inl (fun _ => 0))), (q86, .inl ((ka 1), 256, .inl (fun _ => 0))), (q94, .inl ((ka 0), 64, .inr (.inl (fun _ => 0))))]) [0, 1, 2, 3, 4, 5, 6, 7, 8, 9, 10, 11] (by decide) rfl
  exact W.vret hx hb hr (fun t9 ht hW => ⟨⟨(), rfl, trivial, q8, q17, q26, q34, q43, q52, q61, q69, q77, q86, q94, trivial, by rw [ht]; exact hP9, hD9⟩, hS.F ht⟩) hS.2.2 d_Mo_init_99
