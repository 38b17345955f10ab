set_option maxHeartbeats 4000000 in
set_option maxRecDepth 100000 in
theorem c_Tr_has (l : Launch) (D : va_G) (ka : Nat → ClassId) (t ta tb tc : Nat) (n : Nat) (kn oc dn ld sr : Int32) (rs : Int64) (b : Int64) (hn : n ≤ 32) : Met l y_Tr_has w_Tr_has ({ frames := 0, cells := 0, slots := 0, locals := 0 }) (pR classes (tyS ka) D [.ref t, .long b] ([(t, .inr (1, [.ref ta, .ref tb, .ref tc, .int (nI n), .int kn, .int oc, .int dn, .int ld, .int sr, .long rs]))])) (vp_Si (fun r => r = (if 0 ≤ b.toInt ∧ b.toInt < n then 1 else 0))) 0 0 (fun _ => False) := by
  refine Met.ofW (cc := b_Tr_has) (maxL := 3) (ret := (some .boolean)) (by decide) rfl ?_
  intro pP eE sS mM args below meth cC s1 B hml hv
  obtain ⟨rfl, hP, hK, hN⟩ := hv
  have hx := B.exec
  have hb := B.bytes
  have hr := B.returns
  have hts := atoms_spec (ws := w_Tr_has) B.pre
  have hown : sS.vm.findClass "VersionedBlock$Transaction" = some mM.cls := findClass_of_methodNamed B.named
  have hlocks := B.notSynchronized
  have hl := lv_entry ([.ref t, .long b]) (n := 3) (Nat.le_of_ble_eq_true rfl)
  rw [lg_entry_eq]
  generalize (lg_sl ([.ref t, .long b]) ++ List.replicate (3 - (lg_sl ([.ref t, .long b])).length) Slot.unset).toArray = ls at hl ⊢
  have hl : lv_has ls 3 [(0, .ref t), (1, .long b)] := hl
  refine lv_lload_n hx hb d_Tr_has_0 rfl (lv_at hl 1 rfl) ?_
  refine lv_lconst (v := 0) hx hb d_Tr_has_1 (by decide) ?_
  refine W.lcmp hx hb d_Tr_has_2 ?_
  refine lv_if_lt (tgt := 28) hx hb d_Tr_has_3 (by decide) (fun c_3 => ?_) (fun c_3 => ?_)
  · refine lv_iconst (v := 0) hx hb d_Tr_has_28 (by decide) ?_
    exact W.zret (v := 0) hx hb hr rfl (fun t9 ht hW => ⟨0, rfl, (has_1 c_3), ht⟩) (fun _ h => by cases h) d_Tr_has_29
  · refine lv_lload_n hx hb d_Tr_has_6 rfl (lv_at hl 1 rfl) ?_
    refine lv_aload_n hx hb d_Tr_has_7 rfl (lv_at hl 0 rfl) ?_
    refine va_get (D := D) (ci := 1) (v := .int (nI n)) (C := "VersionedBlock$Transaction") (T := T_Tr) (N := 10) hx hb hts (fun w h => List.mem_cons_of_mem _ (il_Tr w h)) hown hK hP 0 rfl rfl 3 (by decide) (hts _ (List.mem_cons_of_mem _ mw_1_94)) (fun _ h9 => h9) rfl d_Tr_has_8 ?_
    refine lv_i2l (v := lN n) hx hb d_Tr_has_11 (nI_l (by omega)) ?_
    refine W.lcmp hx hb d_Tr_has_12 ?_
    refine lv_if_ge (tgt := 28) hx hb d_Tr_has_13 (by decide) (fun c_13 => ?_) (fun c_13 => ?_)
    · refine lv_iconst (v := 0) hx hb d_Tr_has_28 (by decide) ?_
      exact W.zret (v := 0) hx hb hr rfl (fun t9 ht hW => ⟨0, rfl, (has_2 hn c_13), ht⟩) (fun _ h => by cases h) d_Tr_has_29
    · refine lv_lload_n hx hb d_Tr_has_16 rfl (lv_at hl 1 rfl) ?_
      refine lv_ldc2 (own := "VersionedBlock$Transaction") (index := 30) (v := 32) hx hb hown (hts _ (List.mem_cons_of_mem _ mw_2_37)) d_Tr_has_17 ?_
      refine W.lcmp hx hb d_Tr_has_20 ?_
      refine lv_if_ge (tgt := 28) hx hb d_Tr_has_21 (by decide) (fun c_21 => ?_) (fun c_21 => ?_)
      · refine lv_iconst (v := 0) hx hb d_Tr_has_28 (by decide) ?_
        exact W.zret (v := 0) hx hb hr rfl (fun t9 ht hW => ⟨0, rfl, (has_3 hn c_21), ht⟩) (fun _ h => by cases h) d_Tr_has_29
      · refine lv_iconst (v := 1) hx hb d_Tr_has_24 (by decide) ?_
        refine lv_goto (tgt := 29) hx hb d_Tr_has_25 (by decide) ?_
        exact W.zret (v := 1) hx hb hr rfl (fun t9 ht hW => ⟨1, rfl, (has_4 hn c_3 c_13), ht⟩) (fun _ h => by cases h) d_Tr_has_29
set_option maxHeartbeats 4000000 in
set_option maxRecDepth 100000 in
theorem c_Tr_operationAt (l : Launch) (D : va_G) (ka : Nat → ClassId) (t ta tb tc : Nat) (n j : Nat) (kn oc dn ld sr : Int32) (rs : Int64) (ops : Nat → Int32) (hn : n ≤ 32) (hj : j < n) : Met l y_Tr_operationAt w_Tr_operationAt ({ frames := 1, cells := 0, slots := 0, locals := 22 }) (pR classes (tyS ka) D [.ref t, .int (nI j)] ([(t, .inr (1, [.ref ta, .ref tb, .ref tc, .int (nI n), .int kn, .int oc, .int dn, .int ld, .int sr, .long rs])), (ta, .inl ((ka 1), 32, .inl ops))])) (vp_Si (fun r => r = (ops j))) 0 0 (fun _ => False) := by
  refine Met.ofW (cc := b_Tr_operationAt) (maxL := 2) (ret := (some .int)) (by decide) rfl ?_
  intro pP eE sS mM args below meth cC s1 B hml hv
  obtain ⟨rfl, hP, hK, hN⟩ := hv
  have hx := B.exec
  have hb := B.bytes
  have hr := B.returns
  have hts := atoms_spec (ws := w_Tr_operationAt) B.pre
  have hown : sS.vm.findClass "VersionedBlock$Transaction" = some mM.cls := findClass_of_methodNamed B.named
  have hlocks := B.notSynchronized
  have hl := lv_entry ([.ref t, .int (nI j)]) (n := 2) (Nat.le_of_ble_eq_true rfl)
  rw [lg_entry_eq]
  generalize (lg_sl ([.ref t, .int (nI j)]) ++ List.replicate (2 - (lg_sl ([.ref t, .int (nI j)])).length) Slot.unset).toArray = ls at hl ⊢
  have hl : lv_has ls 2 [(0, .ref t), (1, .int (nI j))] := hl
  refine lv_aload_n hx hb d_Tr_operationAt_0 rfl (lv_at hl 0 rfl) ?_
  refine lv_iload_n hx hb d_Tr_operationAt_1 rfl (lv_at hl 1 rfl) ?_
  refine lv_i2l (v := lN j) hx hb d_Tr_operationAt_2 (nI_l (by omega)) ?_
  have hPc := hP.sub (ws' := [(t, .inr (1, [.ref ta, .ref tb, .ref tc, .int (nI n), .int kn, .int oc, .int dn, .int ld, .int sr, .long rs]))]) [0] rfl
  refine vp_callSi (run_of (va_runV (As := [.long (lN j)]) (rest := []) ⟨hx, hb, hml, hown, hts⟩ (c_Tr_has l D ka t ta tb tc n kn oc dn ld sr rs (lN j) hn) ⟨callB_of 1 hts (gd_tb mw_2_36) rfl rfl rfl (hts _ (List.mem_cons_of_mem _ mw_1_5)) (hts _ (List.mem_cons_of_mem _ mw_2_46)) (by decide +kernel) ⟨Nat.le_of_ble_eq_true rfl, Nat.le_of_ble_eq_true rfl⟩, (hts _ (List.mem_cons_of_mem _ mw_2_34)), (hts _ (List.mem_cons_of_mem _ mw_2_35))⟩ ⟨pR_blind, va_recv hK hPc (ci := 1) (q0 := 0) rfl rfl, pR_pre hK hN hPc⟩ rfl rfl hl.1 rfl (lv_room (Nat.le_of_ble_eq_true rfl)) d_Tr_operationAt_3 ⟨Nat.le_of_ble_eq_true rfl, Nat.le_of_ble_eq_true rfl⟩)) (fun r_3 hr_3 => ?_)
  refine lv_if_eq (tgt := 18) hx hb d_Tr_operationAt_6 (by decide) (fun c_6 => absurd c_6 (by rw [hr_3, lN_toInt (by omega), if_pos (by omega)]; decide)) (fun c_6 => ?_)
  refine lv_aload_n hx hb d_Tr_operationAt_9 rfl (lv_at hl 0 rfl) ?_
  refine va_get (D := D) (ci := 1) (v := .ref ta) (C := "VersionedBlock$Transaction") (T := T_Tr) (N := 10) hx hb hts (fun w h => List.mem_cons_of_mem _ (il_Tr w h)) hown hK hP 0 rfl rfl 0 (by decide) (hts _ (List.mem_cons_of_mem _ mw_1_91)) (fun _ h9 => h9) rfl d_Tr_operationAt_10 ?_
  refine lv_iload_n hx hb d_Tr_operationAt_13 rfl (lv_at hl 1 rfl) ?_
  refine my_iald hx hb hK hP 1 1 rfl rfl (k := j) (by omega) (Nat.le_of_ble_eq_true rfl) d_Tr_operationAt_14 ?_
  refine lv_goto (tgt := 19) hx hb d_Tr_operationAt_15 (by decide) ?_
  exact W.iret (v := (ops j)) hx hb hr (fun t9 ht hW => ⟨(ops j), rfl, rfl, ht⟩) (fun _ h => by cases h) d_Tr_operationAt_19
set_option maxHeartbeats 4000000 in
set_option maxRecDepth 100000 in
theorem c_Tr_firstAt (l : Launch) (D : va_G) (ka : Nat → ClassId) (t ta tb tc : Nat) (n j : Nat) (kn oc dn ld sr : Int32) (rs : Int64) (fs : Nat → Int32) (hn : n ≤ 32) (hj : j < n) : Met l y_Tr_firstAt w_Tr_firstAt ({ frames := 1, cells := 0, slots := 0, locals := 22 }) (pR classes (tyS ka) D [.ref t, .int (nI j)] ([(t, .inr (1, [.ref ta, .ref tb, .ref tc, .int (nI n), .int kn, .int oc, .int dn, .int ld, .int sr, .long rs])), (tb, .inl ((ka 1), 32, .inl fs))])) (vp_Si (fun r => r = (fs j))) 0 0 (fun _ => False) := by
  refine Met.ofW (cc := b_Tr_firstAt) (maxL := 2) (ret := (some .int)) (by decide) rfl ?_
  intro pP eE sS mM args below meth cC s1 B hml hv
  obtain ⟨rfl, hP, hK, hN⟩ := hv
  have hx := B.exec
  have hb := B.bytes
  have hr := B.returns
  have hts := atoms_spec (ws := w_Tr_firstAt) B.pre
  have hown : sS.vm.findClass "VersionedBlock$Transaction" = some mM.cls := findClass_of_methodNamed B.named
  have hlocks := B.notSynchronized
  have hl := lv_entry ([.ref t, .int (nI j)]) (n := 2) (Nat.le_of_ble_eq_true rfl)
  rw [lg_entry_eq]
  generalize (lg_sl ([.ref t, .int (nI j)]) ++ List.replicate (2 - (lg_sl ([.ref t, .int (nI j)])).length) Slot.unset).toArray = ls at hl ⊢
  have hl : lv_has ls 2 [(0, .ref t), (1, .int (nI j))] := hl
  refine lv_aload_n hx hb d_Tr_firstAt_0 rfl (lv_at hl 0 rfl) ?_
  refine lv_iload_n hx hb d_Tr_firstAt_1 rfl (lv_at hl 1 rfl) ?_
  refine lv_i2l (v := lN j) hx hb d_Tr_firstAt_2 (nI_l (by omega)) ?_
  have hPc := hP.sub (ws' := [(t, .inr (1, [.ref ta, .ref tb, .ref tc, .int (nI n), .int kn, .int oc, .int dn, .int ld, .int sr, .long rs]))]) [0] rfl
  refine vp_callSi (run_of (va_runV (As := [.long (lN j)]) (rest := []) ⟨hx, hb, hml, hown, hts⟩ (c_Tr_has l D ka t ta tb tc n kn oc dn ld sr rs (lN j) hn) ⟨callB_of 1 hts (gd_tb mw_2_36) rfl rfl rfl (hts _ (List.mem_cons_of_mem _ mw_1_5)) (hts _ (List.mem_cons_of_mem _ mw_2_46)) (by decide +kernel) ⟨Nat.le_of_ble_eq_true rfl, Nat.le_of_ble_eq_true rfl⟩, (hts _ (List.mem_cons_of_mem _ mw_2_34)), (hts _ (List.mem_cons_of_mem _ mw_2_35))⟩ ⟨pR_blind, va_recv hK hPc (ci := 1) (q0 := 0) rfl rfl, pR_pre hK hN hPc⟩ rfl rfl hl.1 rfl (lv_room (Nat.le_of_ble_eq_true rfl)) d_Tr_firstAt_3 ⟨Nat.le_of_ble_eq_true rfl, Nat.le_of_ble_eq_true rfl⟩)) (fun r_3 hr_3 => ?_)
  refine lv_if_eq (tgt := 18) hx hb d_Tr_firstAt_6 (by decide) (fun c_6 => absurd c_6 (by rw [hr_3, lN_toInt (by omega), if_pos (by omega)]; decide)) (fun c_6 => ?_)
  refine lv_aload_n hx hb d_Tr_firstAt_9 rfl (lv_at hl 0 rfl) ?_
  refine va_get (D := D) (ci := 1) (v := .ref tb) (C := "VersionedBlock$Transaction") (T := T_Tr) (N := 10) hx hb hts (fun w h => List.mem_cons_of_mem _ (il_Tr w h)) hown hK hP 0 rfl rfl 1 (by decide) (hts _ (List.mem_cons_of_mem _ mw_1_92)) (fun _ h9 => h9) rfl d_Tr_firstAt_10 ?_
  refine lv_iload_n hx hb d_Tr_firstAt_13 rfl (lv_at hl 1 rfl) ?_
  refine my_iald hx hb hK hP 1 1 rfl rfl (k := j) (by omega) (Nat.le_of_ble_eq_true rfl) d_Tr_firstAt_14 ?_
  refine lv_goto (tgt := 19) hx hb d_Tr_firstAt_15 (by decide) ?_
  exact W.iret (v := (fs j)) hx hb hr (fun t9 ht hW => ⟨(fs j), rfl, rfl, ht⟩) (fun _ h => by cases h) d_Tr_firstAt_19
set_option maxHeartbeats 4000000 in
set_option maxRecDepth 100000 in
theorem c_Tr_secondAt (l : Launch) (D : va_G) (ka : Nat → ClassId) (t ta tb tc : Nat) (n j : Nat) (kn oc dn ld sr : Int32) (rs : Int64) (ss : Nat → Int64) (hn : n ≤ 32) (hj : j < n) : Met l y_Tr_secondAt w_Tr_secondAt ({ frames := 1, cells := 0, slots := 0, locals := 22 }) (pR classes (tyS ka) D [.ref t, .int (nI j)] ([(t, .inr (1, [.ref ta, .ref tb, .ref tc, .int (nI n), .int kn, .int oc, .int dn, .int ld, .int sr, .long rs])), (tc, .inl ((ka 0), 32, .inr (.inl ss)))])) (vp_Sl (fun r => r = (ss j))) 0 0 (fun _ => False) := by
  refine Met.ofW (cc := b_Tr_secondAt) (maxL := 2) (ret := (some .long)) (by decide) rfl ?_
  intro pP eE sS mM args below meth cC s1 B hml hv
  obtain ⟨rfl, hP, hK, hN⟩ := hv
  have hx := B.exec
  have hb := B.bytes
  have hr := B.returns
  have hts := atoms_spec (ws := w_Tr_secondAt) B.pre
  have hown : sS.vm.findClass "VersionedBlock$Transaction" = some mM.cls := findClass_of_methodNamed B.named
  have hlocks := B.notSynchronized
  have hl := lv_entry ([.ref t, .int (nI j)]) (n := 2) (Nat.le_of_ble_eq_true rfl)
  rw [lg_entry_eq]
  generalize (lg_sl ([.ref t, .int (nI j)]) ++ List.replicate (2 - (lg_sl ([.ref t, .int (nI j)])).length) Slot.unset).toArray = ls at hl ⊢
  have hl : lv_has ls 2 [(0, .ref t), (1, .int (nI j))] := hl
  refine lv_aload_n hx hb d_Tr_secondAt_0 rfl (lv_at hl 0 rfl) ?_
  refine lv_iload_n hx hb d_Tr_secondAt_1 rfl (lv_at hl 1 rfl) ?_
  refine lv_i2l (v := lN j) hx hb d_Tr_secondAt_2 (nI_l (by omega)) ?_
  have hPc := hP.sub (ws' := [(t, .inr (1, [.ref ta, .ref tb, .ref tc, .int (nI n), .int kn, .int oc, .int dn, .int ld, .int sr, .long rs]))]) [0] rfl
  refine vp_callSi (run_of (va_runV (As := [.long (lN j)]) (rest := []) ⟨hx, hb, hml, hown, hts⟩ (c_Tr_has l D ka t ta tb tc n kn oc dn ld sr rs (lN j) hn) ⟨callB_of 1 hts (gd_tb mw_2_36) rfl rfl rfl (hts _ (List.mem_cons_of_mem _ mw_1_5)) (hts _ (List.mem_cons_of_mem _ mw_2_46)) (by decide +kernel) ⟨Nat.le_of_ble_eq_true rfl, Nat.le_of_ble_eq_true rfl⟩, (hts _ (List.mem_cons_of_mem _ mw_2_34)), (hts _ (List.mem_cons_of_mem _ mw_2_35))⟩ ⟨pR_blind, va_recv hK hPc (ci := 1) (q0 := 0) rfl rfl, pR_pre hK hN hPc⟩ rfl rfl hl.1 rfl (lv_room (Nat.le_of_ble_eq_true rfl)) d_Tr_secondAt_3 ⟨Nat.le_of_ble_eq_true rfl, Nat.le_of_ble_eq_true rfl⟩)) (fun r_3 hr_3 => ?_)
  refine lv_if_eq (tgt := 18) hx hb d_Tr_secondAt_6 (by decide) (fun c_6 => absurd c_6 (by rw [hr_3, lN_toInt (by omega), if_pos (by omega)]; decide)) (fun c_6 => ?_)
  refine lv_aload_n hx hb d_Tr_secondAt_9 rfl (lv_at hl 0 rfl) ?_
  refine va_get (D := D) (ci := 1) (v := .ref tc) (C := "VersionedBlock$Transaction") (T := T_Tr) (N := 10) hx hb hts (fun w h => List.mem_cons_of_mem _ (il_Tr w h)) hown hK hP 0 rfl rfl 2 (by decide) (hts _ (List.mem_cons_of_mem _ mw_1_93)) (fun _ h9 => h9) rfl d_Tr_secondAt_10 ?_
  refine lv_iload_n hx hb d_Tr_secondAt_13 rfl (lv_at hl 1 rfl) ?_
  refine my_lald hx hb hK hP 1 0 rfl rfl (k := j) (by omega) (Nat.le_of_ble_eq_true rfl) d_Tr_secondAt_14 ?_
  refine lv_goto (tgt := 19) hx hb d_Tr_secondAt_15 (by decide) ?_
  exact W.lret (v := (ss j)) hx hb hr (fun t9 ht hW => ⟨(ss j), rfl, rfl, ht⟩) (fun _ h => by cases h) d_Tr_secondAt_19
set_option maxHeartbeats 4000000 in
set_option maxRecDepth 100000 in
theorem c_Tr_clear (l : Launch) (D : va_G) (ka : Nat → ClassId) (sz : Nat) (t ta tb tc : Nat) (ln : Int32) (kn oc dn ld sr : Int32) (rs : Int64)  : Met l y_Tr_clear w_Tr_clear ({ frames := 0, cells := 0, slots := 0, locals := 0 }) (pW classes (tyS ka) D [.ref t] ([(t, .inr (1, [.ref ta, .ref tb, .ref tc, .int ln, .int kn, .int oc, .int dn, .int ld, .int sr, .long rs]))]) sz) (va_Qv (fun _ : Unit => True) (fun (_ : Unit) t9 => (True) ∧ va_P D classes ([(t, .inr (1, [.ref ta, .ref tb, .ref tc, .int (nI 0), .int 0, .int oc, .int dn, .int ld, .int sr, .long rs]))]) t9.heap ∧ va_D (va_A ([(t, .inr (1, [.ref ta, .ref tb, .ref tc, .int ln, .int kn, .int oc, .int dn, .int ld, .int sr, .long rs]))]) sz) ([(t, .inr (1, [.ref ta, .ref tb, .ref tc, .int (nI 0), .int 0, .int oc, .int dn, .int ld, .int sr, .long rs]))])) (va_A ([(t, .inr (1, [.ref ta, .ref tb, .ref tc, .int ln, .int kn, .int oc, .int dn, .int ld, .int sr, .long rs]))]) sz)) 0 0 (va_A ([(t, .inr (1, [.ref ta, .ref tb, .ref tc, .int ln, .int kn, .int oc, .int dn, .int ld, .int sr, .long rs]))]) sz) := by
  refine Met.ofW (cc := b_Tr_clear) (maxL := 1) (ret := none) (by decide) rfl ?_
  intro pP eE sS mM args below meth cC s1 B hml hv
  obtain ⟨rfl, hsz, hP, hK, hN, hD0⟩ := hv
  have hx := B.exec
  have hb := B.bytes
  have hr := B.returns
  have hts := atoms_spec (ws := w_Tr_clear) B.pre
  have hown : sS.vm.findClass "VersionedBlock$Transaction" = some mM.cls := findClass_of_methodNamed B.named
  have hlocks := B.notSynchronized
  subst hsz
  have hD := hD0.self (sz := sS.heap.size)
  generalize hAe : va_A ([(t, .inr (1, [.ref ta, .ref tb, .ref tc, .int ln, .int kn, .int oc, .int dn, .int ld, .int sr, .long rs]))]) sS.heap.size = A at hD ⊢
  have hA : ∀ q : Nat, sS.heap.size ≤ q → A q := fun q h => by rw [← hAe]; exact Or.inr h
  have hS : va_S A sS.heap sS.heap [] := va_S.rf
  have hl := lv_entry ([.ref t]) (n := 1) (Nat.le_of_ble_eq_true rfl)
  rw [lg_entry_eq]
  generalize (lg_sl ([.ref t]) ++ List.replicate (1 - (lg_sl ([.ref t])).length) Slot.unset).toArray = ls at hl ⊢
  have hl : lv_has ls 1 [(0, .ref t)] := hl
  refine lv_aload_n hx hb d_Tr_clear_0 rfl (lv_at hl 0 rfl) ?_
  refine lv_iconst (v := (nI 0)) hx hb d_Tr_clear_1 (by decide) ?_
  refine va_put (D := D) (ci := 1) (v := .int (nI 0)) (ty := .int) (C := "VersionedBlock$Transaction") (T := T_Tr) (N := 10) hx hb hts (fun w h => List.mem_cons_of_mem _ (il_Tr w h)) t_Tr t_Tr_ok n_Tr hown hK hP hD hS 0 rfl rfl 3 (by decide) (hts _ (List.mem_cons_of_mem _ mw_1_94)) (fun _ h9 => h9) rfl (by decide +kernel) rfl rfl (Nat.le_of_ble_eq_true rfl) d_Tr_clear_2 (fun H locs hP hD hS => ?_)
  have hP : va_P D classes ([(t, .inr (1, [.ref ta, .ref tb, .ref tc, .int (nI 0), .int kn, .int oc, .int dn, .int ld, .int sr, .long rs]))]) H := hP
  have hD : va_D A ([(t, .inr (1, [.ref ta, .ref tb, .ref tc, .int (nI 0), .int kn, .int oc, .int dn, .int ld, .int sr, .long rs]))]) := hD
  refine lv_aload_n hx hb d_Tr_clear_5 rfl (lv_at hl 0 rfl) ?_
  refine lv_iconst (v := 0) hx hb d_Tr_clear_6 (by decide) ?_
  refine va_put (D := D) (ci := 1) (v := .int 0) (ty := .boolean) (C := "VersionedBlock$Transaction") (T := T_Tr) (N := 10) hx hb hts (fun w h => List.mem_cons_of_mem _ (il_Tr w h)) t_Tr t_Tr_ok n_Tr hown hK hP hD hS 0 rfl rfl 4 (by decide) (hts _ (List.mem_cons_of_mem _ mw_1_95)) (fun _ h9 => h9) rfl (by decide +kernel) rfl rfl (Nat.le_of_ble_eq_true rfl) d_Tr_clear_7 (fun H locs hP hD hS => ?_)
  have hP : va_P D classes ([(t, .inr (1, [.ref ta, .ref tb, .ref tc, .int (nI 0), .int 0, .int oc, .int dn, .int ld, .int sr, .long rs]))]) H := hP
  have hD : va_D A ([(t, .inr (1, [.ref ta, .ref tb, .ref tc, .int (nI 0), .int 0, .int oc, .int dn, .int ld, .int sr, .long rs]))]) := hD
  have hP9 := hP.sub (ws' := [(t, .inr (1, [.ref ta, .ref tb, .ref tc, .int (nI 0), .int 0, .int oc, .int dn, .int ld, .int sr, .long rs]))]) [0] rfl
  have hD9 := hD.sub (ws' := [(t, .inr (1, [.ref ta, .ref tb, .ref tc, .int (nI 0), .int 0, .int oc, .int dn, .int ld, .int sr, .long rs]))]) [0] (by decide) rfl
  exact W.vret hx hb hr (fun t9 ht hW => ⟨⟨(), rfl, trivial, trivial, by rw [ht]; exact hP9, hD9⟩, hS.F ht⟩) hS.2.2 d_Tr_clear_10
set_option maxHeartbeats 4000000 in
set_option maxRecDepth 100000 in
theorem c_Tr_append_full (l : Launch) (D : va_G) (ka : Nat → ClassId) (t ta tb tc : Nat) (kn oc dn ld sr : Int32) (rs : Int64) (op a : Int32) (b : Int64)  : Met l y_Tr_append w_Tr_append ({ frames := 0, cells := 0, slots := 0, locals := 0 }) (pR classes (tyS ka) D [.ref t, .int op, .int a, .long b] ([(t, .inr (1, [.ref ta, .ref tb, .ref tc, .int (nI 32), .int kn, .int oc, .int dn, .int ld, .int sr, .long rs]))])) (vp_Si (fun r => r = (-3))) 0 0 (fun _ => False) := by
  refine Met.ofW (cc := b_Tr_append) (maxL := 5) (ret := (some .int)) (by decide) rfl ?_
  intro pP eE sS mM args below meth cC s1 B hml hv
  obtain ⟨rfl, hP, hK, hN⟩ := hv
  have hx := B.exec
  have hb := B.bytes
  have hr := B.returns
  have hts := atoms_spec (ws := w_Tr_append) B.pre
  have hown : sS.vm.findClass "VersionedBlock$Transaction" = some mM.cls := findClass_of_methodNamed B.named
  have hlocks := B.notSynchronized
  have hl := lv_entry ([.ref t, .int op, .int a, .long b]) (n := 5) (Nat.le_of_ble_eq_true rfl)
  rw [lg_entry_eq]
  generalize (lg_sl ([.ref t, .int op, .int a, .long b]) ++ List.replicate (5 - (lg_sl ([.ref t, .int op, .int a, .long b])).length) Slot.unset).toArray = ls at hl ⊢
  have hl : lv_has ls 5 [(0, .ref t), (1, .int op), (2, .int a), (3, .long b)] := hl
  refine lv_aload_n hx hb d_Tr_append_0 rfl (lv_at hl 0 rfl) ?_
  refine va_get (D := D) (ci := 1) (v := .int (nI 32)) (C := "VersionedBlock$Transaction") (T := T_Tr) (N := 10) hx hb hts (fun w h => List.mem_cons_of_mem _ (il_Tr w h)) hown hK hP 0 rfl rfl 3 (by decide) (hts _ (List.mem_cons_of_mem _ mw_1_94)) (fun _ h9 => h9) rfl d_Tr_append_1 ?_
  refine lv_bipush (v := (nI 32)) hx hb d_Tr_append_4 (by decide) ?_
  refine lv_icmp_lt (tgt := 12) hx hb d_Tr_append_6 (by decide) (fun c_6 => absurd c_6 (nI_nlt (by decide) (by decide))) (fun c_6 => ?_)
  refine lv_bipush (v := (-3)) hx hb d_Tr_append_9 (by decide) ?_
  exact W.iret (v := (-3)) hx hb hr (fun t9 ht hW => ⟨(-3), rfl, rfl, ht⟩) (fun _ h => by cases h) d_Tr_append_11
set_option maxHeartbeats 4000000 in
set_option maxRecDepth 100000 in
theorem c_Tr_append (l : Launch) (D : va_G) (ka : Nat → ClassId) (sz : Nat) (t ta tb tc : Nat) (n : Nat) (kn oc dn ld sr : Int32) (rs : Int64) (ops fs : Nat → Int32) (ss : Nat → Int64) (op a : Int32) (b : Int64) (hn : n < 32) : Met l y_Tr_append w_Tr_append ({ frames := 0, cells := 0, slots := 0, locals := 0 }) (pW classes (tyS ka) D [.ref t, .int op, .int a, .long b] ([(t, .inr (1, [.ref ta, .ref tb, .ref tc, .int (nI n), .int kn, .int oc, .int dn, .int ld, .int sr, .long rs])), (ta, .inl ((ka 1), 32, .inl ops)), (tb, .inl ((ka 1), 32, .inl fs)), (tc, .inl ((ka 0), 32, .inr (.inl ss)))]) sz) (va_Qi (fun (r : Int32) (_ : Unit) => r = (nI (n + 1))) (fun (_ : Unit) t9 => (True) ∧ va_P D classes ([(t, .inr (1, [.ref ta, .ref tb, .ref tc, .int (nI (n + 1)), .int 0, .int oc, .int dn, .int ld, .int sr, .long rs])), (ta, .inl ((ka 1), 32, .inl (upd ops n op))), (tb, .inl ((ka 1), 32, .inl (upd fs n a))), (tc, .inl ((ka 0), 32, .inr (.inl (vp_updL ss n b))))]) t9.heap ∧ va_D (va_A ([(t, .inr (1, [.ref ta, .ref tb, .ref tc, .int (nI n), .int kn, .int oc, .int dn, .int ld, .int sr, .long rs])), (ta, .inl ((ka 1), 32, .inl ops)), (tb, .inl ((ka 1), 32, .inl fs)), (tc, .inl ((ka 0), 32, .inr (.inl ss)))]) sz) ([(t, .inr (1, [.ref ta, .ref tb, .ref tc, .int (nI (n + 1)), .int 0, .int oc, .int dn, .int ld, .int sr, .long rs])), (ta, .inl ((ka 1), 32, .inl (upd ops n op))), (tb, .inl ((ka 1), 32, .inl (upd fs n a))), (tc, .inl ((ka 0), 32, .inr (.inl (vp_updL ss n b))))])) (va_A ([(t, .inr (1, [.ref ta, .ref tb, .ref tc, .int (nI n), .int kn, .int oc, .int dn, .int ld, .int sr, .long rs])), (ta, .inl ((ka 1), 32, .inl ops)), (tb, .inl ((ka 1), 32, .inl fs)), (tc, .inl ((ka 0), 32, .inr (.inl ss)))]) sz)) 0 0 (va_A ([(t, .inr (1, [.ref ta, .ref tb, .ref tc, .int (nI n), .int kn, .int oc, .int dn, .int ld, .int sr, .long rs])), (ta, .inl ((ka 1), 32, .inl ops)), (tb, .inl ((ka 1), 32, .inl fs)), (tc, .inl ((ka 0), 32, .inr (.inl ss)))]) sz) := by
  refine Met.ofW (cc := b_Tr_append) (maxL := 5) (ret := (some .int)) (by decide) rfl ?_
  intro pP eE sS mM args below meth cC s1 B hml hv
  obtain ⟨rfl, hsz, hP, hK, hN, hD0⟩ := hv
  have hx := B.exec
  have hb := B.bytes
  have hr := B.returns
  have hts := atoms_spec (ws := w_Tr_append) B.pre
  have hown : sS.vm.findClass "VersionedBlock$Transaction" = some mM.cls := findClass_of_methodNamed B.named
  have hlocks := B.notSynchronized
  subst hsz
  have hD := hD0.self (sz := sS.heap.size)
  generalize hAe : va_A ([(t, .inr (1, [.ref ta, .ref tb, .ref tc, .int (nI n), .int kn, .int oc, .int dn, .int ld, .int sr, .long rs])), (ta, .inl ((ka 1), 32, .inl ops)), (tb, .inl ((ka 1), 32, .inl fs)), (tc, .inl ((ka 0), 32, .inr (.inl ss)))]) sS.heap.size = A at hD ⊢
  have hA : ∀ q : Nat, sS.heap.size ≤ q → A q := fun q h => by rw [← hAe]; exact Or.inr h
  have hS : va_S A sS.heap sS.heap [] := va_S.rf
  have hl := lv_entry ([.ref t, .int op, .int a, .long b]) (n := 5) (Nat.le_of_ble_eq_true rfl)
  rw [lg_entry_eq]
  generalize (lg_sl ([.ref t, .int op, .int a, .long b]) ++ List.replicate (5 - (lg_sl ([.ref t, .int op, .int a, .long b])).length) Slot.unset).toArray = ls at hl ⊢
  have hl : lv_has ls 5 [(0, .ref t), (1, .int op), (2, .int a), (3, .long b)] := hl
  refine lv_aload_n hx hb d_Tr_append_0 rfl (lv_at hl 0 rfl) ?_
  refine va_get (D := D) (ci := 1) (v := .int (nI n)) (C := "VersionedBlock$Transaction") (T := T_Tr) (N := 10) hx hb hts (fun w h => List.mem_cons_of_mem _ (il_Tr w h)) hown hK hP 0 rfl rfl 3 (by decide) (hts _ (List.mem_cons_of_mem _ mw_1_94)) (fun _ h9 => h9) rfl d_Tr_append_1 ?_
  refine lv_bipush (v := (nI 32)) hx hb d_Tr_append_4 (by decide) ?_
  refine lv_icmp_lt (tgt := 12) hx hb d_Tr_append_6 (by decide) (fun c_6 => ?_) (fun c_6 => absurd (nI_lt hn (by decide)) c_6)
  refine lv_aload_n hx hb d_Tr_append_12 rfl (lv_at hl 0 rfl) ?_
  refine va_get (D := D) (ci := 1) (v := .ref ta) (C := "VersionedBlock$Transaction") (T := T_Tr) (N := 10) hx hb hts (fun w h => List.mem_cons_of_mem _ (il_Tr w h)) hown hK hP 0 rfl rfl 0 (by decide) (hts _ (List.mem_cons_of_mem _ mw_1_91)) (fun _ h9 => h9) rfl d_Tr_append_13 ?_
  refine lv_aload_n hx hb d_Tr_append_16 rfl (lv_at hl 0 rfl) ?_
  refine va_get (D := D) (ci := 1) (v := .int (nI n)) (C := "VersionedBlock$Transaction") (T := T_Tr) (N := 10) hx hb hts (fun w h => List.mem_cons_of_mem _ (il_Tr w h)) hown hK hP 0 rfl rfl 3 (by decide) (hts _ (List.mem_cons_of_mem _ mw_1_94)) (fun _ h9 => h9) rfl d_Tr_append_17 ?_
  refine lv_iload_n hx hb d_Tr_append_20 rfl (lv_at hl 1 rfl) ?_
  refine my_iast hx hb hK hP hD hS 1 1 rfl rfl (k := n) hn (Nat.le_of_ble_eq_true rfl) d_Tr_append_21 (fun H locs hP hD hS => ?_)
  have hP : va_P D classes ([(t, .inr (1, [.ref ta, .ref tb, .ref tc, .int (nI n), .int kn, .int oc, .int dn, .int ld, .int sr, .long rs])), (ta, .inl ((ka 1), 32, .inl (upd ops n op))), (tb, .inl ((ka 1), 32, .inl fs)), (tc, .inl ((ka 0), 32, .inr (.inl ss)))]) H := hP
  have hD : va_D A ([(t, .inr (1, [.ref ta, .ref tb, .ref tc, .int (nI n), .int kn, .int oc, .int dn, .int ld, .int sr, .long rs])), (ta, .inl ((ka 1), 32, .inl (upd ops n op))), (tb, .inl ((ka 1), 32, .inl fs)), (tc, .inl ((ka 0), 32, .inr (.inl ss)))]) := hD
  refine lv_aload_n hx hb d_Tr_append_22 rfl (lv_at hl 0 rfl) ?_
  refine va_get (D := D) (ci := 1) (v := .ref tb) (C := "VersionedBlock$Transaction") (T := T_Tr) (N := 10) hx hb hts (fun w h => List.mem_cons_of_mem _ (il_Tr w h)) hown hK hP 0 rfl rfl 1 (by decide) (hts _ (List.mem_cons_of_mem _ mw_1_92)) (fun _ h9 => h9) rfl d_Tr_append_23 ?_
  refine lv_aload_n hx hb d_Tr_append_26 rfl (lv_at hl 0 rfl) ?_
  refine va_get (D := D) (ci := 1) (v := .int (nI n)) (C := "VersionedBlock$Transaction") (T := T_Tr) (N := 10) hx hb hts (fun w h => List.mem_cons_of_mem _ (il_Tr w h)) hown hK hP 0 rfl rfl 3 (by decide) (hts _ (List.mem_cons_of_mem _ mw_1_94)) (fun _ h9 => h9) rfl d_Tr_append_27 ?_
  refine lv_iload_n hx hb d_Tr_append_30 rfl (lv_at hl 2 rfl) ?_
  refine my_iast hx hb hK hP hD hS 2 1 rfl rfl (k := n) hn (Nat.le_of_ble_eq_true rfl) d_Tr_append_31 (fun H locs hP hD hS => ?_)
  have hP : va_P D classes ([(t, .inr (1, [.ref ta, .ref tb, .ref tc, .int (nI n), .int kn, .int oc, .int dn, .int ld, .int sr, .long rs])), (ta, .inl ((ka 1), 32, .inl (upd ops n op))), (tb, .inl ((ka 1), 32, .inl (upd fs n a))), (tc, .inl ((ka 0), 32, .inr (.inl ss)))]) H := hP
  have hD : va_D A ([(t, .inr (1, [.ref ta, .ref tb, .ref tc, .int (nI n), .int kn, .int oc, .int dn, .int ld, .int sr, .long rs])), (ta, .inl ((ka 1), 32, .inl (upd ops n op))), (tb, .inl ((ka 1), 32, .inl (upd fs n a))), (tc, .inl ((ka 0), 32, .inr (.inl ss)))]) := hD
  refine lv_aload_n hx hb d_Tr_append_32 rfl (lv_at hl 0 rfl) ?_
  refine va_get (D := D) (ci := 1) (v := .ref tc) (C := "VersionedBlock$Transaction") (T := T_Tr) (N := 10) hx hb hts (fun w h => List.mem_cons_of_mem _ (il_Tr w h)) hown hK hP 0 rfl rfl 2 (by decide) (hts _ (List.mem_cons_of_mem _ mw_1_93)) (fun _ h9 => h9) rfl d_Tr_append_33 ?_
  refine lv_aload_n hx hb d_Tr_append_36 rfl (lv_at hl 0 rfl) ?_
  refine va_get (D := D) (ci := 1) (v := .int (nI n)) (C := "VersionedBlock$Transaction") (T := T_Tr) (N := 10) hx hb hts (fun w h => List.mem_cons_of_mem _ (il_Tr w h)) hown hK hP 0 rfl rfl 3 (by decide) (hts _ (List.mem_cons_of_mem _ mw_1_94)) (fun _ h9 => h9) rfl d_Tr_append_37 ?_
  refine lv_lload_n hx hb d_Tr_append_40 rfl (lv_at hl 3 rfl) ?_
  refine my_last hx hb hK hP hD hS 3 0 rfl rfl (k := n) hn (Nat.le_of_ble_eq_true rfl) d_Tr_append_41 (fun H locs hP hD hS => ?_)
  have hP : va_P D classes ([(t, .inr (1, [.ref ta, .ref tb, .ref tc, .int (nI n), .int kn, .int oc, .int dn, .int ld, .int sr, .long rs])), (ta, .inl ((ka 1), 32, .inl (upd ops n op))), (tb, .inl ((ka 1), 32, .inl (upd fs n a))), (tc, .inl ((ka 0), 32, .inr (.inl (vp_updL ss n b))))]) H := hP
  have hD : va_D A ([(t, .inr (1, [.ref ta, .ref tb, .ref tc, .int (nI n), .int kn, .int oc, .int dn, .int ld, .int sr, .long rs])), (ta, .inl ((ka 1), 32, .inl (upd ops n op))), (tb, .inl ((ka 1), 32, .inl (upd fs n a))), (tc, .inl ((ka 0), 32, .inr (.inl (vp_updL ss n b))))]) := hD
  refine lv_aload_n hx hb d_Tr_append_42 rfl (lv_at hl 0 rfl) ?_
  refine lv_dup hx hb d_Tr_append_43 rfl ?_
  refine va_get (D := D) (ci := 1) (v := .int (nI n)) (C := "VersionedBlock$Transaction") (T := T_Tr) (N := 10) hx hb hts (fun w h => List.mem_cons_of_mem _ (il_Tr w h)) hown hK hP 0 rfl rfl 3 (by decide) (hts _ (List.mem_cons_of_mem _ mw_1_94)) (fun _ h9 => h9) rfl d_Tr_append_44 ?_
  refine lv_iconst (v := 1) hx hb d_Tr_append_47 (by decide) ?_
  refine lv_iadd hx hb d_Tr_append_48 ?_
  refine lv_topi (fun v_48 ev_48 => ?_)
  obtain rfl : v_48 = nI (n + 1) := ev_48.trans (nI_1 _)
  refine va_put (D := D) (ci := 1) (v := .int (nI (n + 1))) (ty := .int) (C := "VersionedBlock$Transaction") (T := T_Tr) (N := 10) hx hb hts (fun w h => List.mem_cons_of_mem _ (il_Tr w h)) t_Tr t_Tr_ok n_Tr hown hK hP hD hS 0 rfl rfl 3 (by decide) (hts _ (List.mem_cons_of_mem _ mw_1_94)) (fun _ h9 => h9) rfl (by decide +kernel) rfl rfl (Nat.le_of_ble_eq_true rfl) d_Tr_append_49 (fun H locs hP hD hS => ?_)
  have hP : va_P D classes ([(t, .inr (1, [.ref ta, .ref tb, .ref tc, .int (nI (n + 1)), .int kn, .int oc, .int dn, .int ld, .int sr, .long rs])), (ta, .inl ((ka 1), 32, .inl (upd ops n op))), (tb, .inl ((ka 1), 32, .inl (upd fs n a))), (tc, .inl ((ka 0), 32, .inr (.inl (vp_updL ss n b))))]) H := hP
  have hD : va_D A ([(t, .inr (1, [.ref ta, .ref tb, .ref tc, .int (nI (n + 1)), .int kn, .int oc, .int dn, .int ld, .int sr, .long rs])), (ta, .inl ((ka 1), 32, .inl (upd ops n op))), (tb, .inl ((ka 1), 32, .inl (upd fs n a))), (tc, .inl ((ka 0), 32, .inr (.inl (vp_updL ss n b))))]) := hD
  refine lv_aload_n hx hb d_Tr_append_52 rfl (lv_at hl 0 rfl) ?_
  refine lv_iconst (v := 0) hx hb d_Tr_append_53 (by decide) ?_
  refine va_put (D := D) (ci := 1) (v := .int 0) (ty := .boolean) (C := "VersionedBlock$Transaction") (T := T_Tr) (N := 10) hx hb hts (fun w h => List.mem_cons_of_mem _ (il_Tr w h)) t_Tr t_Tr_ok n_Tr hown hK hP hD hS 0 rfl rfl 4 (by decide) (hts _ (List.mem_cons_of_mem _ mw_1_95)) (fun _ h9 => h9) rfl (by decide +kernel) rfl rfl (Nat.le_of_ble_eq_true rfl) d_Tr_append_54 (fun H locs hP hD hS => ?_)
  have hP : va_P D classes ([(t, .inr (1, [.ref ta, .ref tb, .ref tc, .int (nI (n + 1)), .int 0, .int oc, .int dn, .int ld, .int sr, .long rs])), (ta, .inl ((ka 1), 32, .inl (upd ops n op))), (tb, .inl ((ka 1), 32, .inl (upd fs n a))), (tc, .inl ((ka 0), 32, .inr (.inl (vp_updL ss n b))))]) H := hP
  have hD : va_D A ([(t, .inr (1, [.ref ta, .ref tb, .ref tc, .int (nI (n + 1)), .int 0, .int oc, .int dn, .int ld, .int sr, .long rs])), (ta, .inl ((ka 1), 32, .inl (upd ops n op))), (tb, .inl ((ka 1), 32, .inl (upd fs n a))), (tc, .inl ((ka 0), 32, .inr (.inl (vp_updL ss n b))))]) := hD
  refine lv_aload_n hx hb d_Tr_append_57 rfl (lv_at hl 0 rfl) ?_
  refine va_get (D := D) (ci := 1) (v := .int (nI (n + 1))) (C := "VersionedBlock$Transaction") (T := T_Tr) (N := 10) hx hb hts (fun w h => List.mem_cons_of_mem _ (il_Tr w h)) hown hK hP 0 rfl rfl 3 (by decide) (hts _ (List.mem_cons_of_mem _ mw_1_94)) (fun _ h9 => h9) rfl d_Tr_append_58 ?_
  have hP9 := hP.sub (ws' := [(t, .inr (1, [.ref ta, .ref tb, .ref tc, .int (nI (n + 1)), .int 0, .int oc, .int dn, .int ld, .int sr, .long rs])), (ta, .inl ((ka 1), 32, .inl (upd ops n op))), (tb, .inl ((ka 1), 32, .inl (upd fs n a))), (tc, .inl ((ka 0), 32, .inr (.inl (vp_updL ss n b))))]) [0, 1, 2, 3] rfl
  have hD9 := hD.sub (ws' := [(t, .inr (1, [.ref ta, .ref tb, .ref tc, .int (nI (n + 1)), .int 0, .int oc, .int dn, .int ld, .int sr, .long rs])), (ta, .inl ((ka 1), 32, .inl (upd ops n op))), (tb, .inl ((ka 1), 32, .inl (upd fs n a))), (tc, .inl ((ka 0), 32, .inr (.inl (vp_updL ss n b))))]) [0, 1, 2, 3] (by decide) rfl
  exact W.iret (v := (nI (n + 1))) hx hb hr (fun t9 ht hW => ⟨⟨(nI (n + 1)), (), rfl, rfl, trivial, by rw [ht]; exact hP9, hD9⟩, hS.F ht⟩) hS.2.2 d_Tr_append_61
set_option maxHeartbeats 4000000 in
set_option maxRecDepth 100000 in
theorem c_Tr_note (l : Launch) (D : va_G) (ka : Nat → ClassId) (sz : Nat) (t ta tb tc : Nat) (ln : Int32) (kn oc dn ld sr : Int32) (rs : Int64) (oc' dn' ld' sr' : Int32) (rs' : Int64)  : Met l y_Tr_note w_Tr_note ({ frames := 0, cells := 0, slots := 0, locals := 0 }) (pW classes (tyS ka) D [.ref t, .int oc', .int dn', .int ld', .int sr', .long rs'] ([(t, .inr (1, [.ref ta, .ref tb, .ref tc, .int ln, .int kn, .int oc, .int dn, .int ld, .int sr, .long rs]))]) sz) (va_Qv (fun _ : Unit => True) (fun (_ : Unit) t9 => (True) ∧ va_P D classes ([(t, .inr (1, [.ref ta, .ref tb, .ref tc, .int ln, .int 1, .int oc', .int dn', .int ld', .int sr', .long rs']))]) t9.heap ∧ va_D (va_A ([(t, .inr (1, [.ref ta, .ref tb, .ref tc, .int ln, .int kn, .int oc, .int dn, .int ld, .int sr, .long rs]))]) sz) ([(t, .inr (1, [.ref ta, .ref tb, .ref tc, .int ln, .int 1, .int oc', .int dn', .int ld', .int sr', .long rs']))])) (va_A ([(t, .inr (1, [.ref ta, .ref tb, .ref tc, .int ln, .int kn, .int oc, .int dn, .int ld, .int sr, .long rs]))]) sz)) 0 0 (va_A ([(t, .inr (1, [.ref ta, .ref tb, .ref tc, .int ln, .int kn, .int oc, .int dn, .int ld, .int sr, .long rs]))]) sz) := by
  refine Met.ofW (cc := b_Tr_note) (maxL := 7) (ret := none) (by decide) rfl ?_
  intro pP eE sS mM args below meth cC s1 B hml hv
  obtain ⟨rfl, hsz, hP, hK, hN, hD0⟩ := hv
  have hx := B.exec
  have hb := B.bytes
  have hr := B.returns
  have hts := atoms_spec (ws := w_Tr_note) B.pre
  have hown : sS.vm.findClass "VersionedBlock$Transaction" = some mM.cls := findClass_of_methodNamed B.named
  have hlocks := B.notSynchronized
  subst hsz
  have hD := hD0.self (sz := sS.heap.size)
  generalize hAe : va_A ([(t, .inr (1, [.ref ta, .ref tb, .ref tc, .int ln, .int kn, .int oc, .int dn, .int ld, .int sr, .long rs]))]) sS.heap.size = A at hD ⊢
  have hA : ∀ q : Nat, sS.heap.size ≤ q → A q := fun q h => by rw [← hAe]; exact Or.inr h
  have hS : va_S A sS.heap sS.heap [] := va_S.rf
  have hl := lv_entry ([.ref t, .int oc', .int dn', .int ld', .int sr', .long rs']) (n := 7) (Nat.le_of_ble_eq_true rfl)
  rw [lg_entry_eq]
  generalize (lg_sl ([.ref t, .int oc', .int dn', .int ld', .int sr', .long rs']) ++ List.replicate (7 - (lg_sl ([.ref t, .int oc', .int dn', .int ld', .int sr', .long rs'])).length) Slot.unset).toArray = ls at hl ⊢
  have hl : lv_has ls 7 [(0, .ref t), (1, .int oc'), (2, .int dn'), (3, .int ld'), (4, .int sr'), (5, .long rs')] := hl
  refine lv_aload_n hx hb d_Tr_note_0 rfl (lv_at hl 0 rfl) ?_
  refine lv_iconst (v := 1) hx hb d_Tr_note_1 (by decide) ?_
  refine va_put (D := D) (ci := 1) (v := .int 1) (ty := .boolean) (C := "VersionedBlock$Transaction") (T := T_Tr) (N := 10) hx hb hts (fun w h => List.mem_cons_of_mem _ (il_Tr w h)) t_Tr t_Tr_ok n_Tr hown hK hP hD hS 0 rfl rfl 4 (by decide) (hts _ (List.mem_cons_of_mem _ mw_1_95)) (fun _ h9 => h9) rfl (by decide +kernel) rfl rfl (Nat.le_of_ble_eq_true rfl) d_Tr_note_2 (fun H locs hP hD hS => ?_)
  have hP : va_P D classes ([(t, .inr (1, [.ref ta, .ref tb, .ref tc, .int ln, .int 1, .int oc, .int dn, .int ld, .int sr, .long rs]))]) H := hP
  have hD : va_D A ([(t, .inr (1, [.ref ta, .ref tb, .ref tc, .int ln, .int 1, .int oc, .int dn, .int ld, .int sr, .long rs]))]) := hD
  refine lv_aload_n hx hb d_Tr_note_5 rfl (lv_at hl 0 rfl) ?_
  refine lv_iload_n hx hb d_Tr_note_6 rfl (lv_at hl 1 rfl) ?_
  refine va_put (D := D) (ci := 1) (v := .int oc') (ty := .int) (C := "VersionedBlock$Transaction") (T := T_Tr) (N := 10) hx hb hts (fun w h => List.mem_cons_of_mem _ (il_Tr w h)) t_Tr t_Tr_ok n_Tr hown hK hP hD hS 0 rfl rfl 5 (by decide) (hts _ (List.mem_cons_of_mem _ mw_1_96)) (fun _ h9 => h9) rfl (by decide +kernel) rfl rfl (Nat.le_of_ble_eq_true rfl) d_Tr_note_7 (fun H locs hP hD hS => ?_)
  have hP : va_P D classes ([(t, .inr (1, [.ref ta, .ref tb, .ref tc, .int ln, .int 1, .int oc', .int dn, .int ld, .int sr, .long rs]))]) H := hP
  have hD : va_D A ([(t, .inr (1, [.ref ta, .ref tb, .ref tc, .int ln, .int 1, .int oc', .int dn, .int ld, .int sr, .long rs]))]) := hD
  refine lv_aload_n hx hb d_Tr_note_10 rfl (lv_at hl 0 rfl) ?_
  refine lv_iload_n hx hb d_Tr_note_11 rfl (lv_at hl 2 rfl) ?_
  refine va_put (D := D) (ci := 1) (v := .int dn') (ty := .int) (C := "VersionedBlock$Transaction") (T := T_Tr) (N := 10) hx hb hts (fun w h => List.mem_cons_of_mem _ (il_Tr w h)) t_Tr t_Tr_ok n_Tr hown hK hP hD hS 0 rfl rfl 6 (by decide) (hts _ (List.mem_cons_of_mem _ mw_1_97)) (fun _ h9 => h9) rfl (by decide +kernel) rfl rfl (Nat.le_of_ble_eq_true rfl) d_Tr_note_12 (fun H locs hP hD hS => ?_)
  have hP : va_P D classes ([(t, .inr (1, [.ref ta, .ref tb, .ref tc, .int ln, .int 1, .int oc', .int dn', .int ld, .int sr, .long rs]))]) H := hP
  have hD : va_D A ([(t, .inr (1, [.ref ta, .ref tb, .ref tc, .int ln, .int 1, .int oc', .int dn', .int ld, .int sr, .long rs]))]) := hD
  refine lv_aload_n hx hb d_Tr_note_15 rfl (lv_at hl 0 rfl) ?_
  refine lv_iload_n hx hb d_Tr_note_16 rfl (lv_at hl 3 rfl) ?_
  refine va_put (D := D) (ci := 1) (v := .int ld') (ty := .int) (C := "VersionedBlock$Transaction") (T := T_Tr) (N := 10) hx hb hts (fun w h => List.mem_cons_of_mem _ (il_Tr w h)) t_Tr t_Tr_ok n_Tr hown hK hP hD hS 0 rfl rfl 7 (by decide) (hts _ (List.mem_cons_of_mem _ mw_1_98)) (fun _ h9 => h9) rfl (by decide +kernel) rfl rfl (Nat.le_of_ble_eq_true rfl) d_Tr_note_17 (fun H locs hP hD hS => ?_)
  have hP : va_P D classes ([(t, .inr (1, [.ref ta, .ref tb, .ref tc, .int ln, .int 1, .int oc', .int dn', .int ld', .int sr, .long rs]))]) H := hP
  have hD : va_D A ([(t, .inr (1, [.ref ta, .ref tb, .ref tc, .int ln, .int 1, .int oc', .int dn', .int ld', .int sr, .long rs]))]) := hD
  refine lv_aload_n hx hb d_Tr_note_20 rfl (lv_at hl 0 rfl) ?_
  refine lv_iload hx hb d_Tr_note_21 (lv_at hl 4 rfl) ?_
  refine va_put (D := D) (ci := 1) (v := .int sr') (ty := .int) (C := "VersionedBlock$Transaction") (T := T_Tr) (N := 10) hx hb hts (fun w h => List.mem_cons_of_mem _ (il_Tr w h)) t_Tr t_Tr_ok n_Tr hown hK hP hD hS 0 rfl rfl 8 (by decide) (hts _ (List.mem_cons_of_mem _ mw_1_99)) (fun _ h9 => h9) rfl (by decide +kernel) rfl rfl (Nat.le_of_ble_eq_true rfl) d_Tr_note_23 (fun H locs hP hD hS => ?_)
  have hP : va_P D classes ([(t, .inr (1, [.ref ta, .ref tb, .ref tc, .int ln, .int 1, .int oc', .int dn', .int ld', .int sr', .long rs]))]) H := hP
  have hD : va_D A ([(t, .inr (1, [.ref ta, .ref tb, .ref tc, .int ln, .int 1, .int oc', .int dn', .int ld', .int sr', .long rs]))]) := hD
  refine lv_aload_n hx hb d_Tr_note_26 rfl (lv_at hl 0 rfl) ?_
  refine lv_lload hx hb d_Tr_note_27 (lv_at hl 5 rfl) ?_
  refine va_put (D := D) (ci := 1) (v := .long rs') (ty := .long) (C := "VersionedBlock$Transaction") (T := T_Tr) (N := 10) hx hb hts (fun w h => List.mem_cons_of_mem _ (il_Tr w h)) t_Tr t_Tr_ok n_Tr hown hK hP hD hS 0 rfl rfl 9 (by decide) (hts _ (List.mem_cons_of_mem _ mw_1_100)) (fun _ h9 => h9) rfl (by decide +kernel) rfl rfl (Nat.le_of_ble_eq_true rfl) d_Tr_note_29 (fun H locs hP hD hS => ?_)
  have hP : va_P D classes ([(t, .inr (1, [.ref ta, .ref tb, .ref tc, .int ln, .int 1, .int oc', .int dn', .int ld', .int sr', .long rs']))]) H := hP
  have hD : va_D A ([(t, .inr (1, [.ref ta, .ref tb, .ref tc, .int ln, .int 1, .int oc', .int dn', .int ld', .int sr', .long rs']))]) := hD
  have hP9 := hP.sub (ws' := [(t, .inr (1, [.ref ta, .ref tb, .ref tc, .int ln, .int 1, .int oc', .int dn', .int ld', .int sr', .long rs']))]) [0] rfl
  have hD9 := hD.sub (ws' := [(t, .inr (1, [.ref ta, .ref tb, .ref tc, .int ln, .int 1, .int oc', .int dn', .int ld', .int sr', .long rs']))]) [0] (by decide) rfl
  exact W.vret hx hb hr (fun t9 ht hW => ⟨⟨(), rfl, trivial, trivial, by rw [ht]; exact hP9, hD9⟩, hS.F ht⟩) hS.2.2 d_Tr_note_32
set_option maxHeartbeats 4000000 in
set_option maxRecDepth 100000 in
theorem c_Tr_tell (l : Launch) (D : va_G) (ka : Nat → ClassId) (t ta tb tc : Nat) (ln : Int32) (kn oc dn ld sr : Int32) (rs : Int64) (what : Int32)  : Met l y_Tr_tell w_Tr_tell ({ frames := 0, cells := 0, slots := 0, locals := 0 }) (pR classes (tyS ka) D [.ref t, .int what] ([(t, .inr (1, [.ref ta, .ref tb, .ref tc, .int ln, .int kn, .int oc, .int dn, .int ld, .int sr, .long rs]))])) (vp_Si (fun r => r = (tl_ans kn oc dn ld sr what))) 0 0 (fun _ => False) := by
  refine Met.ofW (cc := b_Tr_tell) (maxL := 2) (ret := (some .int)) (by decide) rfl ?_
  intro pP eE sS mM args below meth cC s1 B hml hv
  obtain ⟨rfl, hP, hK, hN⟩ := hv
  have hx := B.exec
  have hb := B.bytes
  have hr := B.returns
  have hts := atoms_spec (ws := w_Tr_tell) B.pre
  have hown : sS.vm.findClass "VersionedBlock$Transaction" = some mM.cls := findClass_of_methodNamed B.named
  have hlocks := B.notSynchronized
  have hl := lv_entry ([.ref t, .int what]) (n := 2) (Nat.le_of_ble_eq_true rfl)
  rw [lg_entry_eq]
  generalize (lg_sl ([.ref t, .int what]) ++ List.replicate (2 - (lg_sl ([.ref t, .int what])).length) Slot.unset).toArray = ls at hl ⊢
  have hl : lv_has ls 2 [(0, .ref t), (1, .int what)] := hl
  refine lv_iload_n hx hb d_Tr_tell_0 rfl (lv_at hl 1 rfl) ?_
  refine lv_if_lt (tgt := 9) hx hb d_Tr_tell_1 (by decide) (fun c_1 => ?_) (fun c_1 => ?_)
  · refine lv_iconst (v := (-1)) hx hb d_Tr_tell_9 (by decide) ?_
    exact W.iret (v := (-1)) hx hb hr (fun t9 ht hW => ⟨(-1), rfl, (by unfold tl_ans; rw [if_pos (Or.inl c_1)]), ht⟩) (fun _ h => by cases h) d_Tr_tell_10
  · refine lv_iload_n hx hb d_Tr_tell_4 rfl (lv_at hl 1 rfl) ?_
    refine lv_iconst (v := 3) hx hb d_Tr_tell_5 (by decide) ?_
    refine lv_icmp_le (tgt := 11) hx hb d_Tr_tell_6 (by decide) (fun c_6 => ?_) (fun c_6 => ?_)
    · refine lv_aload_n hx hb d_Tr_tell_11 rfl (lv_at hl 0 rfl) ?_
      refine va_get (D := D) (ci := 1) (v := .int kn) (C := "VersionedBlock$Transaction") (T := T_Tr) (N := 10) hx hb hts (fun w h => List.mem_cons_of_mem _ (il_Tr w h)) hown hK hP 0 rfl rfl 4 (by decide) (hts _ (List.mem_cons_of_mem _ mw_1_95)) (fun _ h9 => h9) rfl d_Tr_tell_12 ?_
      refine lv_if_ne (tgt := 21) hx hb d_Tr_tell_15 (by decide) (fun c_15 => ?_) (fun c_15 => ?_)
      · refine lv_iload_n hx hb d_Tr_tell_21 rfl (lv_at hl 1 rfl) ?_
        have hw : what = 0 ∨ what = 1 ∨ what = 2 ∨ what = 3 := tl_what c_1 c_6
        rcases hw with rfl | rfl | rfl | rfl
        · skip
          refine lv_tableIn (off := 26) (tgt := 48) hx hb d_Tr_tell_22 (by decide) (by decide) (by decide) (by decide) ?_
          refine lv_aload_n hx hb d_Tr_tell_48 rfl (lv_at hl 0 rfl) ?_
          refine va_get (D := D) (ci := 1) (v := .int oc) (C := "VersionedBlock$Transaction") (T := T_Tr) (N := 10) hx hb hts (fun w h => List.mem_cons_of_mem _ (il_Tr w h)) hown hK hP 0 rfl rfl 5 (by decide) (hts _ (List.mem_cons_of_mem _ mw_1_96)) (fun _ h9 => h9) rfl d_Tr_tell_49 ?_
          exact W.iret (v := oc) hx hb hr (fun t9 ht hW => ⟨oc, rfl, (tl_k0 c_15), ht⟩) (fun _ h => by cases h) d_Tr_tell_52
        · skip
          refine lv_tableIn (off := 31) (tgt := 53) hx hb d_Tr_tell_22 (by decide) (by decide) (by decide) (by decide) ?_
          refine lv_aload_n hx hb d_Tr_tell_53 rfl (lv_at hl 0 rfl) ?_
          refine va_get (D := D) (ci := 1) (v := .int dn) (C := "VersionedBlock$Transaction") (T := T_Tr) (N := 10) hx hb hts (fun w h => List.mem_cons_of_mem _ (il_Tr w h)) hown hK hP 0 rfl rfl 6 (by decide) (hts _ (List.mem_cons_of_mem _ mw_1_97)) (fun _ h9 => h9) rfl d_Tr_tell_54 ?_
          exact W.iret (v := dn) hx hb hr (fun t9 ht hW => ⟨dn, rfl, (tl_k1 c_15), ht⟩) (fun _ h => by cases h) d_Tr_tell_57
        · skip
          refine lv_tableIn (off := 36) (tgt := 58) hx hb d_Tr_tell_22 (by decide) (by decide) (by decide) (by decide) ?_
          refine lv_aload_n hx hb d_Tr_tell_58 rfl (lv_at hl 0 rfl) ?_
          refine va_get (D := D) (ci := 1) (v := .int ld) (C := "VersionedBlock$Transaction") (T := T_Tr) (N := 10) hx hb hts (fun w h => List.mem_cons_of_mem _ (il_Tr w h)) hown hK hP 0 rfl rfl 7 (by decide) (hts _ (List.mem_cons_of_mem _ mw_1_98)) (fun _ h9 => h9) rfl d_Tr_tell_59 ?_
          exact W.iret (v := ld) hx hb hr (fun t9 ht hW => ⟨ld, rfl, (tl_k2 c_15), ht⟩) (fun _ h => by cases h) d_Tr_tell_62
        · skip
          refine lv_tableOut (tgt := 63) hx hb d_Tr_tell_22 (by decide) (by decide) ?_
          refine lv_aload_n hx hb d_Tr_tell_63 rfl (lv_at hl 0 rfl) ?_
          refine va_get (D := D) (ci := 1) (v := .int sr) (C := "VersionedBlock$Transaction") (T := T_Tr) (N := 10) hx hb hts (fun w h => List.mem_cons_of_mem _ (il_Tr w h)) hown hK hP 0 rfl rfl 8 (by decide) (hts _ (List.mem_cons_of_mem _ mw_1_99)) (fun _ h9 => h9) rfl d_Tr_tell_64 ?_
          exact W.iret (v := sr) hx hb hr (fun t9 ht hW => ⟨sr, rfl, (tl_k3 c_15), ht⟩) (fun _ h => by cases h) d_Tr_tell_67
      · refine lv_bipush (v := (-2)) hx hb d_Tr_tell_18 (by decide) ?_
        exact W.iret (v := (-2)) hx hb hr (fun t9 ht hW => ⟨(-2), rfl, (by unfold tl_ans; rw [if_neg (fun q => q.elim c_1 (Int32.not_lt.mpr c_6)), if_pos c_15]), ht⟩) (fun _ h => by cases h) d_Tr_tell_20
    · refine lv_iconst (v := (-1)) hx hb d_Tr_tell_9 (by decide) ?_
      exact W.iret (v := (-1)) hx hb hr (fun t9 ht hW => ⟨(-1), rfl, (by unfold tl_ans; rw [if_pos (Or.inr (Int32.not_le.mp c_6))]), ht⟩) (fun _ h => by cases h) d_Tr_tell_10
set_option maxHeartbeats 4000000 in
set_option maxRecDepth 100000 in
theorem c_Tr_tellResult (l : Launch) (D : va_G) (ka : Nat → ClassId) (t ta tb tc : Nat) (ln : Int32) (kn oc dn ld sr : Int32) (rs : Int64)  : Met l y_Tr_tellResult w_Tr_tellResult ({ frames := 0, cells := 0, slots := 0, locals := 0 }) (pR classes (tyS ka) D [.ref t] ([(t, .inr (1, [.ref ta, .ref tb, .ref tc, .int ln, .int kn, .int oc, .int dn, .int ld, .int sr, .long rs]))])) (vp_Sl (fun r => r = (if kn = 0 then 0 else rs))) 0 0 (fun _ => False) := by
  refine Met.ofW (cc := b_Tr_tellResult) (maxL := 1) (ret := (some .long)) (by decide) rfl ?_
  intro pP eE sS mM args below meth cC s1 B hml hv
  obtain ⟨rfl, hP, hK, hN⟩ := hv
  have hx := B.exec
  have hb := B.bytes
  have hr := B.returns
  have hts := atoms_spec (ws := w_Tr_tellResult) B.pre
  have hown : sS.vm.findClass "VersionedBlock$Transaction" = some mM.cls := findClass_of_methodNamed B.named
  have hlocks := B.notSynchronized
  have hl := lv_entry ([.ref t]) (n := 1) (Nat.le_of_ble_eq_true rfl)
  rw [lg_entry_eq]
  generalize (lg_sl ([.ref t]) ++ List.replicate (1 - (lg_sl ([.ref t])).length) Slot.unset).toArray = ls at hl ⊢
  have hl : lv_has ls 1 [(0, .ref t)] := hl
  refine lv_aload_n hx hb d_Tr_tellResult_0 rfl (lv_at hl 0 rfl) ?_
  refine va_get (D := D) (ci := 1) (v := .int kn) (C := "VersionedBlock$Transaction") (T := T_Tr) (N := 10) hx hb hts (fun w h => List.mem_cons_of_mem _ (il_Tr w h)) hown hK hP 0 rfl rfl 4 (by decide) (hts _ (List.mem_cons_of_mem _ mw_1_95)) (fun _ h9 => h9) rfl d_Tr_tellResult_1 ?_
  refine lv_if_eq (tgt := 14) hx hb d_Tr_tellResult_4 (by decide) (fun c_4 => ?_) (fun c_4 => ?_)
  · refine lv_lconst (v := 0) hx hb d_Tr_tellResult_14 (by decide) ?_
    exact W.lret (v := 0) hx hb hr (fun t9 ht hW => ⟨0, rfl, (if_pos c_4).symm, ht⟩) (fun _ h => by cases h) d_Tr_tellResult_15
  · refine lv_aload_n hx hb d_Tr_tellResult_7 rfl (lv_at hl 0 rfl) ?_
    refine va_get (D := D) (ci := 1) (v := .long rs) (C := "VersionedBlock$Transaction") (T := T_Tr) (N := 10) hx hb hts (fun w h => List.mem_cons_of_mem _ (il_Tr w h)) hown hK hP 0 rfl rfl 9 (by decide) (hts _ (List.mem_cons_of_mem _ mw_1_100)) (fun _ h9 => h9) rfl d_Tr_tellResult_8 ?_
    refine lv_goto (tgt := 15) hx hb d_Tr_tellResult_11 (by decide) ?_
    exact W.lret (v := rs) hx hb hr (fun t9 ht hW => ⟨rs, rfl, (if_neg c_4).symm, ht⟩) (fun _ h => by cases h) d_Tr_tellResult_15
set_option maxHeartbeats 4000000 in
set_option maxRecDepth 100000 in
theorem c_Tr_init (l : Launch) (D : va_G) (ka : Nat → ClassId) (sz : Nat) (t : Nat)  : Met l y_Tr_init w_Tr_init ({ frames := 1, cells := 3, slots := 96, locals := 12 }) (pW classes (tyS ka) D [.ref t] ([(t, .inr (1, [.null, .null, .null, .int 0, .int 0, .int 0, .int 0, .int 0, .int 0, .long 0]))]) sz) (va_Qv (fun _ : Unit => True) (fun (_ : Unit) t9 => ∃ (ta tb tc : Nat), (True) ∧ va_P D classes ([(t, .inr (1, [.ref ta, .ref tb, .ref tc, .int (nI 0), .int 0, .int 0, .int 0, .int 0, .int 0, .long 0])), (ta, .inl ((ka 1), 32, .inl (fun _ => 0))), (tb, .inl ((ka 1), 32, .inl (fun _ => 0))), (tc, .inl ((ka 0), 32, .inr (.inl (fun _ => 0))))]) t9.heap ∧ va_D (va_A ([(t, .inr (1, [.null, .null, .null, .int 0, .int 0, .int 0, .int 0, .int 0, .int 0, .long 0]))]) sz) ([(t, .inr (1, [.ref ta, .ref tb, .ref tc, .int (nI 0), .int 0, .int 0, .int 0, .int 0, .int 0, .long 0])), (ta, .inl ((ka 1), 32, .inl (fun _ => 0))), (tb, .inl ((ka 1), 32, .inl (fun _ => 0))), (tc, .inl ((ka 0), 32, .inr (.inl (fun _ => 0))))])) (va_A ([(t, .inr (1, [.null, .null, .null, .int 0, .int 0, .int 0, .int 0, .int 0, .int 0, .long 0]))]) sz)) 3 96 (va_A ([(t, .inr (1, [.null, .null, .null, .int 0, .int 0, .int 0, .int 0, .int 0, .int 0, .long 0]))]) sz) := by
  refine Met.ofW (cc := b_Tr_init) (maxL := 1) (ret := none) (by decide) rfl ?_
  intro pP eE sS mM args below meth cC s1 B hml hv
  obtain ⟨rfl, hsz, hP, hK, hN, hD0⟩ := hv
  have hx := B.exec
  have hb := B.bytes
  have hr := B.returns
  have hts := atoms_spec (ws := w_Tr_init) B.pre
  have hown : sS.vm.findClass "VersionedBlock$Transaction" = some mM.cls := findClass_of_methodNamed B.named
  have hlocks := B.notSynchronized
  have hin : meth.name = "<init>" := (name_of_methodNamed B.named B.method).1
  subst hsz
  have hD := hD0.self (sz := sS.heap.size)
  generalize hAe : va_A ([(t, .inr (1, [.null, .null, .null, .int 0, .int 0, .int 0, .int 0, .int 0, .int 0, .long 0]))]) sS.heap.size = A at hD ⊢
  have hA : ∀ q : Nat, sS.heap.size ≤ q → A q := fun q h => by rw [← hAe]; exact Or.inr h
  have hS : va_S A sS.heap sS.heap [] := va_S.rf
  have hl := lv_entry ([.ref t]) (n := 1) (Nat.le_of_ble_eq_true rfl)
  rw [lg_entry_eq]
  generalize (lg_sl ([.ref t]) ++ List.replicate (1 - (lg_sl ([.ref t])).length) Slot.unset).toArray = ls at hl ⊢
  have hl : lv_has ls 1 [(0, .ref t)] := hl
  refine lv_aload_n hx hb d_Tr_init_0 rfl (lv_at hl 0 rfl) ?_
  refine W.objInit hx hb hown (hts _ (List.mem_cons_of_mem _ mw_1_90)) (hts _ (List.mem_cons_of_mem _ mw_1_16)) (hts _ (List.mem_cons_of_mem _ mw_1_17)) rfl (by rw [hml]; exact hl.1) rfl d_Tr_init_1 (Nat.le_of_ble_eq_true rfl) (Nat.le_of_ble_eq_true rfl) ?_
  refine W.eq (g2 := F0 mM 4 ls []) rfl ?_
  refine lv_aload_n hx hb d_Tr_init_4 rfl (lv_at hl 0 rfl) ?_
  refine lv_bipush (v := 32) hx hb d_Tr_init_5 (by decide) ?_
  refine my_newa (ty := .int) (a0 := (32, .inl (fun _ => 0))) hx hb (hts _ (List.mem_cons_of_mem _ mw_1_122)) rfl hK 1 (cA0 := ka 1) rfl hP hD hS hA (fun _ => rfl) (k := 32) (by decide) (by decide) (Nat.le_of_ble_eq_true rfl) (Nat.le_of_ble_eq_true rfl) d_Tr_init_7 (fun q7 H hP hD hS => ?_)
  have hP : va_P D classes ([(t, .inr (1, [.null, .null, .null, .int 0, .int 0, .int 0, .int 0, .int 0, .int 0, .long 0])), (q7, .inl ((ka 1), 32, .inl (fun _ => 0)))]) H := hP
  have hD : va_D A ([(t, .inr (1, [.null, .null, .null, .int 0, .int 0, .int 0, .int 0, .int 0, .int 0, .long 0])), (q7, .inl ((ka 1), 32, .inl (fun _ => 0)))]) := hD
  refine W.widen (k := 1) (n := 32) (by omega) (by omega) ?_
  refine va_putF (D := D) (ci := 1) (v := .ref q7) (ty := .array .int) (C := "VersionedBlock$Transaction") (T := T_Tr) (N := 10) hx hb hts (fun w h => List.mem_cons_of_mem _ (il_Tr w h)) t_Tr t_Tr_ok n_Tr hown hK hP hD hS 0 rfl rfl 0 (by decide) (hts _ (List.mem_cons_of_mem _ mw_1_91)) (fun _ h9 => h9) rfl hin rfl (by decide +kernel) rfl rfl (Nat.le_of_ble_eq_true rfl) d_Tr_init_9 (fun H locs hP hD hS => ?_)
  have hP : va_P D classes ([(t, .inr (1, [.ref q7, .null, .null, .int 0, .int 0, .int 0, .int 0, .int 0, .int 0, .long 0])), (q7, .inl ((ka 1), 32, .inl (fun _ => 0)))]) H := hP
  have hD : va_D A ([(t, .inr (1, [.ref q7, .null, .null, .int 0, .int 0, .int 0, .int 0, .int 0, .int 0, .long 0])), (q7, .inl ((ka 1), 32, .inl (fun _ => 0)))]) := hD
  refine lv_aload_n hx hb d_Tr_init_12 rfl (lv_at hl 0 rfl) ?_
  refine lv_bipush (v := 32) hx hb d_Tr_init_13 (by decide) ?_
  refine my_newa (ty := .int) (a0 := (32, .inl (fun _ => 0))) hx hb (hts _ (List.mem_cons_of_mem _ mw_1_122)) rfl hK 1 (cA0 := ka 1) rfl hP hD hS hA (fun _ => rfl) (k := 32) (by decide) (by decide) (Nat.le_of_ble_eq_true rfl) (Nat.le_of_ble_eq_true rfl) d_Tr_init_15 (fun q15 H hP hD hS => ?_)
  have hP : va_P D classes ([(t, .inr (1, [.ref q7, .null, .null, .int 0, .int 0, .int 0, .int 0, .int 0, .int 0, .long 0])), (q7, .inl ((ka 1), 32, .inl (fun _ => 0))), (q15, .inl ((ka 1), 32, .inl (fun _ => 0)))]) H := hP
  have hD : va_D A ([(t, .inr (1, [.ref q7, .null, .null, .int 0, .int 0, .int 0, .int 0, .int 0, .int 0, .long 0])), (q7, .inl ((ka 1), 32, .inl (fun _ => 0))), (q15, .inl ((ka 1), 32, .inl (fun _ => 0)))]) := hD
  refine W.widen (k := 2) (n := 64) (by omega) (by omega) ?_
  refine va_putF (D := D) (ci := 1) (v := .ref q15) (ty := .array .int) (C := "VersionedBlock$Transaction") (T := T_Tr) (N := 10) hx hb hts (fun w h => List.mem_cons_of_mem _ (il_Tr w h)) t_Tr t_Tr_ok n_Tr hown hK hP hD hS 0 rfl rfl 1 (by decide) (hts _ (List.mem_cons_of_mem _ mw_1_92)) (fun _ h9 => h9) rfl hin rfl (by decide +kernel) rfl rfl (Nat.le_of_ble_eq_true rfl) d_Tr_init_17 (fun H locs hP hD hS => ?_)
  have hP : va_P D classes ([(t, .inr (1, [.ref q7, .ref q15, .null, .int 0, .int 0, .int 0, .int 0, .int 0, .int 0, .long 0])), (q7, .inl ((ka 1), 32, .inl (fun _ => 0))), (q15, .inl ((ka 1), 32, .inl (fun _ => 0)))]) H := hP
  have hD : va_D A ([(t, .inr (1, [.ref q7, .ref q15, .null, .int 0, .int 0, .int 0, .int 0, .int 0, .int 0, .long 0])), (q7, .inl ((ka 1), 32, .inl (fun _ => 0))), (q15, .inl ((ka 1), 32, .inl (fun _ => 0)))]) := hD
  refine lv_aload_n hx hb d_Tr_init_20 rfl (lv_at hl 0 rfl) ?_
  refine lv_bipush (v := 32) hx hb d_Tr_init_21 (by decide) ?_
  refine my_newa (ty := .long) (a0 := (32, .inr (.inl (fun _ => 0)))) hx hb (hts _ (List.mem_cons_of_mem _ mw_1_33)) rfl hK 0 (cA0 := ka 0) rfl hP hD hS hA (fun _ => rfl) (k := 32) (by decide) (by decide) (Nat.le_of_ble_eq_true rfl) (Nat.le_of_ble_eq_true rfl) d_Tr_init_23 (fun q23 H hP hD hS => ?_)
  have hP : va_P D classes ([(t, .inr (1, [.ref q7, .ref q15, .null, .int 0, .int 0, .int 0, .int 0, .int 0, .int 0, .long 0])), (q7, .inl ((ka 1), 32, .inl (fun _ => 0))), (q15, .inl ((ka 1), 32, .inl (fun _ => 0))), (q23, .inl ((ka 0), 32, .inr (.inl (fun _ => 0))))]) H := hP
  have hD : va_D A ([(t, .inr (1, [.ref q7, .ref q15, .null, .int 0, .int 0, .int 0, .int 0, .int 0, .int 0, .long 0])), (q7, .inl ((ka 1), 32, .inl (fun _ => 0))), (q15, .inl ((ka 1), 32, .inl (fun _ => 0))), (q23, .inl ((ka 0), 32, .inr (.inl (fun _ => 0))))]) := hD
  refine W.widen (k := 3) (n := 96) (by omega) (by omega) ?_
  refine va_putF (D := D) (ci := 1) (v := .ref q23) (ty := .array .long) (C := "VersionedBlock$Transaction") (T := T_Tr) (N := 10) hx hb hts (fun w h => List.mem_cons_of_mem _ (il_Tr w h)) t_Tr t_Tr_ok n_Tr hown hK hP hD hS 0 rfl rfl 2 (by decide) (hts _ (List.mem_cons_of_mem _ mw_1_93)) (fun _ h9 => h9) rfl hin rfl (by decide +kernel) rfl rfl (Nat.le_of_ble_eq_true rfl) d_Tr_init_25 (fun H locs hP hD hS => ?_)
  have hP : va_P D classes ([(t, .inr (1, [.ref q7, .ref q15, .ref q23, .int 0, .int 0, .int 0, .int 0, .int 0, .int 0, .long 0])), (q7, .inl ((ka 1), 32, .inl (fun _ => 0))), (q15, .inl ((ka 1), 32, .inl (fun _ => 0))), (q23, .inl ((ka 0), 32, .inr (.inl (fun _ => 0))))]) H := hP
  have hD : va_D A ([(t, .inr (1, [.ref q7, .ref q15, .ref q23, .int 0, .int 0, .int 0, .int 0, .int 0, .int 0, .long 0])), (q7, .inl ((ka 1), 32, .inl (fun _ => 0))), (q15, .inl ((ka 1), 32, .inl (fun _ => 0))), (q23, .inl ((ka 0), 32, .inr (.inl (fun _ => 0))))]) := hD
  have hP9 := hP.sub (ws' := [(t, .inr (1, [.ref q7, .ref q15, .ref q23, .int (nI 0), .int 0, .int 0, .int 0, .int 0, .int 0, .long 0])), (q7, .inl ((ka 1), 32, .inl (fun _ => 0))), (q15, .inl ((ka 1), 32, .inl (fun _ => 0))), (q23, .inl ((ka 0), 32, .inr (.inl (fun _ => 0))))]) [0, 1, 2, 3] rfl
  have hD9 := hD.sub (ws' := [(t, .inr (1, [.ref q7, .ref q15, .ref q23, .int (nI 0), .int 0, .int 0, .int 0, .int 0, .int 0, .long 0])), (q7, .inl ((ka 1), 32, .inl (fun _ => 0))), (q15, .inl ((ka 1), 32, .inl (fun _ => 0))), (q23, .inl ((ka 0), 32, .inr (.inl (fun _ => 0))))]) [0, 1, 2, 3] (by decide) rfl
  exact W.vret hx hb hr (fun t9 ht hW => ⟨⟨(), rfl, trivial, q7, q15, q23, trivial, by rw [ht]; exact hP9, hD9⟩, hS.F ht⟩) hS.2.2 d_Tr_init_28
