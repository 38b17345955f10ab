set_option maxHeartbeats 4000000 in
set_option maxRecDepth 100000 in
theorem c_We_length (l : Launch) (D : va_G) (ka : Nat → ClassId) (wv wd wl : Nat)  : Met l y_We_length w_We_length ({ frames := 0, cells := 0, slots := 0, locals := 0 }) (pR classes (tyS ka) D [.ref wv] ([(wv, .inr (2, [.ref wd, .int (nI wl)]))])) (vp_Si (fun r => r = (nI wl))) 0 0 (fun _ => False) := by
  refine Met.ofW (cc := b_We_length) (maxL := 1) (ret := (some .int)) (by decide) rfl ?_
  intro pP eE sS mM args below meth cC s1 B hml hv
  obtain ⟨rfl, hP, hK, hN⟩ := hv
  have hx := B.exec
  have hb := B.bytes
  have hr := B.returns
  have hts := atoms_spec (ws := w_We_length) B.pre
  have hown : sS.vm.findClass "VersionedBlock$Weave" = some mM.cls := findClass_of_methodNamed B.named
  have hlocks := B.notSynchronized
  have hl := lv_entry ([.ref wv]) (n := 1) (Nat.le_of_ble_eq_true rfl)
  rw [lg_entry_eq]
  generalize (lg_sl ([.ref wv]) ++ List.replicate (1 - (lg_sl ([.ref wv])).length) Slot.unset).toArray = ls at hl ⊢
  have hl : lv_has ls 1 [(0, .ref wv)] := hl
  refine lv_aload_n hx hb d_We_length_0 rfl (lv_at hl 0 rfl) ?_
  refine va_get (D := D) (ci := 2) (v := .int (nI wl)) (C := "VersionedBlock$Weave") (T := T_We) (N := 2) hx hb hts (fun w h => List.mem_cons_of_mem _ (il_We w h)) hown hK hP 0 rfl rfl 1 (by decide) (hts _ (List.mem_cons_of_mem _ mw_1_27)) (fun _ h9 => h9) rfl d_We_length_1 ?_
  exact W.iret (v := (nI wl)) hx hb hr (fun t9 ht hW => ⟨(nI wl), rfl, rfl, ht⟩) (fun _ h => by cases h) d_We_length_4
set_option maxHeartbeats 4000000 in
set_option maxRecDepth 100000 in
theorem c_We_clear (l : Launch) (D : va_G) (ka : Nat → ClassId) (sz : Nat) (wv wd wl : Nat)  : Met l y_We_clear w_We_clear ({ frames := 0, cells := 0, slots := 0, locals := 0 }) (pW classes (tyS ka) D [.ref wv] ([(wv, .inr (2, [.ref wd, .int (nI wl)]))]) sz) (va_Qi (fun (r : Int32) (_ : Unit) => r = (nI wl)) (fun (_ : Unit) t9 => (True) ∧ va_P D classes ([(wv, .inr (2, [.ref wd, .int (nI 0)]))]) t9.heap ∧ va_D (va_A ([(wv, .inr (2, [.ref wd, .int (nI wl)]))]) sz) ([(wv, .inr (2, [.ref wd, .int (nI 0)]))])) (va_A ([(wv, .inr (2, [.ref wd, .int (nI wl)]))]) sz)) 0 0 (va_A ([(wv, .inr (2, [.ref wd, .int (nI wl)]))]) sz) := by
  refine Met.ofW (cc := b_We_clear) (maxL := 2) (ret := (some .int)) (by decide) rfl ?_
  intro pP eE sS mM args below meth cC s1 B hml hv
  obtain ⟨rfl, hsz, hP, hK, hN, hD0⟩ := hv
  have hx := B.exec
  have hb := B.bytes
  have hr := B.returns
  have hts := atoms_spec (ws := w_We_clear) B.pre
  have hown : sS.vm.findClass "VersionedBlock$Weave" = some mM.cls := findClass_of_methodNamed B.named
  have hlocks := B.notSynchronized
  subst hsz
  have hD := hD0.self (sz := sS.heap.size)
  generalize hAe : va_A ([(wv, .inr (2, [.ref wd, .int (nI wl)]))]) sS.heap.size = A at hD ⊢
  have hA : ∀ q : Nat, sS.heap.size ≤ q → A q := fun q h => by rw [← hAe]; exact Or.inr h
  have hS : va_S A sS.heap sS.heap [] := va_S.rf
  have hl := lv_entry ([.ref wv]) (n := 2) (Nat.le_of_ble_eq_true rfl)
  rw [lg_entry_eq]
  generalize (lg_sl ([.ref wv]) ++ List.replicate (2 - (lg_sl ([.ref wv])).length) Slot.unset).toArray = ls at hl ⊢
  have hl : lv_has ls 2 [(0, .ref wv)] := hl
  refine lv_aload_n hx hb d_We_clear_0 rfl (lv_at hl 0 rfl) ?_
  refine va_get (D := D) (ci := 2) (v := .int (nI wl)) (C := "VersionedBlock$Weave") (T := T_We) (N := 2) hx hb hts (fun w h => List.mem_cons_of_mem _ (il_We w h)) hown hK hP 0 rfl rfl 1 (by decide) (hts _ (List.mem_cons_of_mem _ mw_1_27)) (fun _ h9 => h9) rfl d_We_clear_1 ?_
  refine lv_istore_n (lv' := [(1, .int (nI wl)), (0, .ref wv)]) hx hb d_We_clear_4 rfl hl (by decide) rfl (fun ls hl => ?_)
  refine lv_aload_n hx hb d_We_clear_5 rfl (lv_at hl 1 rfl) ?_
  refine lv_iconst (v := (nI 0)) hx hb d_We_clear_6 (by decide) ?_
  refine va_put (D := D) (ci := 2) (v := .int (nI 0)) (ty := .int) (C := "VersionedBlock$Weave") (T := T_We) (N := 2) hx hb hts (fun w h => List.mem_cons_of_mem _ (il_We w h)) t_We t_We_ok n_We hown hK hP hD hS 0 rfl rfl 1 (by decide) (hts _ (List.mem_cons_of_mem _ mw_1_27)) (fun _ h9 => h9) rfl (by decide +kernel) rfl rfl (Nat.le_of_ble_eq_true rfl) d_We_clear_7 (fun H locs hP hD hS => ?_)
  have hP : va_P D classes ([(wv, .inr (2, [.ref wd, .int (nI 0)]))]) H := hP
  have hD : va_D A ([(wv, .inr (2, [.ref wd, .int (nI 0)]))]) := hD
  refine lv_iload_n hx hb d_We_clear_10 rfl (lv_at hl 0 rfl) ?_
  have hP9 := hP.sub (ws' := [(wv, .inr (2, [.ref wd, .int (nI 0)]))]) [0] rfl
  have hD9 := hD.sub (ws' := [(wv, .inr (2, [.ref wd, .int (nI 0)]))]) [0] (by decide) rfl
  exact W.iret (v := (nI wl)) hx hb hr (fun t9 ht hW => ⟨⟨(nI wl), (), rfl, rfl, trivial, by rw [ht]; exact hP9, hD9⟩, hS.F ht⟩) hS.2.2 d_We_clear_11
set_option maxHeartbeats 4000000 in
set_option maxRecDepth 100000 in
theorem c_We_numberAt (l : Launch) (D : va_G) (ka : Nat → ClassId) (wv wd wl K : Nat) (wo : Nat → Int64) (i : Nat) (hi : i < wl) (hwl : wl ≤ 65536) (hK : wl ≤ 16 * K) (hK2 : K ≤ 4096) : Met l y_We_numberAt w_We_numberAt ({ frames := 0, cells := 0, slots := 0, locals := 0 }) (pR classes (tyS ka) D [.ref wv, .int (nI i)] ([(wv, .inr (2, [.ref wd, .int (nI wl)])), (wd, .inl ((ka 0), K, .inr (.inl wo)))])) (vp_Si (fun r => ∃ c : Nat, c < 16 ∧ r = nI c)) 0 0 (fun _ => False) := by
  refine Met.ofW (cc := b_We_numberAt) (maxL := 3) (ret := (some .int)) (by decide) rfl ?_
  intro pP eE sS mM args below meth cC s1 B hml hv
  obtain ⟨rfl, hP, hK, hN⟩ := hv
  have hx := B.exec
  have hb := B.bytes
  have hr := B.returns
  have hts := atoms_spec (ws := w_We_numberAt) B.pre
  have hown : sS.vm.findClass "VersionedBlock$Weave" = some mM.cls := findClass_of_methodNamed B.named
  have hlocks := B.notSynchronized
  have hl := lv_entry ([.ref wv, .int (nI i)]) (n := 3) (Nat.le_of_ble_eq_true rfl)
  rw [lg_entry_eq]
  generalize (lg_sl ([.ref wv, .int (nI i)]) ++ List.replicate (3 - (lg_sl ([.ref wv, .int (nI i)])).length) Slot.unset).toArray = ls at hl ⊢
  have hl : lv_has ls 3 [(0, .ref wv), (1, .int (nI i))] := hl
  refine lv_iload_n hx hb d_We_numberAt_0 rfl (lv_at hl 1 rfl) ?_
  refine lv_if_lt (tgt := 12) hx hb d_We_numberAt_1 (by decide) (fun c_1 => absurd c_1 (nI_pos (by omega))) (fun c_1 => ?_)
  refine lv_iload_n hx hb d_We_numberAt_4 rfl (lv_at hl 1 rfl) ?_
  refine lv_aload_n hx hb d_We_numberAt_5 rfl (lv_at hl 0 rfl) ?_
  refine va_get (D := D) (ci := 2) (v := .int (nI wl)) (C := "VersionedBlock$Weave") (T := T_We) (N := 2) hx hb hts (fun w h => List.mem_cons_of_mem _ (il_We w h)) hown hK hP 0 rfl rfl 1 (by decide) (hts _ (List.mem_cons_of_mem _ mw_1_27)) (fun _ h9 => h9) rfl d_We_numberAt_6 ?_
  refine lv_icmp_lt (tgt := 14) hx hb d_We_numberAt_9 (by decide) (fun c_9 => ?_) (fun c_9 => absurd (nI_lt hi (by omega)) c_9)
  refine lv_bipush (v := 15) hx hb d_We_numberAt_14 (by decide) ?_
  refine lv_iload_n hx hb d_We_numberAt_16 rfl (lv_at hl 1 rfl) ?_
  refine lv_bipush (v := (nI 16)) hx hb d_We_numberAt_17 (by decide) ?_
  refine lv_irem hx hb d_We_numberAt_19 (by decide) ?_
  refine lv_topi (fun v_19 ev_19 => ?_)
  obtain rfl : v_19 = nI (i % 16) := ev_19.trans (pk_rem (by omega) (by decide) (by decide))
  refine lv_isub hx hb d_We_numberAt_20 ?_
  refine lv_istore_n (lv' := [(2, .int (15 - (nI (i % 16)))), (0, .ref wv), (1, .int (nI i))]) hx hb d_We_numberAt_21 rfl hl (by decide) rfl (fun ls hl => ?_)
  refine lv_aload_n hx hb d_We_numberAt_22 rfl (lv_at hl 1 rfl) ?_
  refine va_get (D := D) (ci := 2) (v := .ref wd) (C := "VersionedBlock$Weave") (T := T_We) (N := 2) hx hb hts (fun w h => List.mem_cons_of_mem _ (il_We w h)) hown hK hP 0 rfl rfl 0 (by decide) (hts _ (List.mem_cons_of_mem _ mw_1_26)) (fun _ h9 => h9) rfl d_We_numberAt_23 ?_
  refine lv_iload_n hx hb d_We_numberAt_26 rfl (lv_at hl 2 rfl) ?_
  refine lv_bipush (v := (nI 16)) hx hb d_We_numberAt_27 (by decide) ?_
  refine lv_idiv hx hb d_We_numberAt_29 (by decide) ?_
  refine lv_topi (fun v_29 ev_29 => ?_)
  obtain rfl : v_29 = nI (i / 16) := ev_29.trans (pk_div (by omega) (by decide) (by decide))
  refine my_lald hx hb hK hP 1 0 rfl rfl (k := (i / 16)) (by omega) (by omega) d_We_numberAt_30 ?_
  refine lv_iload_n hx hb d_We_numberAt_31 rfl (lv_at hl 0 rfl) ?_
  refine lv_iconst (v := 4) hx hb d_We_numberAt_32 (by decide) ?_
  refine lv_imul hx hb d_We_numberAt_33 ?_
  refine lv_lushr (v := _) hx hb d_We_numberAt_34 rfl ?_
  refine lv_topl (fun v_34 ev_34 => ?_)
  refine lv_l2i (v := v_34.toInt32) hx hb d_We_numberAt_35 rfl ?_
  refine lv_bipush (v := 15) hx hb d_We_numberAt_36 (by decide) ?_
  refine lv_iand hx hb d_We_numberAt_38 ?_
  exact W.iret (v := (v_34.toInt32 &&& 15)) hx hb hr (fun t9 ht hW => ⟨(v_34.toInt32 &&& 15), rfl, (wv_num _), ht⟩) (fun _ h => by cases h) d_We_numberAt_39
set_option maxHeartbeats 4000000 in
set_option maxRecDepth 100000 in
theorem c_We_app_full (l : Launch) (D : va_G) (ka : Nat → ClassId) (wv wd wl : Nat) (b : Int64) (hf : 65536 < wl + 16) (hwl : wl ≤ 65536) : Met l y_We_append w_We_append ({ frames := 0, cells := 0, slots := 0, locals := 0 }) (pR classes (tyS ka) D [.ref wv, .long b] ([(wv, .inr (2, [.ref wd, .int (nI wl)]))])) (vp_Si (fun r => r = (-3))) 0 0 (fun _ => False) := by
  refine Met.ofW (cc := b_We_append) (maxL := 4) (ret := (some .int)) (by decide) rfl ?_
  intro pP eE sS mM args below meth cC s1 B hml hv
  obtain ⟨rfl, hP, hK, hN⟩ := hv
  have hx := B.exec
  have hb := B.bytes
  have hr := B.returns
  have hts := atoms_spec (ws := w_We_append) B.pre
  have hown : sS.vm.findClass "VersionedBlock$Weave" = some mM.cls := findClass_of_methodNamed B.named
  have hlocks := B.notSynchronized
  have hl := lv_entry ([.ref wv, .long b]) (n := 4) (Nat.le_of_ble_eq_true rfl)
  rw [lg_entry_eq]
  generalize (lg_sl ([.ref wv, .long b]) ++ List.replicate (4 - (lg_sl ([.ref wv, .long b])).length) Slot.unset).toArray = ls at hl ⊢
  have hl : lv_has ls 4 [(0, .ref wv), (1, .long b)] := hl
  refine lv_aload_n hx hb d_We_append_0 rfl (lv_at hl 0 rfl) ?_
  refine va_get (D := D) (ci := 2) (v := .int (nI wl)) (C := "VersionedBlock$Weave") (T := T_We) (N := 2) hx hb hts (fun w h => List.mem_cons_of_mem _ (il_We w h)) hown hK hP 0 rfl rfl 1 (by decide) (hts _ (List.mem_cons_of_mem _ mw_1_27)) (fun _ h9 => h9) rfl d_We_append_1 ?_
  refine lv_bipush (v := (nI 16)) hx hb d_We_append_4 (by decide) ?_
  refine lv_iadd hx hb d_We_append_6 ?_
  refine lv_topi (fun v_6 ev_6 => ?_)
  obtain rfl : v_6 = nI (wl + 16) := ev_6.trans (nI_add _ _)
  refine lv_ldc (own := "VersionedBlock$Weave") (index := 19) (v := 65536) hx hb hown (hts _ (List.mem_cons_of_mem _ mw_1_147)) d_We_append_7 ?_
  refine lv_icmp_le (tgt := 15) hx hb d_We_append_9 (by decide) (fun c_9 => absurd c_9 (nI_ge (a := 65536) hf (by omega))) (fun c_9 => ?_)
  refine lv_bipush (v := (-3)) hx hb d_We_append_12 (by decide) ?_
  exact W.iret (v := (-3)) hx hb hr (fun t9 ht hW => ⟨(-3), rfl, rfl, ht⟩) (fun _ h => by cases h) d_We_append_14
set_option maxHeartbeats 4000000 in
set_option maxRecDepth 100000 in
theorem c_We_app_in (l : Launch) (D : va_G) (ka : Nat → ClassId) (sz : Nat) (wv wd wl K : Nat) (wo : Nat → Int64) (b : Int64) (hf : wl + 16 ≤ 65536) (hin : wl / 16 < K) (hK2 : K ≤ 4096) : Met l y_We_append w_We_append ({ frames := 0, cells := 0, slots := 0, locals := 0 }) (pW classes (tyS ka) D [.ref wv, .long b] ([(wv, .inr (2, [.ref wd, .int (nI wl)])), (wd, .inl ((ka 0), K, .inr (.inl wo)))]) sz) (va_Qi (fun (r : Int32) (_ : Unit) => r = (nI (wl + 16))) (fun (_ : Unit) t9 => ∃ (wo' : Nat → Int64), (True) ∧ va_P D classes ([(wv, .inr (2, [.ref wd, .int (nI (wl + 16))])), (wd, .inl ((ka 0), K, .inr (.inl wo')))]) t9.heap ∧ va_D (va_A ([(wv, .inr (2, [.ref wd, .int (nI wl)])), (wd, .inl ((ka 0), K, .inr (.inl wo)))]) sz) ([(wv, .inr (2, [.ref wd, .int (nI (wl + 16))])), (wd, .inl ((ka 0), K, .inr (.inl wo')))])) (va_A ([(wv, .inr (2, [.ref wd, .int (nI wl)])), (wd, .inl ((ka 0), K, .inr (.inl wo)))]) sz)) 0 0 (va_A ([(wv, .inr (2, [.ref wd, .int (nI wl)])), (wd, .inl ((ka 0), K, .inr (.inl wo)))]) sz) := by
  refine Met.ofW (cc := b_We_append) (maxL := 4) (ret := (some .int)) (by decide) rfl ?_
  intro pP eE sS mM args below meth cC s1 B hml hv
  obtain ⟨rfl, hsz, hP, hK, hN, hD0⟩ := hv
  have hx := B.exec
  have hb := B.bytes
  have hr := B.returns
  have hts := atoms_spec (ws := w_We_append) B.pre
  have hown : sS.vm.findClass "VersionedBlock$Weave" = some mM.cls := findClass_of_methodNamed B.named
  have hlocks := B.notSynchronized
  subst hsz
  have hD := hD0.self (sz := sS.heap.size)
  generalize hAe : va_A ([(wv, .inr (2, [.ref wd, .int (nI wl)])), (wd, .inl ((ka 0), K, .inr (.inl wo)))]) sS.heap.size = A at hD ⊢
  have hA : ∀ q : Nat, sS.heap.size ≤ q → A q := fun q h => by rw [← hAe]; exact Or.inr h
  have hS : va_S A sS.heap sS.heap [] := va_S.rf
  have hl := lv_entry ([.ref wv, .long b]) (n := 4) (Nat.le_of_ble_eq_true rfl)
  rw [lg_entry_eq]
  generalize (lg_sl ([.ref wv, .long b]) ++ List.replicate (4 - (lg_sl ([.ref wv, .long b])).length) Slot.unset).toArray = ls at hl ⊢
  have hl : lv_has ls 4 [(0, .ref wv), (1, .long b)] := hl
  refine lv_aload_n hx hb d_We_append_0 rfl (lv_at hl 0 rfl) ?_
  refine va_get (D := D) (ci := 2) (v := .int (nI wl)) (C := "VersionedBlock$Weave") (T := T_We) (N := 2) hx hb hts (fun w h => List.mem_cons_of_mem _ (il_We w h)) hown hK hP 0 rfl rfl 1 (by decide) (hts _ (List.mem_cons_of_mem _ mw_1_27)) (fun _ h9 => h9) rfl d_We_append_1 ?_
  refine lv_bipush (v := (nI 16)) hx hb d_We_append_4 (by decide) ?_
  refine lv_iadd hx hb d_We_append_6 ?_
  refine lv_topi (fun v_6 ev_6 => ?_)
  obtain rfl : v_6 = nI (wl + 16) := ev_6.trans (nI_add _ _)
  refine lv_ldc (own := "VersionedBlock$Weave") (index := 19) (v := 65536) hx hb hown (hts _ (List.mem_cons_of_mem _ mw_1_147)) d_We_append_7 ?_
  refine lv_icmp_le (tgt := 15) hx hb d_We_append_9 (by decide) (fun c_9 => ?_) (fun c_9 => absurd (nI_le (b := 65536) hf (by decide)) c_9)
  refine lv_aload_n hx hb d_We_append_15 rfl (lv_at hl 0 rfl) ?_
  refine va_get (D := D) (ci := 2) (v := .int (nI wl)) (C := "VersionedBlock$Weave") (T := T_We) (N := 2) hx hb hts (fun w h => List.mem_cons_of_mem _ (il_We w h)) hown hK hP 0 rfl rfl 1 (by decide) (hts _ (List.mem_cons_of_mem _ mw_1_27)) (fun _ h9 => h9) rfl d_We_append_16 ?_
  refine lv_bipush (v := (nI 16)) hx hb d_We_append_19 (by decide) ?_
  refine lv_idiv hx hb d_We_append_21 (by decide) ?_
  refine lv_topi (fun v_21 ev_21 => ?_)
  obtain rfl : v_21 = nI (wl / 16) := ev_21.trans (pk_div (by omega) (by decide) (by decide))
  refine lv_istore_n (lv' := [(3, .int (nI (wl / 16))), (0, .ref wv), (1, .long b)]) hx hb d_We_append_22 rfl hl (by decide) rfl (fun ls hl => ?_)
  refine lv_iload_n hx hb d_We_append_23 rfl (lv_at hl 0 rfl) ?_
  refine lv_aload_n hx hb d_We_append_24 rfl (lv_at hl 1 rfl) ?_
  refine va_get (D := D) (ci := 2) (v := .ref wd) (C := "VersionedBlock$Weave") (T := T_We) (N := 2) hx hb hts (fun w h => List.mem_cons_of_mem _ (il_We w h)) hown hK hP 0 rfl rfl 0 (by decide) (hts _ (List.mem_cons_of_mem _ mw_1_26)) (fun _ h9 => h9) rfl d_We_append_25 ?_
  refine va_alen (v := nI K) hx hb hK hP 1 0 rfl rfl rfl d_We_append_28 ?_
  refine lv_icmp_lt (tgt := 50) hx hb d_We_append_29 (by decide) (fun c_29 => ?_) (fun c_29 => absurd (nI_lt hin (by omega)) c_29)
  refine lv_aload_n hx hb d_We_append_50 rfl (lv_at hl 1 rfl) ?_
  refine va_get (D := D) (ci := 2) (v := .ref wd) (C := "VersionedBlock$Weave") (T := T_We) (N := 2) hx hb hts (fun w h => List.mem_cons_of_mem _ (il_We w h)) hown hK hP 0 rfl rfl 0 (by decide) (hts _ (List.mem_cons_of_mem _ mw_1_26)) (fun _ h9 => h9) rfl d_We_append_51 ?_
  refine lv_iload_n hx hb d_We_append_54 rfl (lv_at hl 0 rfl) ?_
  refine lv_lload_n hx hb d_We_append_55 rfl (lv_at hl 2 rfl) ?_
  refine my_last hx hb hK hP hD hS 1 0 rfl rfl (k := (wl / 16)) hin (by omega) d_We_append_56 (fun H locs hP hD hS => ?_)
  have hP : va_P D classes ([(wv, .inr (2, [.ref wd, .int (nI wl)])), (wd, .inl ((ka 0), K, .inr (.inl (vp_updL wo (wl / 16) b))))]) H := hP
  have hD : va_D A ([(wv, .inr (2, [.ref wd, .int (nI wl)])), (wd, .inl ((ka 0), K, .inr (.inl (vp_updL wo (wl / 16) b))))]) := hD
  refine lv_aload_n hx hb d_We_append_57 rfl (lv_at hl 1 rfl) ?_
  refine lv_dup hx hb d_We_append_58 rfl ?_
  refine va_get (D := D) (ci := 2) (v := .int (nI wl)) (C := "VersionedBlock$Weave") (T := T_We) (N := 2) hx hb hts (fun w h => List.mem_cons_of_mem _ (il_We w h)) hown hK hP 0 rfl rfl 1 (by decide) (hts _ (List.mem_cons_of_mem _ mw_1_27)) (fun _ h9 => h9) rfl d_We_append_59 ?_
  refine lv_bipush (v := (nI 16)) hx hb d_We_append_62 (by decide) ?_
  refine lv_iadd hx hb d_We_append_64 ?_
  refine lv_topi (fun v_64 ev_64 => ?_)
  obtain rfl : v_64 = nI (wl + 16) := ev_64.trans (nI_add _ _)
  refine va_put (D := D) (ci := 2) (v := .int (nI (wl + 16))) (ty := .int) (C := "VersionedBlock$Weave") (T := T_We) (N := 2) hx hb hts (fun w h => List.mem_cons_of_mem _ (il_We w h)) t_We t_We_ok n_We hown hK hP hD hS 0 rfl rfl 1 (by decide) (hts _ (List.mem_cons_of_mem _ mw_1_27)) (fun _ h9 => h9) rfl (by decide +kernel) rfl rfl (Nat.le_of_ble_eq_true rfl) d_We_append_65 (fun H locs hP hD hS => ?_)
  have hP : va_P D classes ([(wv, .inr (2, [.ref wd, .int (nI (wl + 16))])), (wd, .inl ((ka 0), K, .inr (.inl (vp_updL wo (wl / 16) b))))]) H := hP
  have hD : va_D A ([(wv, .inr (2, [.ref wd, .int (nI (wl + 16))])), (wd, .inl ((ka 0), K, .inr (.inl (vp_updL wo (wl / 16) b))))]) := hD
  refine lv_aload_n hx hb d_We_append_68 rfl (lv_at hl 1 rfl) ?_
  refine va_get (D := D) (ci := 2) (v := .int (nI (wl + 16))) (C := "VersionedBlock$Weave") (T := T_We) (N := 2) hx hb hts (fun w h => List.mem_cons_of_mem _ (il_We w h)) hown hK hP 0 rfl rfl 1 (by decide) (hts _ (List.mem_cons_of_mem _ mw_1_27)) (fun _ h9 => h9) rfl d_We_append_69 ?_
  have hP9 := hP.sub (ws' := [(wv, .inr (2, [.ref wd, .int (nI (wl + 16))])), (wd, .inl ((ka 0), K, .inr (.inl (vp_updL wo (wl / 16) b))))]) [0, 1] rfl
  have hD9 := hD.sub (ws' := [(wv, .inr (2, [.ref wd, .int (nI (wl + 16))])), (wd, .inl ((ka 0), K, .inr (.inl (vp_updL wo (wl / 16) b))))]) [0, 1] (by decide) rfl
  exact W.iret (v := (nI (wl + 16))) hx hb hr (fun t9 ht hW => ⟨⟨(nI (wl + 16)), (), rfl, rfl, (vp_updL wo (wl / 16) b), trivial, by rw [ht]; exact hP9, hD9⟩, hS.F ht⟩) hS.2.2 d_We_append_72
set_option maxHeartbeats 4000000 in
set_option maxRecDepth 100000 in
theorem c_We_app_grow (l : Launch) (D : va_G) (ka : Nat → ClassId) (sz : Nat) (wv wd wl K : Nat) (wo : Nat → Int64) (b : Int64) (hf : wl + 16 ≤ 65536) (hgr : K ≤ wl / 16) (hgr2 : wl ≤ 16 * K) (hK8 : 8 ≤ K) (hK2 : 2 * K ≤ 4096) : Met l y_We_append w_We_append ({ frames := 2, cells := 1, slots := 4096, locals := 82 }) (pW classes (tyS ka) D [.ref wv, .long b] ([(wv, .inr (2, [.ref wd, .int (nI wl)])), (wd, .inl ((ka 0), K, .inr (.inl wo)))]) sz) (va_Qi (fun (r : Int32) (_ : Unit) => r = (nI (wl + 16))) (fun (_ : Unit) t9 => ∃ (wd' : Nat) (wo' : Nat → Int64), (True) ∧ va_P D classes ([(wv, .inr (2, [.ref wd', .int (nI (wl + 16))])), (wd', .inl ((ka 0), 2 * K, .inr (.inl wo')))]) t9.heap ∧ va_D (va_A ([(wv, .inr (2, [.ref wd, .int (nI wl)])), (wd, .inl ((ka 0), K, .inr (.inl wo)))]) sz) ([(wv, .inr (2, [.ref wd', .int (nI (wl + 16))])), (wd', .inl ((ka 0), 2 * K, .inr (.inl wo')))])) (va_A ([(wv, .inr (2, [.ref wd, .int (nI wl)])), (wd, .inl ((ka 0), K, .inr (.inl wo)))]) sz)) 1 4096 (va_A ([(wv, .inr (2, [.ref wd, .int (nI wl)])), (wd, .inl ((ka 0), K, .inr (.inl wo)))]) sz) := by
  refine Met.ofW (cc := b_We_append) (maxL := 4) (ret := (some .int)) (by decide) rfl ?_
  intro pP eE sS mM args below meth cC s1 B hml hv
  obtain ⟨rfl, hsz, hP, hK, hN, hD0⟩ := hv
  have hx := B.exec
  have hb := B.bytes
  have hr := B.returns
  have hts := atoms_spec (ws := w_We_append) B.pre
  have hown : sS.vm.findClass "VersionedBlock$Weave" = some mM.cls := findClass_of_methodNamed B.named
  have hlocks := B.notSynchronized
  subst hsz
  have hD := hD0.self (sz := sS.heap.size)
  generalize hAe : va_A ([(wv, .inr (2, [.ref wd, .int (nI wl)])), (wd, .inl ((ka 0), K, .inr (.inl wo)))]) sS.heap.size = A at hD ⊢
  have hA : ∀ q : Nat, sS.heap.size ≤ q → A q := fun q h => by rw [← hAe]; exact Or.inr h
  have hS : va_S A sS.heap sS.heap [] := va_S.rf
  have hl := lv_entry ([.ref wv, .long b]) (n := 4) (Nat.le_of_ble_eq_true rfl)
  rw [lg_entry_eq]
  generalize (lg_sl ([.ref wv, .long b]) ++ List.replicate (4 - (lg_sl ([.ref wv, .long b])).length) Slot.unset).toArray = ls at hl ⊢
  have hl : lv_has ls 4 [(0, .ref wv), (1, .long b)] := hl
  refine lv_aload_n hx hb d_We_append_0 rfl (lv_at hl 0 rfl) ?_
  refine va_get (D := D) (ci := 2) (v := .int (nI wl)) (C := "VersionedBlock$Weave") (T := T_We) (N := 2) hx hb hts (fun w h => List.mem_cons_of_mem _ (il_We w h)) hown hK hP 0 rfl rfl 1 (by decide) (hts _ (List.mem_cons_of_mem _ mw_1_27)) (fun _ h9 => h9) rfl d_We_append_1 ?_
  refine lv_bipush (v := (nI 16)) hx hb d_We_append_4 (by decide) ?_
  refine lv_iadd hx hb d_We_append_6 ?_
  refine lv_topi (fun v_6 ev_6 => ?_)
  obtain rfl : v_6 = nI (wl + 16) := ev_6.trans (nI_add _ _)
  refine lv_ldc (own := "VersionedBlock$Weave") (index := 19) (v := 65536) hx hb hown (hts _ (List.mem_cons_of_mem _ mw_1_147)) d_We_append_7 ?_
  refine lv_icmp_le (tgt := 15) hx hb d_We_append_9 (by decide) (fun c_9 => ?_) (fun c_9 => absurd (nI_le (b := 65536) hf (by decide)) c_9)
  refine lv_aload_n hx hb d_We_append_15 rfl (lv_at hl 0 rfl) ?_
  refine va_get (D := D) (ci := 2) (v := .int (nI wl)) (C := "VersionedBlock$Weave") (T := T_We) (N := 2) hx hb hts (fun w h => List.mem_cons_of_mem _ (il_We w h)) hown hK hP 0 rfl rfl 1 (by decide) (hts _ (List.mem_cons_of_mem _ mw_1_27)) (fun _ h9 => h9) rfl d_We_append_16 ?_
  refine lv_bipush (v := (nI 16)) hx hb d_We_append_19 (by decide) ?_
  refine lv_idiv hx hb d_We_append_21 (by decide) ?_
  refine lv_topi (fun v_21 ev_21 => ?_)
  obtain rfl : v_21 = nI (wl / 16) := ev_21.trans (pk_div (by omega) (by decide) (by decide))
  refine lv_istore_n (lv' := [(3, .int (nI (wl / 16))), (0, .ref wv), (1, .long b)]) hx hb d_We_append_22 rfl hl (by decide) rfl (fun ls hl => ?_)
  refine lv_iload_n hx hb d_We_append_23 rfl (lv_at hl 0 rfl) ?_
  refine lv_aload_n hx hb d_We_append_24 rfl (lv_at hl 1 rfl) ?_
  refine va_get (D := D) (ci := 2) (v := .ref wd) (C := "VersionedBlock$Weave") (T := T_We) (N := 2) hx hb hts (fun w h => List.mem_cons_of_mem _ (il_We w h)) hown hK hP 0 rfl rfl 0 (by decide) (hts _ (List.mem_cons_of_mem _ mw_1_26)) (fun _ h9 => h9) rfl d_We_append_25 ?_
  refine va_alen (v := nI K) hx hb hK hP 1 0 rfl rfl rfl d_We_append_28 ?_
  refine lv_icmp_lt (tgt := 50) hx hb d_We_append_29 (by decide) (fun c_29 => absurd c_29 (nI_nlt hgr (by omega))) (fun c_29 => ?_)
  refine lv_aload_n hx hb d_We_append_32 rfl (lv_at hl 1 rfl) ?_
  refine lv_aload_n hx hb d_We_append_33 rfl (lv_at hl 1 rfl) ?_
  refine va_get (D := D) (ci := 2) (v := .ref wd) (C := "VersionedBlock$Weave") (T := T_We) (N := 2) hx hb hts (fun w h => List.mem_cons_of_mem _ (il_We w h)) hown hK hP 0 rfl rfl 0 (by decide) (hts _ (List.mem_cons_of_mem _ mw_1_26)) (fun _ h9 => h9) rfl d_We_append_34 ?_
  refine lv_iconst (v := (nI 2)) hx hb d_We_append_37 (by decide) ?_
  refine lv_aload_n hx hb d_We_append_38 rfl (lv_at hl 1 rfl) ?_
  refine va_get (D := D) (ci := 2) (v := .ref wd) (C := "VersionedBlock$Weave") (T := T_We) (N := 2) hx hb hts (fun w h => List.mem_cons_of_mem _ (il_We w h)) hown hK hP 0 rfl rfl 0 (by decide) (hts _ (List.mem_cons_of_mem _ mw_1_26)) (fun _ h9 => h9) rfl d_We_append_39 ?_
  refine va_alen (v := nI K) hx hb hK hP 1 0 rfl rfl rfl d_We_append_42 ?_
  refine lv_imul hx hb d_We_append_43 ?_
  refine lv_topi (fun v_43 ev_43 => ?_)
  obtain rfl : v_43 = nI (2 * K) := ev_43.trans (pk_mul _ _)
  have hPc := hP.sub (ws' := [(wd, .inl ((ka 0), K, .inr (.inl wo)))]) [1] rfl
  have hDc := hD.sub (ws' := [(wd, .inl ((ka 0), K, .inr (.inl wo)))]) [1] (by decide) rfl
  have hFc := va_free (wc := [(wd, .inl ((ka 0), K, .inr (.inl wo)))]) hD hS hA [1] rfl
  refine va_callr (va_runS (As := [.ref wd, .int (nI (2 * K))]) (rest := [.ref wv]) ⟨hx, hb, hml, hown, hts⟩ (c_copyOf l D ka sS.heap.size wd K (2 * K) wo (by omega) (by omega)) ⟨callB_of 2 hts (gd_tb mw_1_150) rfl rfl rfl (hts _ (List.mem_cons_of_mem _ mw_1_6)) (hts _ (List.mem_cons_of_mem _ mw_1_148)) (by decide +kernel) ⟨Nat.le_of_ble_eq_true rfl, Nat.le_of_ble_eq_true rfl⟩, (hts _ (List.mem_cons_of_mem _ mw_1_149))⟩ ⟨pW_blind, pW_pre hK hN hPc hDc⟩ rfl rfl hl.1 rfl (lv_room (Nat.le_of_ble_eq_true rfl)) d_We_append_44 ⟨Nat.le_of_ble_eq_true rfl, Nat.le_of_ble_eq_true rfl⟩) hS (fun q _ h => hFc q h) hFc (fun u9 w2 t9 H1 locs ht hvm hr_44 hB hz1 hk1 hS => ?_)
  obtain ⟨g, hrel_44, hP1, hD1⟩ := hB
  rw [ht] at hP1
  obtain ⟨hP, hD⟩ := va_join (wr := [(wv, .inr (2, [.ref wd, .int (nI wl)]))]) (w1 := [(wd, .inl ((ka 0), K, .inr (.inl wo))), (w2, .inl ((ka 0), (2 * K), .inr (.inl g)))]) hP hD [1] [0] rfl rfl (by decide) (by decide) hk1 hFc hP1 hD1
  generalize H1 = H at hP hS ⊢
  refine W.widen (k := 1) (n := 4096) (by omega) (by omega) ?_
  have hP : va_P D classes ([(wv, .inr (2, [.ref wd, .int (nI wl)])), (wd, .inl ((ka 0), K, .inr (.inl wo))), (w2, .inl ((ka 0), (2 * K), .inr (.inl g)))]) H := hP
  have hD : va_D A ([(wv, .inr (2, [.ref wd, .int (nI wl)])), (wd, .inl ((ka 0), K, .inr (.inl wo))), (w2, .inl ((ka 0), (2 * K), .inr (.inl g)))]) := hD
  refine va_put (D := D) (ci := 2) (v := .ref w2) (ty := .array .long) (C := "VersionedBlock$Weave") (T := T_We) (N := 2) hx hb hts (fun w h => List.mem_cons_of_mem _ (il_We w h)) t_We t_We_ok n_We hown hK hP hD hS 0 rfl rfl 0 (by decide) (hts _ (List.mem_cons_of_mem _ mw_1_26)) (fun _ h9 => h9) rfl (by decide +kernel) rfl rfl (Nat.le_of_ble_eq_true rfl) d_We_append_47 (fun H locs hP hD hS => ?_)
  have hP : va_P D classes ([(wv, .inr (2, [.ref w2, .int (nI wl)])), (wd, .inl ((ka 0), K, .inr (.inl wo))), (w2, .inl ((ka 0), (2 * K), .inr (.inl g)))]) H := hP
  have hD : va_D A ([(wv, .inr (2, [.ref w2, .int (nI wl)])), (wd, .inl ((ka 0), K, .inr (.inl wo))), (w2, .inl ((ka 0), (2 * K), .inr (.inl g)))]) := hD
  refine lv_aload_n hx hb d_We_append_50 rfl (lv_at hl 1 rfl) ?_
  refine va_get (D := D) (ci := 2) (v := .ref w2) (C := "VersionedBlock$Weave") (T := T_We) (N := 2) hx hb hts (fun w h => List.mem_cons_of_mem _ (il_We w h)) hown hK hP 0 rfl rfl 0 (by decide) (hts _ (List.mem_cons_of_mem _ mw_1_26)) (fun _ h9 => h9) rfl d_We_append_51 ?_
  refine lv_iload_n hx hb d_We_append_54 rfl (lv_at hl 0 rfl) ?_
  refine lv_lload_n hx hb d_We_append_55 rfl (lv_at hl 2 rfl) ?_
  refine my_last hx hb hK hP hD hS 2 0 rfl rfl (k := (wl / 16)) (by omega) (by omega) d_We_append_56 (fun H locs hP hD hS => ?_)
  have hP : va_P D classes ([(wv, .inr (2, [.ref w2, .int (nI wl)])), (wd, .inl ((ka 0), K, .inr (.inl wo))), (w2, .inl ((ka 0), (2 * K), .inr (.inl (vp_updL g (wl / 16) b))))]) H := hP
  have hD : va_D A ([(wv, .inr (2, [.ref w2, .int (nI wl)])), (wd, .inl ((ka 0), K, .inr (.inl wo))), (w2, .inl ((ka 0), (2 * K), .inr (.inl (vp_updL g (wl / 16) b))))]) := hD
  refine lv_aload_n hx hb d_We_append_57 rfl (lv_at hl 1 rfl) ?_
  refine lv_dup hx hb d_We_append_58 rfl ?_
  refine va_get (D := D) (ci := 2) (v := .int (nI wl)) (C := "VersionedBlock$Weave") (T := T_We) (N := 2) hx hb hts (fun w h => List.mem_cons_of_mem _ (il_We w h)) hown hK hP 0 rfl rfl 1 (by decide) (hts _ (List.mem_cons_of_mem _ mw_1_27)) (fun _ h9 => h9) rfl d_We_append_59 ?_
  refine lv_bipush (v := (nI 16)) hx hb d_We_append_62 (by decide) ?_
  refine lv_iadd hx hb d_We_append_64 ?_
  refine lv_topi (fun v_64 ev_64 => ?_)
  obtain rfl : v_64 = nI (wl + 16) := ev_64.trans (nI_add _ _)
  refine va_put (D := D) (ci := 2) (v := .int (nI (wl + 16))) (ty := .int) (C := "VersionedBlock$Weave") (T := T_We) (N := 2) hx hb hts (fun w h => List.mem_cons_of_mem _ (il_We w h)) t_We t_We_ok n_We hown hK hP hD hS 0 rfl rfl 1 (by decide) (hts _ (List.mem_cons_of_mem _ mw_1_27)) (fun _ h9 => h9) rfl (by decide +kernel) rfl rfl (Nat.le_of_ble_eq_true rfl) d_We_append_65 (fun H locs hP hD hS => ?_)
  have hP : va_P D classes ([(wv, .inr (2, [.ref w2, .int (nI (wl + 16))])), (wd, .inl ((ka 0), K, .inr (.inl wo))), (w2, .inl ((ka 0), (2 * K), .inr (.inl (vp_updL g (wl / 16) b))))]) H := hP
  have hD : va_D A ([(wv, .inr (2, [.ref w2, .int (nI (wl + 16))])), (wd, .inl ((ka 0), K, .inr (.inl wo))), (w2, .inl ((ka 0), (2 * K), .inr (.inl (vp_updL g (wl / 16) b))))]) := hD
  refine lv_aload_n hx hb d_We_append_68 rfl (lv_at hl 1 rfl) ?_
  refine va_get (D := D) (ci := 2) (v := .int (nI (wl + 16))) (C := "VersionedBlock$Weave") (T := T_We) (N := 2) hx hb hts (fun w h => List.mem_cons_of_mem _ (il_We w h)) hown hK hP 0 rfl rfl 1 (by decide) (hts _ (List.mem_cons_of_mem _ mw_1_27)) (fun _ h9 => h9) rfl d_We_append_69 ?_
  have hP9 := hP.sub (ws' := [(wv, .inr (2, [.ref w2, .int (nI (wl + 16))])), (w2, .inl ((ka 0), 2 * K, .inr (.inl (vp_updL g (wl / 16) b))))]) [0, 2] rfl
  have hD9 := hD.sub (ws' := [(wv, .inr (2, [.ref w2, .int (nI (wl + 16))])), (w2, .inl ((ka 0), 2 * K, .inr (.inl (vp_updL g (wl / 16) b))))]) [0, 2] (by decide) rfl
  exact W.iret (v := (nI (wl + 16))) hx hb hr (fun t9 ht hW => ⟨⟨(nI (wl + 16)), (), rfl, rfl, w2, (vp_updL g (wl / 16) b), trivial, by rw [ht]; exact hP9, hD9⟩, hS.F ht⟩) hS.2.2 d_We_append_72
set_option maxHeartbeats 4000000 in
set_option maxRecDepth 100000 in
theorem c_We_init (l : Launch) (D : va_G) (ka : Nat → ClassId) (sz : Nat) (wv : Nat)  : Met l y_We_init w_We_init ({ frames := 1, cells := 1, slots := 8, locals := 12 }) (pW classes (tyS ka) D [.ref wv] ([(wv, .inr (2, [.null, .int 0]))]) sz) (va_Qv (fun _ : Unit => True) (fun (_ : Unit) t9 => ∃ (wd : Nat), (True) ∧ va_P D classes ([(wv, .inr (2, [.ref wd, .int (nI 0)])), (wd, .inl ((ka 0), 8, .inr (.inl (fun _ => 0))))]) t9.heap ∧ va_D (va_A ([(wv, .inr (2, [.null, .int 0]))]) sz) ([(wv, .inr (2, [.ref wd, .int (nI 0)])), (wd, .inl ((ka 0), 8, .inr (.inl (fun _ => 0))))])) (va_A ([(wv, .inr (2, [.null, .int 0]))]) sz)) 1 8 (va_A ([(wv, .inr (2, [.null, .int 0]))]) sz) := by
  refine Met.ofW (cc := b_We_init) (maxL := 1) (ret := none) (by decide) rfl ?_
  intro pP eE sS mM args below meth cC s1 B hml hv
  obtain ⟨rfl, hsz, hP, hK, hN, hD0⟩ := hv
  have hx := B.exec
  have hb := B.bytes
  have hr := B.returns
  have hts := atoms_spec (ws := w_We_init) B.pre
  have hown : sS.vm.findClass "VersionedBlock$Weave" = some mM.cls := findClass_of_methodNamed B.named
  have hlocks := B.notSynchronized
  have hin : meth.name = "<init>" := (name_of_methodNamed B.named B.method).1
  subst hsz
  have hD := hD0.self (sz := sS.heap.size)
  generalize hAe : va_A ([(wv, .inr (2, [.null, .int 0]))]) sS.heap.size = A at hD ⊢
  have hA : ∀ q : Nat, sS.heap.size ≤ q → A q := fun q h => by rw [← hAe]; exact Or.inr h
  have hS : va_S A sS.heap sS.heap [] := va_S.rf
  have hl := lv_entry ([.ref wv]) (n := 1) (Nat.le_of_ble_eq_true rfl)
  rw [lg_entry_eq]
  generalize (lg_sl ([.ref wv]) ++ List.replicate (1 - (lg_sl ([.ref wv])).length) Slot.unset).toArray = ls at hl ⊢
  have hl : lv_has ls 1 [(0, .ref wv)] := hl
  refine lv_aload_n hx hb d_We_init_0 rfl (lv_at hl 0 rfl) ?_
  refine W.objInit hx hb hown (hts _ (List.mem_cons_of_mem _ mw_1_25)) (hts _ (List.mem_cons_of_mem _ mw_1_16)) (hts _ (List.mem_cons_of_mem _ mw_1_17)) rfl (by rw [hml]; exact hl.1) rfl d_We_init_1 (Nat.le_of_ble_eq_true rfl) (Nat.le_of_ble_eq_true rfl) ?_
  refine W.eq (g2 := F0 mM 4 ls []) rfl ?_
  refine lv_aload_n hx hb d_We_init_4 rfl (lv_at hl 0 rfl) ?_
  refine lv_bipush (v := 8) hx hb d_We_init_5 (by decide) ?_
  refine my_newa (ty := .long) (a0 := (8, .inr (.inl (fun _ => 0)))) hx hb (hts _ (List.mem_cons_of_mem _ mw_1_33)) rfl hK 0 (cA0 := ka 0) rfl hP hD hS hA (fun _ => rfl) (k := 8) (by decide) (by decide) (Nat.le_of_ble_eq_true rfl) (Nat.le_of_ble_eq_true rfl) d_We_init_7 (fun q7 H hP hD hS => ?_)
  have hP : va_P D classes ([(wv, .inr (2, [.null, .int 0])), (q7, .inl ((ka 0), 8, .inr (.inl (fun _ => 0))))]) H := hP
  have hD : va_D A ([(wv, .inr (2, [.null, .int 0])), (q7, .inl ((ka 0), 8, .inr (.inl (fun _ => 0))))]) := hD
  refine W.widen (k := 1) (n := 8) (by omega) (by omega) ?_
  refine va_put (D := D) (ci := 2) (v := .ref q7) (ty := .array .long) (C := "VersionedBlock$Weave") (T := T_We) (N := 2) hx hb hts (fun w h => List.mem_cons_of_mem _ (il_We w h)) t_We t_We_ok n_We hown hK hP hD hS 0 rfl rfl 0 (by decide) (hts _ (List.mem_cons_of_mem _ mw_1_26)) (fun _ h9 => h9) rfl (by decide +kernel) rfl rfl (Nat.le_of_ble_eq_true rfl) d_We_init_9 (fun H locs hP hD hS => ?_)
  have hP : va_P D classes ([(wv, .inr (2, [.ref q7, .int 0])), (q7, .inl ((ka 0), 8, .inr (.inl (fun _ => 0))))]) H := hP
  have hD : va_D A ([(wv, .inr (2, [.ref q7, .int 0])), (q7, .inl ((ka 0), 8, .inr (.inl (fun _ => 0))))]) := hD
  have hP9 := hP.sub (ws' := [(wv, .inr (2, [.ref q7, .int (nI 0)])), (q7, .inl ((ka 0), 8, .inr (.inl (fun _ => 0))))]) [0, 1] rfl
  have hD9 := hD.sub (ws' := [(wv, .inr (2, [.ref q7, .int (nI 0)])), (q7, .inl ((ka 0), 8, .inr (.inl (fun _ => 0))))]) [0, 1] (by decide) rfl
  exact W.vret hx hb hr (fun t9 ht hW => ⟨⟨(), rfl, trivial, q7, trivial, by rw [ht]; exact hP9, hD9⟩, hS.F ht⟩) hS.2.2 d_We_init_12
