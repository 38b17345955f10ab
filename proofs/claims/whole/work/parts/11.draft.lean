set_option maxHeartbeats 4000000 in
set_option maxRecDepth 100000 in
theorem c_Draft_size (l : Launch) (D : va_G) (ka : Nat → ClassId) (d n k o : Nat) (ln : Int32)  : Met l y_Dr_size w_Dr_size ({ frames := 0, cells := 0, slots := 0, locals := 0 }) (pR classes (tyS ka) D [.ref d] ([(d, .inr (0, [.ref n, .ref k, .ref o, .int ln]))])) (vp_Si (fun r => r = ln)) 0 0 (fun _ => False) := by
  refine Met.ofW (cc := b_Dr_size) (maxL := 1) (ret := (some .int)) (by decide) rfl ?_
  intro pP eE sS mM args below meth cC s1 B hml hv
  obtain ⟨rfl, hP, hK, hN⟩ := hv
  have hx := B.exec
  have hb := B.bytes
  have hr := B.returns
  have hts := atoms_spec (ws := w_Dr_size) B.pre
  have hown : sS.vm.findClass "VersionedBlock$Draft" = some mM.cls := findClass_of_methodNamed B.named
  have hlocks := B.notSynchronized
  have hl := lv_entry ([.ref d]) (n := 1) (Nat.le_of_ble_eq_true rfl)
  rw [lg_entry_eq]
  generalize (lg_sl ([.ref d]) ++ List.replicate (1 - (lg_sl ([.ref d])).length) Slot.unset).toArray = ls at hl ⊢
  have hl : lv_has ls 1 [(0, .ref d)] := hl
  refine lv_aload_n hx hb d_Dr_size_0 rfl (lv_at hl 0 rfl) ?_
  refine va_get (D := D) (ci := 0) (v := .int ln) (C := "VersionedBlock$Draft") (T := T_Dr) (N := 4) hx hb hts (fun w h => List.mem_cons_of_mem _ (il_Dr w h)) hown hK hP 0 rfl rfl 3 (by decide) (hts _ (List.mem_cons_of_mem _ mw_1_211)) (fun _ h9 => h9) rfl d_Dr_size_1 ?_
  exact W.iret (v := ln) hx hb hr (fun t9 ht hW => ⟨ln, rfl, rfl, ht⟩) (fun _ h => by cases h) d_Dr_size_4
set_option maxHeartbeats 4000000 in
set_option maxRecDepth 100000 in
theorem c_Draft_placeAt (l : Launch) (D : va_G) (ka : Nat → ClassId) (d n k o : Nat) (od : Nat → Int32) (L j : Nat) (hj : j < L) (hL : L ≤ 256) : Met l y_Dr_placeAt w_Dr_placeAt ({ frames := 0, cells := 0, slots := 0, locals := 0 }) (pR classes (tyS ka) D [.ref d, .int (nI j)] ([(d, .inr (0, [.ref n, .ref k, .ref o, .int (nI L)])), (o, .inl ((ka 1), 256, .inl od))])) (vp_Si (fun r => r = (od j))) 0 0 (fun _ => False) := by
  refine Met.ofW (cc := b_Dr_placeAt) (maxL := 2) (ret := (some .int)) (by decide) rfl ?_
  intro pP eE sS mM args below meth cC s1 B hml hv
  obtain ⟨rfl, hP, hK, hN⟩ := hv
  have hx := B.exec
  have hb := B.bytes
  have hr := B.returns
  have hts := atoms_spec (ws := w_Dr_placeAt) B.pre
  have hown : sS.vm.findClass "VersionedBlock$Draft" = some mM.cls := findClass_of_methodNamed B.named
  have hlocks := B.notSynchronized
  have hl := lv_entry ([.ref d, .int (nI j)]) (n := 2) (Nat.le_of_ble_eq_true rfl)
  rw [lg_entry_eq]
  generalize (lg_sl ([.ref d, .int (nI j)]) ++ List.replicate (2 - (lg_sl ([.ref d, .int (nI j)])).length) Slot.unset).toArray = ls at hl ⊢
  have hl : lv_has ls 2 [(0, .ref d), (1, .int (nI j))] := hl
  refine lv_iload_n hx hb d_Dr_placeAt_0 rfl (lv_at hl 1 rfl) ?_
  refine lv_if_lt (tgt := 21) hx hb d_Dr_placeAt_1 (by decide) (fun c_1 => absurd c_1 (nI_pos (by omega))) (fun c_1 => ?_)
  refine lv_iload_n hx hb d_Dr_placeAt_4 rfl (lv_at hl 1 rfl) ?_
  refine lv_aload_n hx hb d_Dr_placeAt_5 rfl (lv_at hl 0 rfl) ?_
  refine va_get (D := D) (ci := 0) (v := .int (nI L)) (C := "VersionedBlock$Draft") (T := T_Dr) (N := 4) hx hb hts (fun w h => List.mem_cons_of_mem _ (il_Dr w h)) hown hK hP 0 rfl rfl 3 (by decide) (hts _ (List.mem_cons_of_mem _ mw_1_211)) (fun _ h9 => h9) rfl d_Dr_placeAt_6 ?_
  refine lv_icmp_ge (tgt := 21) hx hb d_Dr_placeAt_9 (by decide) (fun c_9 => absurd c_9 (nI_ge hj (by omega))) (fun c_9 => ?_)
  refine lv_aload_n hx hb d_Dr_placeAt_12 rfl (lv_at hl 0 rfl) ?_
  refine va_get (D := D) (ci := 0) (v := .ref o) (C := "VersionedBlock$Draft") (T := T_Dr) (N := 4) hx hb hts (fun w h => List.mem_cons_of_mem _ (il_Dr w h)) hown hK hP 0 rfl rfl 2 (by decide) (hts _ (List.mem_cons_of_mem _ mw_1_210)) (fun _ h9 => h9) rfl d_Dr_placeAt_13 ?_
  refine lv_iload_n hx hb d_Dr_placeAt_16 rfl (lv_at hl 1 rfl) ?_
  refine my_iald hx hb hK hP 1 1 rfl rfl (k := j) (by omega) (Nat.le_of_ble_eq_true rfl) d_Dr_placeAt_17 ?_
  refine lv_goto (tgt := 22) hx hb d_Dr_placeAt_18 (by decide) ?_
  exact W.iret (v := (od j)) hx hb hr (fun t9 ht hW => ⟨(od j), rfl, rfl, ht⟩) (fun _ h => by cases h) d_Dr_placeAt_22
set_option maxHeartbeats 4000000 in
set_option maxRecDepth 100000 in
theorem c_Draft_has (l : Launch) (D : va_G) (ka : Nat → ClassId) (d n k o : Nat) (ln : Int32) (kp : Nat → Int32) (p : Nat) (hp : p < 256) (hz : kp p = 0 ∨ kp p = 1) : Met l y_Dr_has w_Dr_has ({ frames := 0, cells := 0, slots := 0, locals := 0 }) (pR classes (tyS ka) D [.ref d, .int (nI p)] ([(d, .inr (0, [.ref n, .ref k, .ref o, .int ln])), (k, .inl ((ka 2), 256, .inl kp))])) (vp_Si (fun r => r = (kp p))) 0 0 (fun _ => False) := by
  refine Met.ofW (cc := b_Dr_has) (maxL := 2) (ret := (some .boolean)) (by decide) rfl ?_
  intro pP eE sS mM args below meth cC s1 B hml hv
  obtain ⟨rfl, hP, hK, hN⟩ := hv
  have hx := B.exec
  have hb := B.bytes
  have hr := B.returns
  have hts := atoms_spec (ws := w_Dr_has) B.pre
  have hown : sS.vm.findClass "VersionedBlock$Draft" = some mM.cls := findClass_of_methodNamed B.named
  have hlocks := B.notSynchronized
  have hl := lv_entry ([.ref d, .int (nI p)]) (n := 2) (Nat.le_of_ble_eq_true rfl)
  rw [lg_entry_eq]
  generalize (lg_sl ([.ref d, .int (nI p)]) ++ List.replicate (2 - (lg_sl ([.ref d, .int (nI p)])).length) Slot.unset).toArray = ls at hl ⊢
  have hl : lv_has ls 2 [(0, .ref d), (1, .int (nI p))] := hl
  refine lv_iload_n hx hb d_Dr_has_0 rfl (lv_at hl 1 rfl) ?_
  refine lv_if_lt (tgt := 24) hx hb d_Dr_has_1 (by decide) (fun c_1 => absurd c_1 (nI_pos (by omega))) (fun c_1 => ?_)
  refine lv_iload_n hx hb d_Dr_has_4 rfl (lv_at hl 1 rfl) ?_
  refine lv_sipush (v := (nI 256)) hx hb d_Dr_has_5 (by decide) ?_
  refine lv_icmp_ge (tgt := 24) hx hb d_Dr_has_8 (by decide) (fun c_8 => absurd c_8 (nI_ge hp (by decide))) (fun c_8 => ?_)
  refine lv_aload_n hx hb d_Dr_has_11 rfl (lv_at hl 0 rfl) ?_
  refine va_get (D := D) (ci := 0) (v := .ref k) (C := "VersionedBlock$Draft") (T := T_Dr) (N := 4) hx hb hts (fun w h => List.mem_cons_of_mem _ (il_Dr w h)) hown hK hP 0 rfl rfl 1 (by decide) (hts _ (List.mem_cons_of_mem _ mw_1_209)) (fun _ h9 => h9) rfl d_Dr_has_12 ?_
  refine lv_iload_n hx hb d_Dr_has_15 rfl (lv_at hl 1 rfl) ?_
  refine my_zald hx hb hK hP 1 2 rfl rfl (k := p) hp (Nat.le_of_ble_eq_true rfl) d_Dr_has_16 ?_
  refine lv_if_eq (tgt := 24) hx hb d_Dr_has_17 (by decide) (fun c_17 => ?_) (fun c_17 => ?_)
  · refine lv_iconst (v := 0) hx hb d_Dr_has_24 (by decide) ?_
    exact W.zret (v := 0) hx hb hr rfl (fun t9 ht hW => ⟨0, rfl, c_17.symm, ht⟩) (fun _ h => by cases h) d_Dr_has_25
  · refine lv_iconst (v := 1) hx hb d_Dr_has_20 (by decide) ?_
    refine lv_goto (tgt := 25) hx hb d_Dr_has_21 (by decide) ?_
    exact W.zret (v := 1) hx hb hr rfl (fun t9 ht hW => ⟨1, rfl, (hz.resolve_left c_17).symm, ht⟩) (fun _ h => by cases h) d_Dr_has_25
set_option maxHeartbeats 4000000 in
set_option maxRecDepth 100000 in
theorem c_Draft_numberIn (l : Launch) (D : va_G) (ka : Nat → ClassId) (d n k o : Nat) (ln : Int32) (num : Nat → Int64) (p : Nat) (hp : p < 256) : Met l y_Dr_numberIn w_Dr_numberIn ({ frames := 0, cells := 0, slots := 0, locals := 0 }) (pR classes (tyS ka) D [.ref d, .int (nI p)] ([(d, .inr (0, [.ref n, .ref k, .ref o, .int ln])), (n, .inl ((ka 0), 256, .inr (.inl num)))])) (vp_Sl (fun r => r = (num p))) 0 0 (fun _ => False) := by
  refine Met.ofW (cc := b_Dr_numberIn) (maxL := 2) (ret := (some .long)) (by decide) rfl ?_
  intro pP eE sS mM args below meth cC s1 B hml hv
  obtain ⟨rfl, hP, hK, hN⟩ := hv
  have hx := B.exec
  have hb := B.bytes
  have hr := B.returns
  have hts := atoms_spec (ws := w_Dr_numberIn) B.pre
  have hown : sS.vm.findClass "VersionedBlock$Draft" = some mM.cls := findClass_of_methodNamed B.named
  have hlocks := B.notSynchronized
  have hl := lv_entry ([.ref d, .int (nI p)]) (n := 2) (Nat.le_of_ble_eq_true rfl)
  rw [lg_entry_eq]
  generalize (lg_sl ([.ref d, .int (nI p)]) ++ List.replicate (2 - (lg_sl ([.ref d, .int (nI p)])).length) Slot.unset).toArray = ls at hl ⊢
  have hl : lv_has ls 2 [(0, .ref d), (1, .int (nI p))] := hl
  refine lv_iload_n hx hb d_Dr_numberIn_0 rfl (lv_at hl 1 rfl) ?_
  refine lv_if_lt (tgt := 20) hx hb d_Dr_numberIn_1 (by decide) (fun c_1 => absurd c_1 (nI_pos (by omega))) (fun c_1 => ?_)
  refine lv_iload_n hx hb d_Dr_numberIn_4 rfl (lv_at hl 1 rfl) ?_
  refine lv_sipush (v := (nI 256)) hx hb d_Dr_numberIn_5 (by decide) ?_
  refine lv_icmp_ge (tgt := 20) hx hb d_Dr_numberIn_8 (by decide) (fun c_8 => absurd c_8 (nI_ge hp (by decide))) (fun c_8 => ?_)
  refine lv_aload_n hx hb d_Dr_numberIn_11 rfl (lv_at hl 0 rfl) ?_
  refine va_get (D := D) (ci := 0) (v := .ref n) (C := "VersionedBlock$Draft") (T := T_Dr) (N := 4) hx hb hts (fun w h => List.mem_cons_of_mem _ (il_Dr w h)) hown hK hP 0 rfl rfl 0 (by decide) (hts _ (List.mem_cons_of_mem _ mw_1_208)) (fun _ h9 => h9) rfl d_Dr_numberIn_12 ?_
  refine lv_iload_n hx hb d_Dr_numberIn_15 rfl (lv_at hl 1 rfl) ?_
  refine my_lald hx hb hK hP 1 0 rfl rfl (k := p) hp (Nat.le_of_ble_eq_true rfl) d_Dr_numberIn_16 ?_
  refine lv_goto (tgt := 21) hx hb d_Dr_numberIn_17 (by decide) ?_
  exact W.lret (v := (num p)) hx hb hr (fun t9 ht hW => ⟨(num p), rfl, rfl, ht⟩) (fun _ h => by cases h) d_Dr_numberIn_21
set_option maxHeartbeats 4000000 in
set_option maxRecDepth 100000 in
theorem c_Draft_keep (l : Launch) (D : va_G) (ka : Nat → ClassId) (sz : Nat) (d n k o : Nat) (ps : List Nat) (num : Nat → Int64) (kp od : Nat → Int32) (p : Nat) (v : Int64) (hd : dOK ps kp od) (hp : p < 256) : Met l y_Dr_keep w_Dr_keep ({ frames := 0, cells := 0, slots := 0, locals := 0 }) (pW classes (tyS ka) D [.ref d, .int (nI p), .long v] ([(d, .inr (0, [.ref n, .ref k, .ref o, .int (nI ps.length)])), (n, .inl ((ka 0), 256, .inr (.inl num))), (k, .inl ((ka 2), 256, .inl kp)), (o, .inl ((ka 1), 256, .inl od))]) sz) (va_Qv (fun _ : Unit => True) (fun (_ : Unit) t9 => ∃ (kp' od' : Nat → Int32), (dOK (dkp ps p) kp' od') ∧ va_P D classes ([(d, .inr (0, [.ref n, .ref k, .ref o, .int (nI (dkp ps p).length)])), (n, .inl ((ka 0), 256, .inr (.inl (vp_updL num p v)))), (k, .inl ((ka 2), 256, .inl kp')), (o, .inl ((ka 1), 256, .inl od'))]) t9.heap ∧ va_D (va_A ([(d, .inr (0, [.ref n, .ref k, .ref o, .int (nI ps.length)])), (n, .inl ((ka 0), 256, .inr (.inl num))), (k, .inl ((ka 2), 256, .inl kp)), (o, .inl ((ka 1), 256, .inl od))]) sz) ([(d, .inr (0, [.ref n, .ref k, .ref o, .int (nI (dkp ps p).length)])), (n, .inl ((ka 0), 256, .inr (.inl (vp_updL num p v)))), (k, .inl ((ka 2), 256, .inl kp')), (o, .inl ((ka 1), 256, .inl od'))])) (va_A ([(d, .inr (0, [.ref n, .ref k, .ref o, .int (nI ps.length)])), (n, .inl ((ka 0), 256, .inr (.inl num))), (k, .inl ((ka 2), 256, .inl kp)), (o, .inl ((ka 1), 256, .inl od))]) sz)) 0 0 (va_A ([(d, .inr (0, [.ref n, .ref k, .ref o, .int (nI ps.length)])), (n, .inl ((ka 0), 256, .inr (.inl num))), (k, .inl ((ka 2), 256, .inl kp)), (o, .inl ((ka 1), 256, .inl od))]) sz) := by
  refine Met.ofW (cc := b_Dr_keep) (maxL := 4) (ret := none) (by decide) rfl ?_
  intro pP eE sS mM args below meth cC s1 B hml hv
  obtain ⟨rfl, hsz, hP, hK, hN, hD0⟩ := hv
  have hx := B.exec
  have hb := B.bytes
  have hr := B.returns
  have hts := atoms_spec (ws := w_Dr_keep) B.pre
  have hown : sS.vm.findClass "VersionedBlock$Draft" = some mM.cls := findClass_of_methodNamed B.named
  have hlocks := B.notSynchronized
  subst hsz
  have hD := hD0.self (sz := sS.heap.size)
  generalize hAe : va_A ([(d, .inr (0, [.ref n, .ref k, .ref o, .int (nI ps.length)])), (n, .inl ((ka 0), 256, .inr (.inl num))), (k, .inl ((ka 2), 256, .inl kp)), (o, .inl ((ka 1), 256, .inl od))]) sS.heap.size = A at hD ⊢
  have hA : ∀ q : Nat, sS.heap.size ≤ q → A q := fun q h => by rw [← hAe]; exact Or.inr h
  have hS : va_S A sS.heap sS.heap [] := va_S.rf
  have hl := lv_entry ([.ref d, .int (nI p), .long v]) (n := 4) (Nat.le_of_ble_eq_true rfl)
  rw [lg_entry_eq]
  generalize (lg_sl ([.ref d, .int (nI p), .long v]) ++ List.replicate (4 - (lg_sl ([.ref d, .int (nI p), .long v])).length) Slot.unset).toArray = ls at hl ⊢
  have hl : lv_has ls 4 [(0, .ref d), (1, .int (nI p)), (2, .long v)] := hl
  refine lv_iload_n hx hb d_Dr_keep_0 rfl (lv_at hl 1 rfl) ?_
  refine lv_if_lt (tgt := 11) hx hb d_Dr_keep_1 (by decide) (fun c_1 => absurd c_1 (nI_pos (by omega))) (fun c_1 => ?_)
  refine lv_iload_n hx hb d_Dr_keep_4 rfl (lv_at hl 1 rfl) ?_
  refine lv_sipush (v := (nI 256)) hx hb d_Dr_keep_5 (by decide) ?_
  refine lv_icmp_lt (tgt := 12) hx hb d_Dr_keep_8 (by decide) (fun c_8 => ?_) (fun c_8 => absurd (nI_lt hp (by decide)) c_8)
  refine lv_aload_n hx hb d_Dr_keep_12 rfl (lv_at hl 0 rfl) ?_
  refine va_get (D := D) (ci := 0) (v := .ref k) (C := "VersionedBlock$Draft") (T := T_Dr) (N := 4) hx hb hts (fun w h => List.mem_cons_of_mem _ (il_Dr w h)) hown hK hP 0 rfl rfl 1 (by decide) (hts _ (List.mem_cons_of_mem _ mw_1_209)) (fun _ h9 => h9) rfl d_Dr_keep_13 ?_
  refine lv_iload_n hx hb d_Dr_keep_16 rfl (lv_at hl 1 rfl) ?_
  refine my_zald hx hb hK hP 2 2 rfl rfl (k := p) hp (Nat.le_of_ble_eq_true rfl) d_Dr_keep_17 ?_
  refine lv_if_ne (tgt := 58) hx hb d_Dr_keep_18 (by decide) (fun c_18 => ?_) (fun c_18 => ?_)
  · have hm : p ∈ ps := by
      by_cases hq : p ∈ ps
      · exact hq
      · exact absurd (by rw [hd.2.2.2 p hp, if_neg hq]) c_18
    have e9 : dkp ps p = ps := if_pos hm
    refine lv_aload_n hx hb d_Dr_keep_58 rfl (lv_at hl 0 rfl) ?_
    refine va_get (D := D) (ci := 0) (v := .ref n) (C := "VersionedBlock$Draft") (T := T_Dr) (N := 4) hx hb hts (fun w h => List.mem_cons_of_mem _ (il_Dr w h)) hown hK hP 0 rfl rfl 0 (by decide) (hts _ (List.mem_cons_of_mem _ mw_1_208)) (fun _ h9 => h9) rfl d_Dr_keep_59 ?_
    refine lv_iload_n hx hb d_Dr_keep_62 rfl (lv_at hl 1 rfl) ?_
    refine lv_lload_n hx hb d_Dr_keep_63 rfl (lv_at hl 2 rfl) ?_
    refine my_last hx hb hK hP hD hS 1 0 rfl rfl (k := p) hp (Nat.le_of_ble_eq_true rfl) d_Dr_keep_64 (fun H locs hP hD hS => ?_)
    have hP : va_P D classes ([(d, .inr (0, [.ref n, .ref k, .ref o, .int (nI ps.length)])), (n, .inl ((ka 0), 256, .inr (.inl (vp_updL num p v)))), (k, .inl ((ka 2), 256, .inl kp)), (o, .inl ((ka 1), 256, .inl od))]) H := hP
    have hD : va_D A ([(d, .inr (0, [.ref n, .ref k, .ref o, .int (nI ps.length)])), (n, .inl ((ka 0), 256, .inr (.inl (vp_updL num p v)))), (k, .inl ((ka 2), 256, .inl kp)), (o, .inl ((ka 1), 256, .inl od))]) := hD
    have hP9 := hP.sub (ws' := [(d, .inr (0, [.ref n, .ref k, .ref o, .int (nI (dkp ps p).length)])), (n, .inl ((ka 0), 256, .inr (.inl (vp_updL num p v)))), (k, .inl ((ka 2), 256, .inl kp)), (o, .inl ((ka 1), 256, .inl od))]) [0, 1, 2, 3] (by rw [e9]; rfl)
    have hD9 := hD.sub (ws' := [(d, .inr (0, [.ref n, .ref k, .ref o, .int (nI (dkp ps p).length)])), (n, .inl ((ka 0), 256, .inr (.inl (vp_updL num p v)))), (k, .inl ((ka 2), 256, .inl kp)), (o, .inl ((ka 1), 256, .inl od))]) [0, 1, 2, 3] (by decide) (by rw [e9]; rfl)
    exact W.vret hx hb hr (fun t9 ht hW => ⟨⟨(), rfl, trivial, kp, od, (by rw [e9]; exact hd), by rw [ht]; exact hP9, hD9⟩, hS.F ht⟩) hS.2.2 d_Dr_keep_65
  · have hm : p ∉ ps := fun hq => by rw [hd.2.2.2 p hp, if_pos hq] at c_18; exact absurd c_18 (by decide)
    have e9 : dkp ps p = ps ++ [p] := if_neg hm
    have hlen : ps.length < 256 := dOK_lt hd hp hm
    refine lv_aload_n hx hb d_Dr_keep_21 rfl (lv_at hl 0 rfl) ?_
    refine va_get (D := D) (ci := 0) (v := .int (nI ps.length)) (C := "VersionedBlock$Draft") (T := T_Dr) (N := 4) hx hb hts (fun w h => List.mem_cons_of_mem _ (il_Dr w h)) hown hK hP 0 rfl rfl 3 (by decide) (hts _ (List.mem_cons_of_mem _ mw_1_211)) (fun _ h9 => h9) rfl d_Dr_keep_22 ?_
    refine lv_sipush (v := (nI 256)) hx hb d_Dr_keep_25 (by decide) ?_
    refine lv_icmp_ge (tgt := 58) hx hb d_Dr_keep_28 (by decide) (fun c_28 => absurd c_28 (nI_ge hlen (by decide))) (fun c_28 => ?_)
    refine lv_aload_n hx hb d_Dr_keep_31 rfl (lv_at hl 0 rfl) ?_
    refine va_get (D := D) (ci := 0) (v := .ref k) (C := "VersionedBlock$Draft") (T := T_Dr) (N := 4) hx hb hts (fun w h => List.mem_cons_of_mem _ (il_Dr w h)) hown hK hP 0 rfl rfl 1 (by decide) (hts _ (List.mem_cons_of_mem _ mw_1_209)) (fun _ h9 => h9) rfl d_Dr_keep_32 ?_
    refine lv_iload_n hx hb d_Dr_keep_35 rfl (lv_at hl 1 rfl) ?_
    refine lv_iconst (v := 1) hx hb d_Dr_keep_36 (by decide) ?_
    refine my_zast hx hb hK hP hD hS 2 2 rfl rfl (k := p) hp (Nat.le_of_ble_eq_true rfl) rfl d_Dr_keep_37 (fun H locs hP hD hS => ?_)
    have hP : va_P D classes ([(d, .inr (0, [.ref n, .ref k, .ref o, .int (nI ps.length)])), (n, .inl ((ka 0), 256, .inr (.inl num))), (k, .inl ((ka 2), 256, .inl (upd kp p 1))), (o, .inl ((ka 1), 256, .inl od))]) H := hP
    have hD : va_D A ([(d, .inr (0, [.ref n, .ref k, .ref o, .int (nI ps.length)])), (n, .inl ((ka 0), 256, .inr (.inl num))), (k, .inl ((ka 2), 256, .inl (upd kp p 1))), (o, .inl ((ka 1), 256, .inl od))]) := hD
    refine lv_aload_n hx hb d_Dr_keep_38 rfl (lv_at hl 0 rfl) ?_
    refine va_get (D := D) (ci := 0) (v := .ref o) (C := "VersionedBlock$Draft") (T := T_Dr) (N := 4) hx hb hts (fun w h => List.mem_cons_of_mem _ (il_Dr w h)) hown hK hP 0 rfl rfl 2 (by decide) (hts _ (List.mem_cons_of_mem _ mw_1_210)) (fun _ h9 => h9) rfl d_Dr_keep_39 ?_
    refine lv_aload_n hx hb d_Dr_keep_42 rfl (lv_at hl 0 rfl) ?_
    refine va_get (D := D) (ci := 0) (v := .int (nI ps.length)) (C := "VersionedBlock$Draft") (T := T_Dr) (N := 4) hx hb hts (fun w h => List.mem_cons_of_mem _ (il_Dr w h)) hown hK hP 0 rfl rfl 3 (by decide) (hts _ (List.mem_cons_of_mem _ mw_1_211)) (fun _ h9 => h9) rfl d_Dr_keep_43 ?_
    refine lv_iload_n hx hb d_Dr_keep_46 rfl (lv_at hl 1 rfl) ?_
    refine my_iast hx hb hK hP hD hS 3 1 rfl rfl (k := ps.length) hlen (Nat.le_of_ble_eq_true rfl) d_Dr_keep_47 (fun H locs hP hD hS => ?_)
    have hP : va_P D classes ([(d, .inr (0, [.ref n, .ref k, .ref o, .int (nI ps.length)])), (n, .inl ((ka 0), 256, .inr (.inl num))), (k, .inl ((ka 2), 256, .inl (upd kp p 1))), (o, .inl ((ka 1), 256, .inl (upd od ps.length (nI p))))]) H := hP
    have hD : va_D A ([(d, .inr (0, [.ref n, .ref k, .ref o, .int (nI ps.length)])), (n, .inl ((ka 0), 256, .inr (.inl num))), (k, .inl ((ka 2), 256, .inl (upd kp p 1))), (o, .inl ((ka 1), 256, .inl (upd od ps.length (nI p))))]) := hD
    refine lv_aload_n hx hb d_Dr_keep_48 rfl (lv_at hl 0 rfl) ?_
    refine lv_dup hx hb d_Dr_keep_49 rfl ?_
    refine va_get (D := D) (ci := 0) (v := .int (nI ps.length)) (C := "VersionedBlock$Draft") (T := T_Dr) (N := 4) hx hb hts (fun w h => List.mem_cons_of_mem _ (il_Dr w h)) hown hK hP 0 rfl rfl 3 (by decide) (hts _ (List.mem_cons_of_mem _ mw_1_211)) (fun _ h9 => h9) rfl d_Dr_keep_50 ?_
    refine lv_iconst (v := 1) hx hb d_Dr_keep_53 (by decide) ?_
    refine lv_iadd hx hb d_Dr_keep_54 ?_
    refine lv_topi (fun v_54 ev_54 => ?_)
    obtain rfl : v_54 = nI (ps.length + 1) := ev_54.trans (nI_1 _)
    refine va_put (D := D) (ci := 0) (v := .int (nI (ps.length + 1))) (ty := .int) (C := "VersionedBlock$Draft") (T := T_Dr) (N := 4) hx hb hts (fun w h => List.mem_cons_of_mem _ (il_Dr w h)) t_Dr t_Dr_ok n_Dr hown hK hP hD hS 0 rfl rfl 3 (by decide) (hts _ (List.mem_cons_of_mem _ mw_1_211)) (fun _ h9 => h9) rfl (by decide +kernel) rfl rfl (Nat.le_of_ble_eq_true rfl) d_Dr_keep_55 (fun H locs hP hD hS => ?_)
    have hP : va_P D classes ([(d, .inr (0, [.ref n, .ref k, .ref o, .int (nI (ps.length + 1))])), (n, .inl ((ka 0), 256, .inr (.inl num))), (k, .inl ((ka 2), 256, .inl (upd kp p 1))), (o, .inl ((ka 1), 256, .inl (upd od ps.length (nI p))))]) H := hP
    have hD : va_D A ([(d, .inr (0, [.ref n, .ref k, .ref o, .int (nI (ps.length + 1))])), (n, .inl ((ka 0), 256, .inr (.inl num))), (k, .inl ((ka 2), 256, .inl (upd kp p 1))), (o, .inl ((ka 1), 256, .inl (upd od ps.length (nI p))))]) := hD
    refine lv_aload_n hx hb d_Dr_keep_58 rfl (lv_at hl 0 rfl) ?_
    refine va_get (D := D) (ci := 0) (v := .ref n) (C := "VersionedBlock$Draft") (T := T_Dr) (N := 4) hx hb hts (fun w h => List.mem_cons_of_mem _ (il_Dr w h)) hown hK hP 0 rfl rfl 0 (by decide) (hts _ (List.mem_cons_of_mem _ mw_1_208)) (fun _ h9 => h9) rfl d_Dr_keep_59 ?_
    refine lv_iload_n hx hb d_Dr_keep_62 rfl (lv_at hl 1 rfl) ?_
    refine lv_lload_n hx hb d_Dr_keep_63 rfl (lv_at hl 2 rfl) ?_
    refine my_last hx hb hK hP hD hS 1 0 rfl rfl (k := p) hp (Nat.le_of_ble_eq_true rfl) d_Dr_keep_64 (fun H locs hP hD hS => ?_)
    have hP : va_P D classes ([(d, .inr (0, [.ref n, .ref k, .ref o, .int (nI (ps.length + 1))])), (n, .inl ((ka 0), 256, .inr (.inl (vp_updL num p v)))), (k, .inl ((ka 2), 256, .inl (upd kp p 1))), (o, .inl ((ka 1), 256, .inl (upd od ps.length (nI p))))]) H := hP
    have hD : va_D A ([(d, .inr (0, [.ref n, .ref k, .ref o, .int (nI (ps.length + 1))])), (n, .inl ((ka 0), 256, .inr (.inl (vp_updL num p v)))), (k, .inl ((ka 2), 256, .inl (upd kp p 1))), (o, .inl ((ka 1), 256, .inl (upd od ps.length (nI p))))]) := hD
    have hP9 := hP.sub (ws' := [(d, .inr (0, [.ref n, .ref k, .ref o, .int (nI (dkp ps p).length)])), (n, .inl ((ka 0), 256, .inr (.inl (vp_updL num p v)))), (k, .inl ((ka 2), 256, .inl (upd kp p 1))), (o, .inl ((ka 1), 256, .inl (upd od ps.length (nI p))))]) [0, 1, 2, 3] (by rw [e9, List.length_append]; rfl)
    have hD9 := hD.sub (ws' := [(d, .inr (0, [.ref n, .ref k, .ref o, .int (nI (dkp ps p).length)])), (n, .inl ((ka 0), 256, .inr (.inl (vp_updL num p v)))), (k, .inl ((ka 2), 256, .inl (upd kp p 1))), (o, .inl ((ka 1), 256, .inl (upd od ps.length (nI p))))]) [0, 1, 2, 3] (by decide) (by rw [e9, List.length_append]; rfl)
    exact W.vret hx hb hr (fun t9 ht hW => ⟨⟨(), rfl, trivial, (upd kp p 1), (upd od ps.length (nI p)), (by rw [e9]; exact dOK_keep hd hp hm), by rw [ht]; exact hP9, hD9⟩, hS.F ht⟩) hS.2.2 d_Dr_keep_65
set_option maxHeartbeats 4000000 in
set_option maxRecDepth 100000 in
theorem c_Draft_clear (l : Launch) (D : va_G) (ka : Nat → ClassId) (sz : Nat) (d n k o : Nat) (ps : List Nat) (num : Nat → Int64) (kp od : Nat → Int32) (hd : dOK ps kp od) : Met l y_Dr_clear w_Dr_clear ({ frames := 0, cells := 0, slots := 0, locals := 0 }) (pW classes (tyS ka) D [.ref d] ([(d, .inr (0, [.ref n, .ref k, .ref o, .int (nI ps.length)])), (n, .inl ((ka 0), 256, .inr (.inl num))), (k, .inl ((ka 2), 256, .inl kp)), (o, .inl ((ka 1), 256, .inl od))]) sz) (va_Qv (fun _ : Unit => True) (fun (_ : Unit) t9 => ∃ (kp' : Nat → Int32), (dOK [] kp' od) ∧ va_P D classes ([(d, .inr (0, [.ref n, .ref k, .ref o, .int (nI 0)])), (n, .inl ((ka 0), 256, .inr (.inl num))), (k, .inl ((ka 2), 256, .inl kp')), (o, .inl ((ka 1), 256, .inl od))]) t9.heap ∧ va_D (va_A ([(d, .inr (0, [.ref n, .ref k, .ref o, .int (nI ps.length)])), (n, .inl ((ka 0), 256, .inr (.inl num))), (k, .inl ((ka 2), 256, .inl kp)), (o, .inl ((ka 1), 256, .inl od))]) sz) ([(d, .inr (0, [.ref n, .ref k, .ref o, .int (nI 0)])), (n, .inl ((ka 0), 256, .inr (.inl num))), (k, .inl ((ka 2), 256, .inl kp')), (o, .inl ((ka 1), 256, .inl od))])) (va_A ([(d, .inr (0, [.ref n, .ref k, .ref o, .int (nI ps.length)])), (n, .inl ((ka 0), 256, .inr (.inl num))), (k, .inl ((ka 2), 256, .inl kp)), (o, .inl ((ka 1), 256, .inl od))]) sz)) 0 0 (va_A ([(d, .inr (0, [.ref n, .ref k, .ref o, .int (nI ps.length)])), (n, .inl ((ka 0), 256, .inr (.inl num))), (k, .inl ((ka 2), 256, .inl kp)), (o, .inl ((ka 1), 256, .inl od))]) sz) := by
  refine Met.ofW (cc := b_Dr_clear) (maxL := 2) (ret := none) (by decide) rfl ?_
  intro pP eE sS mM args below meth cC s1 B hml hv
  obtain ⟨rfl, hsz, hP, hK, hN, hD0⟩ := hv
  have hx := B.exec
  have hb := B.bytes
  have hr := B.returns
  have hts := atoms_spec (ws := w_Dr_clear) B.pre
  have hown : sS.vm.findClass "VersionedBlock$Draft" = some mM.cls := findClass_of_methodNamed B.named
  have hlocks := B.notSynchronized
  subst hsz
  have hD := hD0.self (sz := sS.heap.size)
  generalize hAe : va_A ([(d, .inr (0, [.ref n, .ref k, .ref o, .int (nI ps.length)])), (n, .inl ((ka 0), 256, .inr (.inl num))), (k, .inl ((ka 2), 256, .inl kp)), (o, .inl ((ka 1), 256, .inl od))]) sS.heap.size = A at hD ⊢
  have hA : ∀ q : Nat, sS.heap.size ≤ q → A q := fun q h => by rw [← hAe]; exact Or.inr h
  have hS : va_S A sS.heap sS.heap [] := va_S.rf
  have hl := lv_entry ([.ref d]) (n := 2) (Nat.le_of_ble_eq_true rfl)
  rw [lg_entry_eq]
  generalize (lg_sl ([.ref d]) ++ List.replicate (2 - (lg_sl ([.ref d])).length) Slot.unset).toArray = ls at hl ⊢
  have hl : lv_has ls 2 [(0, .ref d)] := hl
  have hle := dOK_le hd
  refine lv_iconst (v := (nI 0)) hx hb d_Dr_clear_0 (by decide) ?_
  refine lv_istore_n (lv' := [(1, .int (nI 0)), (0, .ref d)]) hx hb d_Dr_clear_1 rfl hl (by decide) rfl (fun ls hl => ?_)
  have loop_2 : ∀ (fuel : Nat) (i : Nat) (kq : Nat → Int32), (i ≤ ps.length) → (dCL ps i kq) → (ps.length - i) < fuel → ∀ (H : Heap) (locs : List Loc), va_P D classes ([(d, .inr (0, [.ref n, .ref k, .ref o, .int (nI ps.length)])), (n, .inl ((ka 0), 256, .inr (.inl num))), (k, .inl ((ka 2), 256, .inl kq)), (o, .inl ((ka 1), 256, .inl od))]) H → va_D A ([(d, .inr (0, [.ref n, .ref k, .ref o, .int (nI ps.length)])), (n, .inl ((ka 0), 256, .inr (.inl num))), (k, .inl ((ka 2), 256, .inl kq)), (o, .inl ((ka 1), 256, .inl od))]) → va_S A sS.heap H locs → ∀ (ls : Array Slot), lv_has ls 2 [(1, .int (nI i)), (0, .ref d)] → W pP l eE (headSpec w_Dr_clear ({ frames := 0, cells := 0, slots := 0, locals := 0 })).room sS mM ([.ref d] : List Value).toArray below meth cC H locs 0 0 (MQ below (va_Qv (fun _ : Unit => True) (fun (_ : Unit) t9 => ∃ (kp' : Nat → Int32), (dOK [] kp' od) ∧ va_P D classes ([(d, .inr (0, [.ref n, .ref k, .ref o, .int (nI 0)])), (n, .inl ((ka 0), 256, .inr (.inl num))), (k, .inl ((ka 2), 256, .inl kp')), (o, .inl ((ka 1), 256, .inl od))]) t9.heap ∧ va_D A ([(d, .inr (0, [.ref n, .ref k, .ref o, .int (nI 0)])), (n, .inl ((ka 0), 256, .inr (.inl num))), (k, .inl ((ka 2), 256, .inl kp')), (o, .inl ((ka 1), 256, .inl od))])) A) ([.ref d] : List Value).toArray sS 0 0 A) (F0 mM 2 ls []) := by
    intro fuel
    induction fuel with
    | zero => intro i kq hi hc hfu; exact absurd hfu (Nat.not_lt_zero _)
    | succ fuel ih =>
      intro i kq hi hc hfu H locs hP hD hS ls hl
      refine lv_iload_n hx hb d_Dr_clear_2 rfl (lv_at hl 0 rfl) ?_
      refine lv_aload_n hx hb d_Dr_clear_3 rfl (lv_at hl 1 rfl) ?_
      refine va_get (D := D) (ci := 0) (v := .int (nI ps.length)) (C := "VersionedBlock$Draft") (T := T_Dr) (N := 4) hx hb hts (fun w h => List.mem_cons_of_mem _ (il_Dr w h)) hown hK hP 0 rfl rfl 3 (by decide) (hts _ (List.mem_cons_of_mem _ mw_1_211)) (fun _ h9 => h9) rfl d_Dr_clear_4 ?_
      refine lv_icmp_ge (tgt := 28) hx hb d_Dr_clear_7 (by decide) (fun c_7 => ?_) (fun c_7 => ?_)
      · have hie : i = ps.length := by
          have := (nI_leI (by omega) (by omega)).mp c_7
          omega
        subst hie
        refine lv_aload_n hx hb d_Dr_clear_28 rfl (lv_at hl 1 rfl) ?_
        refine lv_iconst (v := (nI 0)) hx hb d_Dr_clear_29 (by decide) ?_
        refine va_put (D := D) (ci := 0) (v := .int (nI 0)) (ty := .int) (C := "VersionedBlock$Draft") (T := T_Dr) (N := 4) hx hb hts (fun w h => List.mem_cons_of_mem _ (il_Dr w h)) t_Dr t_Dr_ok n_Dr hown hK hP hD hS 0 rfl rfl 3 (by decide) (hts _ (List.mem_cons_of_mem _ mw_1_211)) (fun _ h9 => h9) rfl (by decide +kernel) rfl rfl (Nat.le_of_ble_eq_true rfl) d_Dr_clear_30 (fun H locs hP hD hS => ?_)
        have hP : va_P D classes ([(d, .inr (0, [.ref n, .ref k, .ref o, .int (nI 0)])), (n, .inl ((ka 0), 256, .inr (.inl num))), (k, .inl ((ka 2), 256, .inl kq)), (o, .inl ((ka 1), 256, .inl od))]) H := hP
        have hD : va_D A ([(d, .inr (0, [.ref n, .ref k, .ref o, .int (nI 0)])), (n, .inl ((ka 0), 256, .inr (.inl num))), (k, .inl ((ka 2), 256, .inl kq)), (o, .inl ((ka 1), 256, .inl od))]) := hD
        have hP9 := hP.sub (ws' := [(d, .inr (0, [.ref n, .ref k, .ref o, .int (nI 0)])), (n, .inl ((ka 0), 256, .inr (.inl num))), (k, .inl ((ka 2), 256, .inl kq)), (o, .inl ((ka 1), 256, .inl od))]) [0, 1, 2, 3] rfl
        have hD9 := hD.sub (ws' := [(d, .inr (0, [.ref n, .ref k, .ref o, .int (nI 0)])), (n, .inl ((ka 0), 256, .inr (.inl num))), (k, .inl ((ka 2), 256, .inl kq)), (o, .inl ((ka 1), 256, .inl od))]) [0, 1, 2, 3] (by decide) rfl
        exact W.vret hx hb hr (fun t9 ht hW => ⟨⟨(), rfl, trivial, kq, dCL_end hc, by rw [ht]; exact hP9, hD9⟩, hS.F ht⟩) hS.2.2 d_Dr_clear_33
      · have hlt : i < ps.length := by
          rcases Nat.lt_or_ge i ps.length with q | q
          · exact q
          · exact absurd (nI_le q (by omega)) c_7
        refine lv_aload_n hx hb d_Dr_clear_10 rfl (lv_at hl 1 rfl) ?_
        refine va_get (D := D) (ci := 0) (v := .ref k) (C := "VersionedBlock$Draft") (T := T_Dr) (N := 4) hx hb hts (fun w h => List.mem_cons_of_mem _ (il_Dr w h)) hown hK hP 0 rfl rfl 1 (by decide) (hts _ (List.mem_cons_of_mem _ mw_1_209)) (fun _ h9 => h9) rfl d_Dr_clear_11 ?_
        refine lv_aload_n hx hb d_Dr_clear_14 rfl (lv_at hl 1 rfl) ?_
        refine va_get (D := D) (ci := 0) (v := .ref o) (C := "VersionedBlock$Draft") (T := T_Dr) (N := 4) hx hb hts (fun w h => List.mem_cons_of_mem _ (il_Dr w h)) hown hK hP 0 rfl rfl 2 (by decide) (hts _ (List.mem_cons_of_mem _ mw_1_210)) (fun _ h9 => h9) rfl d_Dr_clear_15 ?_
        refine lv_iload_n hx hb d_Dr_clear_18 rfl (lv_at hl 0 rfl) ?_
        refine my_iald hx hb hK hP 3 1 rfl rfl (k := i) (by omega) (Nat.le_of_ble_eq_true rfl) d_Dr_clear_19 ?_
        refine lv_topi (fun v_19 ev_19 => ?_)
        obtain rfl : v_19 = nI (ps.getD i 0) := ev_19.trans (hd.2.2.1 i hlt)
        refine lv_iconst (v := 0) hx hb d_Dr_clear_20 (by decide) ?_
        refine my_zast hx hb hK hP hD hS 2 2 rfl rfl (k := (ps.getD i 0)) (dOK_at hd hlt).2.1 (Nat.le_of_ble_eq_true rfl) rfl d_Dr_clear_21 (fun H locs hP hD hS => ?_)
        have hP : va_P D classes ([(d, .inr (0, [.ref n, .ref k, .ref o, .int (nI ps.length)])), (n, .inl ((ka 0), 256, .inr (.inl num))), (k, .inl ((ka 2), 256, .inl (upd kq (ps.getD i 0) 0))), (o, .inl ((ka 1), 256, .inl od))]) H := hP
        have hD : va_D A ([(d, .inr (0, [.ref n, .ref k, .ref o, .int (nI ps.length)])), (n, .inl ((ka 0), 256, .inr (.inl num))), (k, .inl ((ka 2), 256, .inl (upd kq (ps.getD i 0) 0))), (o, .inl ((ka 1), 256, .inl od))]) := hD
        refine lv_iinc (v := nI (i + 1)) (lv' := [(1, .int (nI (i + 1))), (0, .ref d)]) hx hb d_Dr_clear_22 hl (k := 0) rfl (nI_1 i) (by decide) rfl (fun ls hl => ?_)
        refine lv_goto (tgt := 2) hx hb d_Dr_clear_25 (by decide) ?_
        exact ih (i + 1) (upd kq (ps.getD i 0) 0) (by omega) (dCL_s hd.1 hlt hc) (by omega) _ _ hP hD hS ls (lv_sub hl [0, 1] rfl)
  exact loop_2 (ps.length - 0 + 1) 0 kp (Nat.zero_le _) (dCL_0 hd) (Nat.lt_succ_self _) _ _ hP hD hS ls (lv_sub hl [0, 1] rfl)
set_option maxHeartbeats 4000000 in
set_option maxRecDepth 100000 in
theorem c_Draft_init (l : Launch) (D : va_G) (ka : Nat → ClassId) (sz : Nat) (d : Nat)  : Met l y_Dr_init w_Dr_init ({ frames := 1, cells := 3, slots := 768, locals := 12 }) (pW classes (tyS ka) D [.ref d] ([(d, .inr (0, [.null, .null, .null, .int 0]))]) sz) (va_Qv (fun _ : Unit => True) (fun (_ : Unit) t9 => ∃ (n k o : Nat), (True) ∧ va_P D classes ([(d, .inr (0, [.ref n, .ref k, .ref o, .int (nI 0)])), (n, .inl ((ka 0), 256, .inr (.inl (fun _ => 0)))), (k, .inl ((ka 2), 256, .inl (fun _ => 0))), (o, .inl ((ka 1), 256, .inl (fun _ => 0)))]) t9.heap ∧ va_D (va_A ([(d, .inr (0, [.null, .null, .null, .int 0]))]) sz) ([(d, .inr (0, [.ref n, .ref k, .ref o, .int (nI 0)])), (n, .inl ((ka 0), 256, .inr (.inl (fun _ => 0)))), (k, .inl ((ka 2), 256, .inl (fun _ => 0))), (o, .inl ((ka 1), 256, .inl (fun _ => 0)))])) (va_A ([(d, .inr (0, [.null, .null, .null, .int 0]))]) sz)) 3 768 (va_A ([(d, .inr (0, [.null, .null, .null, .int 0]))]) sz) := by
  refine Met.ofW (cc := b_Dr_init) (maxL := 1) (ret := none) (by decide) rfl ?_
  intro pP eE sS mM args below meth cC s1 B hml hv
  obtain ⟨rfl, hsz, hP, hK, hN, hD0⟩ := hv
  have hx := B.exec
  have hb := B.bytes
  have hr := B.returns
  have hts := atoms_spec (ws := w_Dr_init) B.pre
  have hown : sS.vm.findClass "VersionedBlock$Draft" = some mM.cls := findClass_of_methodNamed B.named
  have hlocks := B.notSynchronized
  have hin : meth.name = "<init>" := (name_of_methodNamed B.named B.method).1
  subst hsz
  have hD := hD0.self (sz := sS.heap.size)
  generalize hAe : va_A ([(d, .inr (0, [.null, .null, .null, .int 0]))]) sS.heap.size = A at hD ⊢
  have hA : ∀ q : Nat, sS.heap.size ≤ q → A q := fun q h => by rw [← hAe]; exact Or.inr h
  have hS : va_S A sS.heap sS.heap [] := va_S.rf
  have hl := lv_entry ([.ref d]) (n := 1) (Nat.le_of_ble_eq_true rfl)
  rw [lg_entry_eq]
  generalize (lg_sl ([.ref d]) ++ List.replicate (1 - (lg_sl ([.ref d])).length) Slot.unset).toArray = ls at hl ⊢
  have hl : lv_has ls 1 [(0, .ref d)] := hl
  refine lv_aload_n hx hb d_Dr_init_0 rfl (lv_at hl 0 rfl) ?_
  refine W.objInit hx hb hown (hts _ (List.mem_cons_of_mem _ mw_1_207)) (hts _ (List.mem_cons_of_mem _ mw_1_16)) (hts _ (List.mem_cons_of_mem _ mw_1_17)) rfl (by rw [hml]; exact hl.1) rfl d_Dr_init_1 (Nat.le_of_ble_eq_true rfl) (Nat.le_of_ble_eq_true rfl) ?_
  refine W.eq (g2 := F0 mM 4 ls []) rfl ?_
  refine lv_aload_n hx hb d_Dr_init_4 rfl (lv_at hl 0 rfl) ?_
  refine lv_sipush (v := 256) hx hb d_Dr_init_5 (by decide) ?_
  refine my_newa (ty := .long) (a0 := (256, .inr (.inl (fun _ => 0)))) hx hb (hts _ (List.mem_cons_of_mem _ mw_1_33)) rfl hK 0 (cA0 := ka 0) rfl hP hD hS hA (fun _ => rfl) (k := 256) (by decide) (by decide) (Nat.le_of_ble_eq_true rfl) (Nat.le_of_ble_eq_true rfl) d_Dr_init_8 (fun q8 H hP hD hS => ?_)
  have hP : va_P D classes ([(d, .inr (0, [.null, .null, .null, .int 0])), (q8, .inl ((ka 0), 256, .inr (.inl (fun _ => 0))))]) H := hP
  have hD : va_D A ([(d, .inr (0, [.null, .null, .null, .int 0])), (q8, .inl ((ka 0), 256, .inr (.inl (fun _ => 0))))]) := hD
  refine W.widen (k := 1) (n := 256) (by omega) (by omega) ?_
  refine va_putF (D := D) (ci := 0) (v := .ref q8) (ty := .array .long) (C := "VersionedBlock$Draft") (T := T_Dr) (N := 4) hx hb hts (fun w h => List.mem_cons_of_mem _ (il_Dr w h)) t_Dr t_Dr_ok n_Dr hown hK hP hD hS 0 rfl rfl 0 (by decide) (hts _ (List.mem_cons_of_mem _ mw_1_208)) (fun _ h9 => h9) rfl hin rfl (by decide +kernel) rfl rfl (Nat.le_of_ble_eq_true rfl) d_Dr_init_10 (fun H locs hP hD hS => ?_)
  have hP : va_P D classes ([(d, .inr (0, [.ref q8, .null, .null, .int 0])), (q8, .inl ((ka 0), 256, .inr (.inl (fun _ => 0))))]) H := hP
  have hD : va_D A ([(d, .inr (0, [.ref q8, .null, .null, .int 0])), (q8, .inl ((ka 0), 256, .inr (.inl (fun _ => 0))))]) := hD
  refine lv_aload_n hx hb d_Dr_init_13 rfl (lv_at hl 0 rfl) ?_
  refine lv_sipush (v := 256) hx hb d_Dr_init_14 (by decide) ?_
  refine my_newa (ty := .boolean) (a0 := (256, .inl (fun _ => 0))) hx hb (hts _ (List.mem_cons_of_mem _ mw_1_221)) rfl hK 2 (cA0 := ka 2) rfl hP hD hS hA (fun _ => rfl) (k := 256) (by decide) (by decide) (Nat.le_of_ble_eq_true rfl) (Nat.le_of_ble_eq_true rfl) d_Dr_init_17 (fun q17 H hP hD hS => ?_)
  have hP : va_P D classes ([(d, .inr (0, [.ref q8, .null, .null, .int 0])), (q8, .inl ((ka 0), 256, .inr (.inl (fun _ => 0)))), (q17, .inl ((ka 2), 256, .inl (fun _ => 0)))]) H := hP
  have hD : va_D A ([(d, .inr (0, [.ref q8, .null, .null, .int 0])), (q8, .inl ((ka 0), 256, .inr (.inl (fun _ => 0)))), (q17, .inl ((ka 2), 256, .inl (fun _ => 0)))]) := hD
  refine W.widen (k := 2) (n := 512) (by omega) (by omega) ?_
  refine va_putF (D := D) (ci := 0) (v := .ref q17) (ty := .array .boolean) (C := "VersionedBlock$Draft") (T := T_Dr) (N := 4) hx hb hts (fun w h => List.mem_cons_of_mem _ (il_Dr w h)) t_Dr t_Dr_ok n_Dr hown hK hP hD hS 0 rfl rfl 1 (by decide) (hts _ (List.mem_cons_of_mem _ mw_1_209)) (fun _ h9 => h9) rfl hin rfl (by decide +kernel) rfl rfl (Nat.le_of_ble_eq_true rfl) d_Dr_init_19 (fun H locs hP hD hS => ?_)
  have hP : va_P D classes ([(d, .inr (0, [.ref q8, .ref q17, .null, .int 0])), (q8, .inl ((ka 0), 256, .inr (.inl (fun _ => 0)))), (q17, .inl ((ka 2), 256, .inl (fun _ => 0)))]) H := hP
  have hD : va_D A ([(d, .inr (0, [.ref q8, .ref q17, .null, .int 0])), (q8, .inl ((ka 0), 256, .inr (.inl (fun _ => 0)))), (q17, .inl ((ka 2), 256, .inl (fun _ => 0)))]) := hD
  refine lv_aload_n hx hb d_Dr_init_22 rfl (lv_at hl 0 rfl) ?_
  refine lv_sipush (v := 256) hx hb d_Dr_init_23 (by decide) ?_
  refine my_newa (ty := .int) (a0 := (256, .inl (fun _ => 0))) hx hb (hts _ (List.mem_cons_of_mem _ mw_1_122)) rfl hK 1 (cA0 := ka 1) rfl hP hD hS hA (fun _ => rfl) (k := 256) (by decide) (by decide) (Nat.le_of_ble_eq_true rfl) (Nat.le_of_ble_eq_true rfl) d_Dr_init_26 (fun q26 H hP hD hS => ?_)
  have hP : va_P D classes ([(d, .inr (0, [.ref q8, .ref q17, .null, .int 0])), (q8, .inl ((ka 0), 256, .inr (.inl (fun _ => 0)))), (q17, .inl ((ka 2), 256, .inl (fun _ => 0))), (q26, .inl ((ka 1), 256, .inl (fun _ => 0)))]) H := hP
  have hD : va_D A ([(d, .inr (0, [.ref q8, .ref q17, .null, .int 0])), (q8, .inl ((ka 0), 256, .inr (.inl (fun _ => 0)))), (q17, .inl ((ka 2), 256, .inl (fun _ => 0))), (q26, .inl ((ka 1), 256, .inl (fun _ => 0)))]) := hD
  refine W.widen (k := 3) (n := 768) (by omega) (by omega) ?_
  refine va_putF (D := D) (ci := 0) (v := .ref q26) (ty := .array .int) (C := "VersionedBlock$Draft") (T := T_Dr) (N := 4) hx hb hts (fun w h => List.mem_cons_of_mem _ (il_Dr w h)) t_Dr t_Dr_ok n_Dr hown hK hP hD hS 0 rfl rfl 2 (by decide) (hts _ (List.mem_cons_of_mem _ mw_1_210)) (fun _ h9 => h9) rfl hin rfl (by decide +kernel) rfl rfl (Nat.le_of_ble_eq_true rfl) d_Dr_init_28 (fun H locs hP hD hS => ?_)
  have hP : va_P D classes ([(d, .inr (0, [.ref q8, .ref q17, .ref q26, .int 0])), (q8, .inl ((ka 0), 256, .inr (.inl (fun _ => 0)))), (q17, .inl ((ka 2), 256, .inl (fun _ => 0))), (q26, .inl ((ka 1), 256, .inl (fun _ => 0)))]) H := hP
  have hD : va_D A ([(d, .inr (0, [.ref q8, .ref q17, .ref q26, .int 0])), (q8, .inl ((ka 0), 256, .inr (.inl (fun _ => 0)))), (q17, .inl ((ka 2), 256, .inl (fun _ => 0))), (q26, .inl ((ka 1), 256, .inl (fun _ => 0)))]) := hD
  have hP9 := hP.sub (ws' := [(d, .inr (0, [.ref q8, .ref q17, .ref q26, .int (nI 0)])), (q8, .inl ((ka 0), 256, .inr (.inl (fun _ => 0)))), (q17, .inl ((ka 2), 256, .inl (fun _ => 0))), (q26, .inl ((ka 1), 256, .inl (fun _ => 0)))]) [0, 1, 2, 3] rfl
  have hD9 := hD.sub (ws' := [(d, .inr (0, [.ref q8, .ref q17, .ref q26, .int (nI 0)])), (q8, .inl ((ka 0), 256, .inr (.inl (fun _ => 0)))), (q17, .inl ((ka 2), 256, .inl (fun _ => 0))), (q26, .inl ((ka 1), 256, .inl (fun _ => 0)))]) [0, 1, 2, 3] (by decide) rfl
  exact W.vret hx hb hr (fun t9 ht hW => ⟨⟨(), rfl, trivial, q8, q17, q26, trivial, by rw [ht]; exact hP9, hD9⟩, hS.F ht⟩) hS.2.2 d_Dr_init_31
