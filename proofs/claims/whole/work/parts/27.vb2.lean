set_option maxHeartbeats 4000000 in
set_option maxRecDepth 100000 in
theorem c_Vb_put_no (l : Launch) (D : va_G) (ka : Nat → ClassId) (v pa ta te wv : Nat) (size tk sl hz : Int32) (x : Int32) (y : Int64) (hx0 : ¬ (0 ≤ x.toInt ∧ x.toInt < 256)) : Met l y_Vb_put w_Vb_put ({ frames := 1, cells := 0, slots := 0, locals := 20 }) (pR classes (tyS ka) D [.ref v, .int x, .long y] ([(v, .inr (4, [.ref pa, .ref ta, .ref te, .ref wv, .int size, .int tk, .int sl, .int hz]))])) (vp_Si (fun r => r = 0)) 0 0 (fun _ => False) := by
  refine Met.ofW (cc := b_Vb_put) (maxL := 4) (ret := (some .boolean)) (by decide) rfl ?_
  intro pP eE sS mM args below meth cC s1 B hml hv
  obtain ⟨rfl, hP, hK, hN⟩ := hv
  have hx := B.exec
  have hb := B.bytes
  have hr := B.returns
  have hts := atoms_spec (ws := w_Vb_put) B.pre
  have hown : sS.vm.findClass "VersionedBlock" = some mM.cls := findClass_of_methodNamed B.named
  have hlocks := B.notSynchronized
  have hl := lv_entry ([.ref v, .int x, .long y]) (n := 4) (Nat.le_of_ble_eq_true rfl)
  rw [lg_entry_eq]
  generalize (lg_sl ([.ref v, .int x, .long y]) ++ List.replicate (4 - (lg_sl ([.ref v, .int x, .long y])).length) Slot.unset).toArray = ls at hl ⊢
  have hl : lv_has ls 4 [(0, .ref v), (1, .int x), (2, .long y)] := hl
  refine lv_iload_n hx hb d_Vb_put_0 rfl (lv_at hl 1 rfl) ?_
  refine vp_callSi (run_of (va_runS (As := [.int x]) (rest := []) ⟨hx, hb, hml, hown, hts⟩ (c_isPlace l x ) ⟨callB_of 1 hts (gd_tb mw_1_73) rfl rfl rfl (hts _ (List.mem_cons_of_mem _ mw_1_1)) (hts _ (List.mem_cons_of_mem _ mw_1_71)) (by decide +kernel) ⟨Nat.le_of_ble_eq_true rfl, Nat.le_of_ble_eq_true rfl⟩, (hts _ (List.mem_cons_of_mem _ mw_1_72))⟩ ⟨pE_blind, pE_pre hN⟩ rfl rfl hl.1 rfl (lv_room (Nat.le_of_ble_eq_true rfl)) d_Vb_put_1 ⟨Nat.le_of_ble_eq_true rfl, Nat.le_of_ble_eq_true rfl⟩)) (fun r_1 hr_1 => ?_)
  refine lv_if_ne (tgt := 9) hx hb d_Vb_put_4 (by decide) (fun c_4 => absurd (by rw [hr_1, if_neg hx0]) c_4) (fun c_4 => ?_)
  refine lv_iconst (v := 0) hx hb d_Vb_put_7 (by decide) ?_
  exact W.zret (v := 0) hx hb hr rfl (fun t9 ht hW => ⟨0, rfl, rfl, ht⟩) (fun _ h => by cases h) d_Vb_put_8
set_option maxHeartbeats 4000000 in
set_option maxRecDepth 100000 in
theorem c_Vb_put (l : Launch) (D : va_G) (ka : Nat → ClassId) (sz : Nat) (v pa ta te wv : Nat) (size tk sl hz : Int32) (p : Nat) (y : Int64) (P : Nat → Int64) (hp : p < 256) : Met l y_Vb_put w_Vb_put ({ frames := 1, cells := 0, slots := 0, locals := 20 }) (pW classes (tyS ka) D [.ref v, .int (nI p), .long y] ([(v, .inr (4, [.ref pa, .ref ta, .ref te, .ref wv, .int size, .int tk, .int sl, .int hz])), (pa, .inl ((ka 0), 256, .inr (.inl P)))]) sz) (va_Qi (fun (r : Int32) (_ : Unit) => r = 1) (fun (_ : Unit) t9 => (True) ∧ va_P D classes ([(v, .inr (4, [.ref pa, .ref ta, .ref te, .ref wv, .int size, .int tk, .int sl, .int hz])), (pa, .inl ((ka 0), 256, .inr (.inl (vp_updL P p y))))]) t9.heap ∧ va_D (va_A ([(v, .inr (4, [.ref pa, .ref ta, .ref te, .ref wv, .int size, .int tk, .int sl, .int hz])), (pa, .inl ((ka 0), 256, .inr (.inl P)))]) sz) ([(v, .inr (4, [.ref pa, .ref ta, .ref te, .ref wv, .int size, .int tk, .int sl, .int hz])), (pa, .inl ((ka 0), 256, .inr (.inl (vp_updL P p y))))])) (va_A ([(v, .inr (4, [.ref pa, .ref ta, .ref te, .ref wv, .int size, .int tk, .int sl, .int hz])), (pa, .inl ((ka 0), 256, .inr (.inl P)))]) sz)) 0 0 (va_A ([(v, .inr (4, [.ref pa, .ref ta, .ref te, .ref wv, .int size, .int tk, .int sl, .int hz])), (pa, .inl ((ka 0), 256, .inr (.inl P)))]) sz) := by
  refine Met.ofW (cc := b_Vb_put) (maxL := 4) (ret := (some .boolean)) (by decide) rfl ?_
  intro pP eE sS mM args below meth cC s1 B hml hv
  obtain ⟨rfl, hsz, hP, hK, hN, hD0⟩ := hv
  have hx := B.exec
  have hb := B.bytes
  have hr := B.returns
  have hts := atoms_spec (ws := w_Vb_put) B.pre
  have hown : sS.vm.findClass "VersionedBlock" = some mM.cls := findClass_of_methodNamed B.named
  have hlocks := B.notSynchronized
  subst hsz
  have hD := hD0.self (sz := sS.heap.size)
  generalize hAe : va_A ([(v, .inr (4, [.ref pa, .ref ta, .ref te, .ref wv, .int size, .int tk, .int sl, .int hz])), (pa, .inl ((ka 0), 256, .inr (.inl P)))]) sS.heap.size = A at hD ⊢
  have hA : ∀ q : Nat, sS.heap.size ≤ q → A q := fun q h => by rw [← hAe]; exact Or.inr h
  have hS : va_S A sS.heap sS.heap [] := va_S.rf
  have hl := lv_entry ([.ref v, .int (nI p), .long y]) (n := 4) (Nat.le_of_ble_eq_true rfl)
  rw [lg_entry_eq]
  generalize (lg_sl ([.ref v, .int (nI p), .long y]) ++ List.replicate (4 - (lg_sl ([.ref v, .int (nI p), .long y])).length) Slot.unset).toArray = ls at hl ⊢
  have hl : lv_has ls 4 [(0, .ref v), (1, .int (nI p)), (2, .long y)] := hl
  refine lv_iload_n hx hb d_Vb_put_0 rfl (lv_at hl 1 rfl) ?_
  refine vp_callSi (run_of (va_runS (As := [.int (nI p)]) (rest := []) ⟨hx, hb, hml, hown, hts⟩ (c_isPlace l (nI p) ) ⟨callB_of 1 hts (gd_tb mw_1_73) rfl rfl rfl (hts _ (List.mem_cons_of_mem _ mw_1_1)) (hts _ (List.mem_cons_of_mem _ mw_1_71)) (by decide +kernel) ⟨Nat.le_of_ble_eq_true rfl, Nat.le_of_ble_eq_true rfl⟩, (hts _ (List.mem_cons_of_mem _ mw_1_72))⟩ ⟨pE_blind, pE_pre hN⟩ rfl rfl hl.1 rfl (lv_room (Nat.le_of_ble_eq_true rfl)) d_Vb_put_1 ⟨Nat.le_of_ble_eq_true rfl, Nat.le_of_ble_eq_true rfl⟩)) (fun r_1 hr_1 => ?_)
  refine lv_if_ne (tgt := 9) hx hb d_Vb_put_4 (by decide) (fun c_4 => ?_) (fun c_4 => absurd c_4 (by rw [hr_1, nI_toInt (by omega), if_pos (by omega)]; decide))
  refine lv_aload_n hx hb d_Vb_put_9 rfl (lv_at hl 0 rfl) ?_
  refine va_get (D := D) (ci := 4) (v := .ref pa) (C := "VersionedBlock") (T := T_Vb) (N := 8) hx hb hts (fun w h => List.mem_cons_of_mem _ (il_Vb w h)) hown hK hP 0 rfl rfl 0 (by decide) (hts _ (List.mem_cons_of_mem _ mw_1_42)) (fun _ h9 => h9) rfl d_Vb_put_10 ?_
  refine lv_iload_n hx hb d_Vb_put_13 rfl (lv_at hl 1 rfl) ?_
  refine lv_lload_n hx hb d_Vb_put_14 rfl (lv_at hl 2 rfl) ?_
  refine my_last hx hb hK hP hD hS 1 0 rfl rfl (k := p) hp (Nat.le_of_ble_eq_true rfl) d_Vb_put_15 (fun H locs hP hD hS => ?_)
  have hP : va_P D classes ([(v, .inr (4, [.ref pa, .ref ta, .ref te, .ref wv, .int size, .int tk, .int sl, .int hz])), (pa, .inl ((ka 0), 256, .inr (.inl (vp_updL P p y))))]) H := hP
  have hD : va_D A ([(v, .inr (4, [.ref pa, .ref ta, .ref te, .ref wv, .int size, .int tk, .int sl, .int hz])), (pa, .inl ((ka 0), 256, .inr (.inl (vp_updL P p y))))]) := hD
  refine lv_iconst (v := 1) hx hb d_Vb_put_16 (by decide) ?_
  have hP9 := hP.sub (ws' := [(v, .inr (4, [.ref pa, .ref ta, .ref te, .ref wv, .int size, .int tk, .int sl, .int hz])), (pa, .inl ((ka 0), 256, .inr (.inl (vp_updL P p y))))]) [0, 1] rfl
  have hD9 := hD.sub (ws' := [(v, .inr (4, [.ref pa, .ref ta, .ref te, .ref wv, .int size, .int tk, .int sl, .int hz])), (pa, .inl ((ka 0), 256, .inr (.inl (vp_updL P p y))))]) [0, 1] (by decide) rfl
  exact W.zret (v := 1) hx hb hr rfl (fun t9 ht hW => ⟨⟨1, (), rfl, rfl, trivial, by rw [ht]; exact hP9, hD9⟩, hS.F ht⟩) hS.2.2 d_Vb_put_17
set_option maxHeartbeats 4000000 in
set_option maxRecDepth 100000 in
theorem c_Vb_get_no (l : Launch) (D : va_G) (ka : Nat → ClassId) (v pa ta te wv : Nat) (size tk sl hz : Int32) (x : Int32) (hx0 : ¬ (0 ≤ x.toInt ∧ x.toInt < 256)) : Met l y_Vb_get w_Vb_get ({ frames := 1, cells := 0, slots := 0, locals := 20 }) (pR classes (tyS ka) D [.ref v, .int x] ([(v, .inr (4, [.ref pa, .ref ta, .ref te, .ref wv, .int size, .int tk, .int sl, .int hz]))])) (vp_Sl (fun r => r = 0)) 0 0 (fun _ => False) := by
  refine Met.ofW (cc := b_Vb_get) (maxL := 2) (ret := (some .long)) (by decide) rfl ?_
  intro pP eE sS mM args below meth cC s1 B hml hv
  obtain ⟨rfl, hP, hK, hN⟩ := hv
  have hx := B.exec
  have hb := B.bytes
  have hr := B.returns
  have hts := atoms_spec (ws := w_Vb_get) B.pre
  have hown : sS.vm.findClass "VersionedBlock" = some mM.cls := findClass_of_methodNamed B.named
  have hlocks := B.notSynchronized
  have hl := lv_entry ([.ref v, .int x]) (n := 2) (Nat.le_of_ble_eq_true rfl)
  rw [lg_entry_eq]
  generalize (lg_sl ([.ref v, .int x]) ++ List.replicate (2 - (lg_sl ([.ref v, .int x])).length) Slot.unset).toArray = ls at hl ⊢
  have hl : lv_has ls 2 [(0, .ref v), (1, .int x)] := hl
  refine lv_iload_n hx hb d_Vb_get_0 rfl (lv_at hl 1 rfl) ?_
  refine vp_callSi (run_of (va_runS (As := [.int x]) (rest := []) ⟨hx, hb, hml, hown, hts⟩ (c_isPlace l x ) ⟨callB_of 1 hts (gd_tb mw_1_73) rfl rfl rfl (hts _ (List.mem_cons_of_mem _ mw_1_1)) (hts _ (List.mem_cons_of_mem _ mw_1_71)) (by decide +kernel) ⟨Nat.le_of_ble_eq_true rfl, Nat.le_of_ble_eq_true rfl⟩, (hts _ (List.mem_cons_of_mem _ mw_1_72))⟩ ⟨pE_blind, pE_pre hN⟩ rfl rfl hl.1 rfl (lv_room (Nat.le_of_ble_eq_true rfl)) d_Vb_get_1 ⟨Nat.le_of_ble_eq_true rfl, Nat.le_of_ble_eq_true rfl⟩)) (fun r_1 hr_1 => ?_)
  refine lv_if_eq (tgt := 16) hx hb d_Vb_get_4 (by decide) (fun c_4 => ?_) (fun c_4 => absurd (by rw [hr_1, if_neg hx0]) c_4)
  refine lv_lconst (v := 0) hx hb d_Vb_get_16 (by decide) ?_
  exact W.lret (v := 0) hx hb hr (fun t9 ht hW => ⟨0, rfl, rfl, ht⟩) (fun _ h => by cases h) d_Vb_get_17
set_option maxHeartbeats 4000000 in
set_option maxRecDepth 100000 in
theorem c_Vb_get (l : Launch) (D : va_G) (ka : Nat → ClassId) (v pa ta te wv : Nat) (size tk sl hz : Int32) (p : Nat) (P : Nat → Int64) (hp : p < 256) : Met l y_Vb_get w_Vb_get ({ frames := 1, cells := 0, slots := 0, locals := 20 }) (pR classes (tyS ka) D [.ref v, .int (nI p)] ([(v, .inr (4, [.ref pa, .ref ta, .ref te, .ref wv, .int size, .int tk, .int sl, .int hz])), (pa, .inl ((ka 0), 256, .inr (.inl P)))])) (vp_Sl (fun r => r = (P p))) 0 0 (fun _ => False) := by
  refine Met.ofW (cc := b_Vb_get) (maxL := 2) (ret := (some .long)) (by decide) rfl ?_
  intro pP eE sS mM args below meth cC s1 B hml hv
  obtain ⟨rfl, hP, hK, hN⟩ := hv
  have hx := B.exec
  have hb := B.bytes
  have hr := B.returns
  have hts := atoms_spec (ws := w_Vb_get) B.pre
  have hown : sS.vm.findClass "VersionedBlock" = some mM.cls := findClass_of_methodNamed B.named
  have hlocks := B.notSynchronized
  have hl := lv_entry ([.ref v, .int (nI p)]) (n := 2) (Nat.le_of_ble_eq_true rfl)
  rw [lg_entry_eq]
  generalize (lg_sl ([.ref v, .int (nI p)]) ++ List.replicate (2 - (lg_sl ([.ref v, .int (nI p)])).length) Slot.unset).toArray = ls at hl ⊢
  have hl : lv_has ls 2 [(0, .ref v), (1, .int (nI p))] := hl
  refine lv_iload_n hx hb d_Vb_get_0 rfl (lv_at hl 1 rfl) ?_
  refine vp_callSi (run_of (va_runS (As := [.int (nI p)]) (rest := []) ⟨hx, hb, hml, hown, hts⟩ (c_isPlace l (nI p) ) ⟨callB_of 1 hts (gd_tb mw_1_73) rfl rfl rfl (hts _ (List.mem_cons_of_mem _ mw_1_1)) (hts _ (List.mem_cons_of_mem _ mw_1_71)) (by decide +kernel) ⟨Nat.le_of_ble_eq_true rfl, Nat.le_of_ble_eq_true rfl⟩, (hts _ (List.mem_cons_of_mem _ mw_1_72))⟩ ⟨pE_blind, pE_pre hN⟩ rfl rfl hl.1 rfl (lv_room (Nat.le_of_ble_eq_true rfl)) d_Vb_get_1 ⟨Nat.le_of_ble_eq_true rfl, Nat.le_of_ble_eq_true rfl⟩)) (fun r_1 hr_1 => ?_)
  refine lv_if_eq (tgt := 16) hx hb d_Vb_get_4 (by decide) (fun c_4 => absurd c_4 (by rw [hr_1, nI_toInt (by omega), if_pos (by omega)]; decide)) (fun c_4 => ?_)
  refine lv_aload_n hx hb d_Vb_get_7 rfl (lv_at hl 0 rfl) ?_
  refine va_get (D := D) (ci := 4) (v := .ref pa) (C := "VersionedBlock") (T := T_Vb) (N := 8) hx hb hts (fun w h => List.mem_cons_of_mem _ (il_Vb w h)) hown hK hP 0 rfl rfl 0 (by decide) (hts _ (List.mem_cons_of_mem _ mw_1_42)) (fun _ h9 => h9) rfl d_Vb_get_8 ?_
  refine lv_iload_n hx hb d_Vb_get_11 rfl (lv_at hl 1 rfl) ?_
  refine my_lald hx hb hK hP 1 0 rfl rfl (k := p) hp (Nat.le_of_ble_eq_true rfl) d_Vb_get_12 ?_
  refine lv_goto (tgt := 17) hx hb d_Vb_get_13 (by decide) ?_
  exact W.lret (v := (P p)) hx hb hr (fun t9 ht hW => ⟨(P p), rfl, rfl, ht⟩) (fun _ h => by cases h) d_Vb_get_17
set_option maxHeartbeats 4000000 in
set_option maxRecDepth 100000 in
theorem c_Vb_begin (l : Launch) (D : va_G) (ka : Nat → ClassId) (sz : Nat) (v pa ta te wv : Nat) (size tk sl hz : Int32)  : Met l y_Vb_begin w_Vb_begin ({ frames := 0, cells := 0, slots := 0, locals := 0 }) (pW classes (tyS ka) D [.ref v] ([(v, .inr (4, [.ref pa, .ref ta, .ref te, .ref wv, .int size, .int tk, .int sl, .int hz]))]) sz) (va_Qi (fun (r : Int32) (_ : Unit) => r = size) (fun (_ : Unit) t9 => (True) ∧ va_P D classes ([(v, .inr (4, [.ref pa, .ref ta, .ref te, .ref wv, .int (nI 0), .int tk, .int sl, .int hz]))]) t9.heap ∧ va_D (va_A ([(v, .inr (4, [.ref pa, .ref ta, .ref te, .ref wv, .int size, .int tk, .int sl, .int hz]))]) sz) ([(v, .inr (4, [.ref pa, .ref ta, .ref te, .ref wv, .int (nI 0), .int tk, .int sl, .int hz]))])) (va_A ([(v, .inr (4, [.ref pa, .ref ta, .ref te, .ref wv, .int size, .int tk, .int sl, .int hz]))]) sz)) 0 0 (va_A ([(v, .inr (4, [.ref pa, .ref ta, .ref te, .ref wv, .int size, .int tk, .int sl, .int hz]))]) sz) := by
  refine Met.ofW (cc := b_Vb_begin) (maxL := 2) (ret := (some .int)) (by decide) rfl ?_
  intro pP eE sS mM args below meth cC s1 B hml hv
  obtain ⟨rfl, hsz, hP, hK, hN, hD0⟩ := hv
  have hx := B.exec
  have hb := B.bytes
  have hr := B.returns
  have hts := atoms_spec (ws := w_Vb_begin) B.pre
  have hown : sS.vm.findClass "VersionedBlock" = some mM.cls := findClass_of_methodNamed B.named
  have hlocks := B.notSynchronized
  subst hsz
  have hD := hD0.self (sz := sS.heap.size)
  generalize hAe : va_A ([(v, .inr (4, [.ref pa, .ref ta, .ref te, .ref wv, .int size, .int tk, .int sl, .int hz]))]) sS.heap.size = A at hD ⊢
  have hA : ∀ q : Nat, sS.heap.size ≤ q → A q := fun q h => by rw [← hAe]; exact Or.inr h
  have hS : va_S A sS.heap sS.heap [] := va_S.rf
  have hl := lv_entry ([.ref v]) (n := 2) (Nat.le_of_ble_eq_true rfl)
  rw [lg_entry_eq]
  generalize (lg_sl ([.ref v]) ++ List.replicate (2 - (lg_sl ([.ref v])).length) Slot.unset).toArray = ls at hl ⊢
  have hl : lv_has ls 2 [(0, .ref v)] := hl
  refine lv_aload_n hx hb d_Vb_begin_0 rfl (lv_at hl 0 rfl) ?_
  refine va_get (D := D) (ci := 4) (v := .int size) (C := "VersionedBlock") (T := T_Vb) (N := 8) hx hb hts (fun w h => List.mem_cons_of_mem _ (il_Vb w h)) hown hK hP 0 rfl rfl 4 (by decide) (hts _ (List.mem_cons_of_mem _ mw_1_46)) (fun _ h9 => h9) rfl d_Vb_begin_1 ?_
  refine lv_istore_n (lv' := [(1, .int size), (0, .ref v)]) hx hb d_Vb_begin_4 rfl hl (by decide) rfl (fun ls hl => ?_)
  refine lv_aload_n hx hb d_Vb_begin_5 rfl (lv_at hl 1 rfl) ?_
  refine lv_iconst (v := (nI 0)) hx hb d_Vb_begin_6 (by decide) ?_
  refine va_put (D := D) (ci := 4) (v := .int (nI 0)) (ty := .int) (C := "VersionedBlock") (T := T_Vb) (N := 8) hx hb hts (fun w h => List.mem_cons_of_mem _ (il_Vb w h)) t_Vb t_Vb_ok n_Vb hown hK hP hD hS 0 rfl rfl 4 (by decide) (hts _ (List.mem_cons_of_mem _ mw_1_46)) (fun _ h9 => h9) rfl (by decide +kernel) rfl rfl (Nat.le_of_ble_eq_true rfl) d_Vb_begin_7 (fun H locs hP hD hS => ?_)
  have hP : va_P D classes ([(v, .inr (4, [.ref pa, .ref ta, .ref te, .ref wv, .int (nI 0), .int tk, .int sl, .int hz]))]) H := hP
  have hD : va_D A ([(v, .inr (4, [.ref pa, .ref ta, .ref te, .ref wv, .int (nI 0), .int tk, .int sl, .int hz]))]) := hD
  refine lv_iload_n hx hb d_Vb_begin_10 rfl (lv_at hl 0 rfl) ?_
  have hP9 := hP.sub (ws' := [(v, .inr (4, [.ref pa, .ref ta, .ref te, .ref wv, .int (nI 0), .int tk, .int sl, .int hz]))]) [0] rfl
  have hD9 := hD.sub (ws' := [(v, .inr (4, [.ref pa, .ref ta, .ref te, .ref wv, .int (nI 0), .int tk, .int sl, .int hz]))]) [0] (by decide) rfl
  exact W.iret (v := size) hx hb hr (fun t9 ht hW => ⟨⟨size, (), rfl, rfl, trivial, by rw [ht]; exact hP9, hD9⟩, hS.F ht⟩) hS.2.2 d_Vb_begin_11
set_option maxHeartbeats 4000000 in
set_option maxRecDepth 100000 in
theorem c_Vb_count (l : Launch) (D : va_G) (ka : Nat → ClassId) (v pa ta te wv : Nat) (size tk sl hz : Int32)  : Met l y_Vb_count w_Vb_count ({ frames := 0, cells := 0, slots := 0, locals := 0 }) (pR classes (tyS ka) D [.ref v] ([(v, .inr (4, [.ref pa, .ref ta, .ref te, .ref wv, .int size, .int tk, .int sl, .int hz]))])) (vp_Si (fun r => r = size)) 0 0 (fun _ => False) := by
  refine Met.ofW (cc := b_Vb_count) (maxL := 1) (ret := (some .int)) (by decide) rfl ?_
  intro pP eE sS mM args below meth cC s1 B hml hv
  obtain ⟨rfl, hP, hK, hN⟩ := hv
  have hx := B.exec
  have hb := B.bytes
  have hr := B.returns
  have hts := atoms_spec (ws := w_Vb_count) B.pre
  have hown : sS.vm.findClass "VersionedBlock" = some mM.cls := findClass_of_methodNamed B.named
  have hlocks := B.notSynchronized
  have hl := lv_entry ([.ref v]) (n := 1) (Nat.le_of_ble_eq_true rfl)
  rw [lg_entry_eq]
  generalize (lg_sl ([.ref v]) ++ List.replicate (1 - (lg_sl ([.ref v])).length) Slot.unset).toArray = ls at hl ⊢
  have hl : lv_has ls 1 [(0, .ref v)] := hl
  refine lv_aload_n hx hb d_Vb_count_0 rfl (lv_at hl 0 rfl) ?_
  refine va_get (D := D) (ci := 4) (v := .int size) (C := "VersionedBlock") (T := T_Vb) (N := 8) hx hb hts (fun w h => List.mem_cons_of_mem _ (il_Vb w h)) hown hK hP 0 rfl rfl 4 (by decide) (hts _ (List.mem_cons_of_mem _ mw_1_46)) (fun _ h9 => h9) rfl d_Vb_count_1 ?_
  exact W.iret (v := size) hx hb hr (fun t9 ht hW => ⟨size, rfl, rfl, ht⟩) (fun _ h => by cases h) d_Vb_count_4
set_option maxHeartbeats 4000000 in
set_option maxRecDepth 100000 in
theorem c_Vb_tr_full (l : Launch) (D : va_G) (ka : Nat → ClassId) (v pa ta te wv : Nat) (tk sl hz : Int32)  : Met l y_Vb_transaction w_Vb_transaction ({ frames := 0, cells := 0, slots := 0, locals := 0 }) (pR classes (tyS ka) D [.ref v] ([(v, .inr (4, [.ref pa, .ref ta, .ref te, .ref wv, .int (nI 64), .int tk, .int sl, .int hz]))])) (vp_Si (fun r => r = (-3))) 0 0 (fun _ => False) := by
  refine Met.ofW (cc := b_Vb_transaction) (maxL := 2) (ret := (some .int)) (by decide) rfl ?_
  intro pP eE sS mM args below meth cC s1 B hml hv
  obtain ⟨rfl, hP, hK, hN⟩ := hv
  have hx := B.exec
  have hb := B.bytes
  have hr := B.returns
  have hts := atoms_spec (ws := w_Vb_transaction) B.pre
  have hown : sS.vm.findClass "VersionedBlock" = some mM.cls := findClass_of_methodNamed B.named
  have hlocks := B.notSynchronized
  have hl := lv_entry ([.ref v]) (n := 2) (Nat.le_of_ble_eq_true rfl)
  rw [lg_entry_eq]
  generalize (lg_sl ([.ref v]) ++ List.replicate (2 - (lg_sl ([.ref v])).length) Slot.unset).toArray = ls at hl ⊢
  have hl : lv_has ls 2 [(0, .ref v)] := hl
  refine lv_aload_n hx hb d_Vb_transaction_0 rfl (lv_at hl 0 rfl) ?_
  refine va_get (D := D) (ci := 4) (v := .int (nI 64)) (C := "VersionedBlock") (T := T_Vb) (N := 8) hx hb hts (fun w h => List.mem_cons_of_mem _ (il_Vb w h)) hown hK hP 0 rfl rfl 4 (by decide) (hts _ (List.mem_cons_of_mem _ mw_1_46)) (fun _ h9 => h9) rfl d_Vb_transaction_1 ?_
  refine lv_bipush (v := (nI 64)) hx hb d_Vb_transaction_4 (by decide) ?_
  refine lv_icmp_lt (tgt := 12) hx hb d_Vb_transaction_6 (by decide) (fun c_6 => absurd c_6 (by decide)) (fun c_6 => ?_)
  refine lv_bipush (v := (-3)) hx hb d_Vb_transaction_9 (by decide) ?_
  exact W.iret (v := (-3)) hx hb hr (fun t9 ht hW => ⟨(-3), rfl, rfl, ht⟩) (fun _ h => by cases h) d_Vb_transaction_11
set_option maxHeartbeats 4000000 in
set_option maxRecDepth 100000 in
theorem c_Vb_tr_old (l : Launch) (D : va_G) (ka : Nat → ClassId) (sz : Nat) (v pa ta te wv : Nat) (t xa xb xc n : Nat) (tk sl hz : Int32) (tln kn toc tdn tld tsr : Int32) (trs : Int64) (tf : Nat → Option Nat) (hn : n < 64) (htf : tf n = some t) : Met l y_Vb_transaction w_Vb_transaction ({ frames := 1, cells := 0, slots := 0, locals := 20 }) (pW classes (tyS ka) D [.ref v] ([(v, .inr (4, [.ref pa, .ref ta, .ref te, .ref wv, .int (nI n), .int tk, .int sl, .int hz])), (ta, .inl ((ka 3), 64, .inr (.inr (.inr (.inr tf))))), (t, .inr (1, [.ref xa, .ref xb, .ref xc, .int tln, .int kn, .int toc, .int tdn, .int tld, .int tsr, .long trs]))]) sz) (va_Qi (fun (r : Int32) (_ : Unit) => r = (nI n)) (fun (_ : Unit) t9 => (True) ∧ va_P D classes ([(v, .inr (4, [.ref pa, .ref ta, .ref te, .ref wv, .int (nI (n + 1)), .int tk, .int sl, .int hz])), (ta, .inl ((ka 3), 64, .inr (.inr (.inr (.inr tf))))), (t, .inr (1, [.ref xa, .ref xb, .ref xc, .int (nI 0), .int 0, .int toc, .int tdn, .int tld, .int tsr, .long trs]))]) t9.heap ∧ va_D (va_A ([(v, .inr (4, [.ref pa, .ref ta, .ref te, .ref wv, .int (nI n), .int tk, .int sl, .int hz])), (ta, .inl ((ka 3), 64, .inr (.inr (.inr (.inr tf))))), (t, .inr (1, [.ref xa, .ref xb, .ref xc, .int tln, .int kn, .int toc, .int tdn, .int tld, .int tsr, .long trs]))]) sz) ([(v, .inr (4, [.ref pa, .ref ta, .ref te, .ref wv, .int (nI (n + 1)), .int tk, .int sl, .int hz])), (ta, .inl ((ka 3), 64, .inr (.inr (.inr (.inr tf))))), (t, .inr (1, [.ref xa, .ref xb, .ref xc, .int (nI 0), .int 0, .int toc, .int tdn, .int tld, .int tsr, .long trs]))])) (va_A ([(v, .inr (4, [.ref pa, .ref ta, .ref te, .ref wv, .int (nI n), .int tk, .int sl, .int hz])), (ta, .inl ((ka 3), 64, .inr (.inr (.inr (.inr tf))))), (t, .inr (1, [.ref xa, .ref xb, .ref xc, .int tln, .int kn, .int toc, .int tdn, .int tld, .int tsr, .long trs]))]) sz)) 0 0 (va_A ([(v, .inr (4, [.ref pa, .ref ta, .ref te, .ref wv, .int (nI n), .int tk, .int sl, .int hz])), (ta, .inl ((ka 3), 64, .inr (.inr (.inr (.inr tf))))), (t, .inr (1, [.ref xa, .ref xb, .ref xc, .int tln, .int kn, .int toc, .int tdn, .int tld, .int tsr, .long trs]))]) sz) := by
  refine Met.ofW (cc := b_Vb_transaction) (maxL := 2) (ret := (some .int)) (by decide) rfl ?_
  intro pP eE sS mM args below meth cC s1 B hml hv
  obtain ⟨rfl, hsz, hP, hK, hN, hD0⟩ := hv
  have hx := B.exec
  have hb := B.bytes
  have hr := B.returns
  have hts := atoms_spec (ws := w_Vb_transaction) B.pre
  have hown : sS.vm.findClass "VersionedBlock" = some mM.cls := findClass_of_methodNamed B.named
  have hlocks := B.notSynchronized
  subst hsz
  have hD := hD0.self (sz := sS.heap.size)
  generalize hAe : va_A ([(v, .inr (4, [.ref pa, .ref ta, .ref te, .ref wv, .int (nI n), .int tk, .int sl, .int hz])), (ta, .inl ((ka 3), 64, .inr (.inr (.inr (.inr tf))))), (t, .inr (1, [.ref xa, .ref xb, .ref xc, .int tln, .int kn, .int toc, .int tdn, .int tld, .int tsr, .long trs]))]) sS.heap.size = A at hD ⊢
  have hA : ∀ q : Nat, sS.heap.size ≤ q → A q := fun q h => by rw [← hAe]; exact Or.inr h
  have hS : va_S A sS.heap sS.heap [] := va_S.rf
  have hl := lv_entry ([.ref v]) (n := 2) (Nat.le_of_ble_eq_true rfl)
  rw [lg_entry_eq]
  generalize (lg_sl ([.ref v]) ++ List.replicate (2 - (lg_sl ([.ref v])).length) Slot.unset).toArray = ls at hl ⊢
  have hl : lv_has ls 2 [(0, .ref v)] := hl
  refine lv_aload_n hx hb d_Vb_transaction_0 rfl (lv_at hl 0 rfl) ?_
  refine va_get (D := D) (ci := 4) (v := .int (nI n)) (C := "VersionedBlock") (T := T_Vb) (N := 8) hx hb hts (fun w h => List.mem_cons_of_mem _ (il_Vb w h)) hown hK hP 0 rfl rfl 4 (by decide) (hts _ (List.mem_cons_of_mem _ mw_1_46)) (fun _ h9 => h9) rfl d_Vb_transaction_1 ?_
  refine lv_bipush (v := (nI 64)) hx hb d_Vb_transaction_4 (by decide) ?_
  refine lv_icmp_lt (tgt := 12) hx hb d_Vb_transaction_6 (by decide) (fun c_6 => ?_) (fun c_6 => absurd (nI_lt hn (by decide)) c_6)
  refine lv_aload_n hx hb d_Vb_transaction_12 rfl (lv_at hl 0 rfl) ?_
  refine va_get (D := D) (ci := 4) (v := .ref ta) (C := "VersionedBlock") (T := T_Vb) (N := 8) hx hb hts (fun w h => List.mem_cons_of_mem _ (il_Vb w h)) hown hK hP 0 rfl rfl 1 (by decide) (hts _ (List.mem_cons_of_mem _ mw_1_43)) (fun _ h9 => h9) rfl d_Vb_transaction_13 ?_
  refine lv_aload_n hx hb d_Vb_transaction_16 rfl (lv_at hl 0 rfl) ?_
  refine va_get (D := D) (ci := 4) (v := .int (nI n)) (C := "VersionedBlock") (T := T_Vb) (N := 8) hx hb hts (fun w h => List.mem_cons_of_mem _ (il_Vb w h)) hown hK hP 0 rfl rfl 4 (by decide) (hts _ (List.mem_cons_of_mem _ mw_1_46)) (fun _ h9 => h9) rfl d_Vb_transaction_17 ?_
  refine my_aldq hx hb hK hP 1 3 rfl rfl (k := n) hn (Nat.le_of_ble_eq_true rfl) d_Vb_transaction_20 ?_
  refine my_topq (fun v_20 ev_20 => ?_)
  obtain rfl : v_20 = some t := ev_20.trans htf
  refine W.eq (g2 := F0 mM 21 ls [.ref t]) rfl ?_
  refine lv_astore_n (lv' := [(1, .ref t), (0, .ref v)]) hx hb d_Vb_transaction_21 rfl hl (by decide) rfl (fun ls hl => ?_)
  refine lv_aload_n hx hb d_Vb_transaction_22 rfl (lv_at hl 0 rfl) ?_
  refine lv_ifnonnull (tgt := 45) hx hb d_Vb_transaction_23 (by decide) ?_
  refine lv_aload_n hx hb d_Vb_transaction_45 rfl (lv_at hl 0 rfl) ?_
  have hPc := hP.sub (ws' := [(t, .inr (1, [.ref xa, .ref xb, .ref xc, .int tln, .int kn, .int toc, .int tdn, .int tld, .int tsr, .long trs]))]) [2] rfl
  have hDc := hD.sub (ws' := [(t, .inr (1, [.ref xa, .ref xb, .ref xc, .int tln, .int kn, .int toc, .int tdn, .int tld, .int tsr, .long trs]))]) [2] (by decide) rfl
  have hFc := va_free (wc := [(t, .inr (1, [.ref xa, .ref xb, .ref xc, .int tln, .int kn, .int toc, .int tdn, .int tld, .int tsr, .long trs]))]) hD hS hA [2] rfl
  refine va_callv (va_runV (As := []) (rest := []) ⟨hx, hb, hml, hown, hts⟩ (c_Tr_clear l D ka sS.heap.size t xa xb xc tln kn toc tdn tld tsr trs ) ⟨callB_of 0 hts (gd_tb mw_1_126) rfl rfl rfl (hts _ (List.mem_cons_of_mem _ mw_1_5)) (hts _ (List.mem_cons_of_mem _ mw_1_123)) (by decide +kernel) ⟨Nat.le_of_ble_eq_true rfl, Nat.le_of_ble_eq_true rfl⟩, (hts _ (List.mem_cons_of_mem _ mw_1_124)), (hts _ (List.mem_cons_of_mem _ mw_1_125))⟩ ⟨pW_blind, va_recv hK hPc (ci := 1) (q0 := 0) rfl rfl, pW_pre hK hN hPc hDc⟩ rfl rfl hl.1 rfl (lv_room (Nat.le_of_ble_eq_true rfl)) d_Vb_transaction_46 ⟨Nat.le_of_ble_eq_true rfl, Nat.le_of_ble_eq_true rfl⟩) hS (fun q _ h => hFc q h) hFc (fun u9 t9 H1 locs ht hvm hr_46 hB hz1 hk1 hS => ?_)
  obtain ⟨hrel_46, hP1, hD1⟩ := hB
  rw [ht] at hP1
  obtain ⟨hP, hD⟩ := va_join (wr := [(v, .inr (4, [.ref pa, .ref ta, .ref te, .ref wv, .int (nI n), .int tk, .int sl, .int hz])), (ta, .inl ((ka 3), 64, .inr (.inr (.inr (.inr tf)))))]) (w1 := [(t, .inr (1, [.ref xa, .ref xb, .ref xc, .int (nI 0), .int 0, .int toc, .int tdn, .int tld, .int tsr, .long trs]))]) hP hD [2] [0, 1] rfl rfl (by decide) (by decide) hk1 hFc hP1 hD1
  generalize H1 = H at hP hS ⊢
  have hP : va_P D classes ([(v, .inr (4, [.ref pa, .ref ta, .ref te, .ref wv, .int (nI n), .int tk, .int sl, .int hz])), (ta, .inl ((ka 3), 64, .inr (.inr (.inr (.inr tf))))), (t, .inr (1, [.ref xa, .ref xb, .ref xc, .int (nI 0), .int 0, .int toc, .int tdn, .int tld, .int tsr, .long trs]))]) H := hP
  have hD : va_D A ([(v, .inr (4, [.ref pa, .ref ta, .ref te, .ref wv, .int (nI n), .int tk, .int sl, .int hz])), (ta, .inl ((ka 3), 64, .inr (.inr (.inr (.inr tf))))), (t, .inr (1, [.ref xa, .ref xb, .ref xc, .int (nI 0), .int 0, .int toc, .int tdn, .int tld, .int tsr, .long trs]))]) := hD
  refine lv_aload_n hx hb d_Vb_transaction_49 rfl (lv_at hl 1 rfl) ?_
  refine lv_dup hx hb d_Vb_transaction_50 rfl ?_
  refine va_get (D := D) (ci := 4) (v := .int (nI n)) (C := "VersionedBlock") (T := T_Vb) (N := 8) hx hb hts (fun w h => List.mem_cons_of_mem _ (il_Vb w h)) hown hK hP 0 rfl rfl 4 (by decide) (hts _ (List.mem_cons_of_mem _ mw_1_46)) (fun _ h9 => h9) rfl d_Vb_transaction_51 ?_
  refine lv_iconst (v := 1) hx hb d_Vb_transaction_54 (by decide) ?_
  refine lv_iadd hx hb d_Vb_transaction_55 ?_
  refine lv_topi (fun v_55 ev_55 => ?_)
  obtain rfl : v_55 = nI (n + 1) := ev_55.trans (nI_1 _)
  refine va_put (D := D) (ci := 4) (v := .int (nI (n + 1))) (ty := .int) (C := "VersionedBlock") (T := T_Vb) (N := 8) hx hb hts (fun w h => List.mem_cons_of_mem _ (il_Vb w h)) t_Vb t_Vb_ok n_Vb hown hK hP hD hS 0 rfl rfl 4 (by decide) (hts _ (List.mem_cons_of_mem _ mw_1_46)) (fun _ h9 => h9) rfl (by decide +kernel) rfl rfl (Nat.le_of_ble_eq_true rfl) d_Vb_transaction_56 (fun H locs hP hD hS => ?_)
  have hP : va_P D classes ([(v, .inr (4, [.ref pa, .ref ta, .ref te, .ref wv, .int (nI (n + 1)), .int tk, .int sl, .int hz])), (ta, .inl ((ka 3), 64, .inr (.inr (.inr (.inr tf))))), (t, .inr (1, [.ref xa, .ref xb, .ref xc, .int (nI 0), .int 0, .int toc, .int tdn, .int tld, .int tsr, .long trs]))]) H := hP
  have hD : va_D A ([(v, .inr (4, [.ref pa, .ref ta, .ref te, .ref wv, .int (nI (n + 1)), .int tk, .int sl, .int hz])), (ta, .inl ((ka 3), 64, .inr (.inr (.inr (.inr tf))))), (t, .inr (1, [.ref xa, .ref xb, .ref xc, .int (nI 0), .int 0, .int toc, .int tdn, .int tld, .int tsr, .long trs]))]) := hD
  refine lv_aload_n hx hb d_Vb_transaction_59 rfl (lv_at hl 1 rfl) ?_
  refine va_get (D := D) (ci := 4) (v := .int (nI (n + 1))) (C := "VersionedBlock") (T := T_Vb) (N := 8) hx hb hts (fun w h => List.mem_cons_of_mem _ (il_Vb w h)) hown hK hP 0 rfl rfl 4 (by decide) (hts _ (List.mem_cons_of_mem _ mw_1_46)) (fun _ h9 => h9) rfl d_Vb_transaction_60 ?_
  refine lv_iconst (v := 1) hx hb d_Vb_transaction_63 (by decide) ?_
  refine lv_isub hx hb d_Vb_transaction_64 ?_
  refine lv_topi (fun v_64 ev_64 => ?_)
  obtain rfl : v_64 = nI n := ev_64.trans (nI_pred n)
  have hP9 := hP.sub (ws' := [(v, .inr (4, [.ref pa, .ref ta, .ref te, .ref wv, .int (nI (n + 1)), .int tk, .int sl, .int hz])), (ta, .inl ((ka 3), 64, .inr (.inr (.inr (.inr tf))))), (t, .inr (1, [.ref xa, .ref xb, .ref xc, .int (nI 0), .int 0, .int toc, .int tdn, .int tld, .int tsr, .long trs]))]) [0, 1, 2] rfl
  have hD9 := hD.sub (ws' := [(v, .inr (4, [.ref pa, .ref ta, .ref te, .ref wv, .int (nI (n + 1)), .int tk, .int sl, .int hz])), (ta, .inl ((ka 3), 64, .inr (.inr (.inr (.inr tf))))), (t, .inr (1, [.ref xa, .ref xb, .ref xc, .int (nI 0), .int 0, .int toc, .int tdn, .int tld, .int tsr, .long trs]))]) [0, 1, 2] (by decide) rfl
  exact W.iret (v := (nI n)) hx hb hr (fun t9 ht hW => ⟨⟨(nI n), (), rfl, rfl, trivial, by rw [ht]; exact hP9, hD9⟩, hS.F ht⟩) hS.2.2 d_Vb_transaction_65
set_option maxHeartbeats 4000000 in
set_option maxRecDepth 100000 in
theorem c_Vb_tr_new (l : Launch) (D : va_G) (ka : Nat → ClassId) (sz : Nat) (v pa ta te wv : Nat) (n : Nat) (tk sl hz : Int32) (tf : Nat → Option Nat) (hn : n < 64) (htf : tf n = none) : Met l y_Vb_transaction w_Vb_transaction ({ frames := 2, cells := 4, slots := 106, locals := 32 }) (pW classes (tyS ka) D [.ref v] ([(v, .inr (4, [.ref pa, .ref ta, .ref te, .ref wv, .int (nI n), .int tk, .int sl, .int hz])), (ta, .inl ((ka 3), 64, .inr (.inr (.inr (.inr tf)))))]) sz) (va_Qi (fun (r : Int32) (_ : Unit) => r = (nI n)) (fun (_ : Unit) t9 => ∃ (t xa xb xc : Nat), (True) ∧ va_P D classes ([(v, .inr (4, [.ref pa, .ref ta, .ref te, .ref wv, .int (nI (n + 1)), .int tk, .int sl, .int hz])), (ta, .inl ((ka 3), 64, .inr (.inr (.inr (.inr (va_up tf n (some t))))))), (t, .inr (1, [.ref xa, .ref xb, .ref xc, .int (nI 0), .int 0, .int 0, .int 0, .int 0, .int 0, .long 0])), (xa, .inl ((ka 1), 32, .inl (fun _ => 0))), (xb, .inl ((ka 1), 32, .inl (fun _ => 0))), (xc, .inl ((ka 0), 32, .inr (.inl (fun _ => 0))))]) t9.heap ∧ va_D (va_A ([(v, .inr (4, [.ref pa, .ref ta, .ref te, .ref wv, .int (nI n), .int tk, .int sl, .int hz])), (ta, .inl ((ka 3), 64, .inr (.inr (.inr (.inr tf)))))]) sz) ([(v, .inr (4, [.ref pa, .ref ta, .ref te, .ref wv, .int (nI (n + 1)), .int tk, .int sl, .int hz])), (ta, .inl ((ka 3), 64, .inr (.inr (.inr (.inr (va_up tf n (some t))))))), (t, .inr (1, [.ref xa, .ref xb, .ref xc, .int (nI 0), .int 0, .int 0, .int 0, .int 0, .int 0, .long 0])), (xa, .inl ((ka 1), 32, .inl (fun _ => 0))), (xb, .inl ((ka 1), 32, .inl (fun _ => 0))), (xc, .inl ((ka 0), 32, .inr (.inl (fun _ => 0))))])) (va_A ([(v, .inr (4, [.ref pa, .ref ta, .ref te, .ref wv, .int (nI n), .int tk, .int sl, .int hz])), (ta, .inl ((ka 3), 64, .inr (.inr (.inr (.inr tf)))))]) sz)) 4 106 (va_A ([(v, .inr (4, [.ref pa, .ref ta, .ref te, .ref wv, .int (nI n), .int tk, .int sl, .int hz])), (ta, .inl ((ka 3), 64, .inr (.inr (.inr (.inr tf)))))]) sz) := by
  refine Met.ofW (cc := b_Vb_transaction) (maxL := 2) (ret := (some .int)) (by decide) rfl ?_
  intro pP eE sS mM args below meth cC s1 B hml hv
  obtain ⟨rfl, hsz, hP, hK, hN, hD0⟩ := hv
  have hx := B.exec
  have hb := B.bytes
  have hr := B.returns
  have hts := atoms_spec (ws := w_Vb_transaction) B.pre
  have hown : sS.vm.findClass "VersionedBlock" = some mM.cls := findClass_of_methodNamed B.named
  have hlocks := B.notSynchronized
  subst hsz
  have hD := hD0.self (sz := sS.heap.size)
  generalize hAe : va_A ([(v, .inr (4, [.ref pa, .ref ta, .ref te, .ref wv, .int (nI n), .int tk, .int sl, .int hz])), (ta, .inl ((ka 3), 64, .inr (.inr (.inr (.inr tf)))))]) sS.heap.size = A at hD ⊢
  have hA : ∀ q : Nat, sS.heap.size ≤ q → A q := fun q h => by rw [← hAe]; exact Or.inr h
  have hS : va_S A sS.heap sS.heap [] := va_S.rf
  have hl := lv_entry ([.ref v]) (n := 2) (Nat.le_of_ble_eq_true rfl)
  rw [lg_entry_eq]
  generalize (lg_sl ([.ref v]) ++ List.replicate (2 - (lg_sl ([.ref v])).length) Slot.unset).toArray = ls at hl ⊢
  have hl : lv_has ls 2 [(0, .ref v)] := hl
  refine lv_aload_n hx hb d_Vb_transaction_0 rfl (lv_at hl 0 rfl) ?_
  refine va_get (D := D) (ci := 4) (v := .int (nI n)) (C := "VersionedBlock") (T := T_Vb) (N := 8) hx hb hts (fun w h => List.mem_cons_of_mem _ (il_Vb w h)) hown hK hP 0 rfl rfl 4 (by decide) (hts _ (List.mem_cons_of_mem _ mw_1_46)) (fun _ h9 => h9) rfl d_Vb_transaction_1 ?_
  refine lv_bipush (v := (nI 64)) hx hb d_Vb_transaction_4 (by decide) ?_
  refine lv_icmp_lt (tgt := 12) hx hb d_Vb_transaction_6 (by decide) (fun c_6 => ?_) (fun c_6 => absurd (nI_lt hn (by decide)) c_6)
  refine lv_aload_n hx hb d_Vb_transaction_12 rfl (lv_at hl 0 rfl) ?_
  refine va_get (D := D) (ci := 4) (v := .ref ta) (C := "VersionedBlock") (T := T_Vb) (N := 8) hx hb hts (fun w h => List.mem_cons_of_mem _ (il_Vb w h)) hown hK hP 0 rfl rfl 1 (by decide) (hts _ (List.mem_cons_of_mem _ mw_1_43)) (fun _ h9 => h9) rfl d_Vb_transaction_13 ?_
  refine lv_aload_n hx hb d_Vb_transaction_16 rfl (lv_at hl 0 rfl) ?_
  refine va_get (D := D) (ci := 4) (v := .int (nI n)) (C := "VersionedBlock") (T := T_Vb) (N := 8) hx hb hts (fun w h => List.mem_cons_of_mem _ (il_Vb w h)) hown hK hP 0 rfl rfl 4 (by decide) (hts _ (List.mem_cons_of_mem _ mw_1_46)) (fun _ h9 => h9) rfl d_Vb_transaction_17 ?_
  refine my_aldq hx hb hK hP 1 3 rfl rfl (k := n) hn (Nat.le_of_ble_eq_true rfl) d_Vb_transaction_20 ?_
  refine my_topq (fun v_20 ev_20 => ?_)
  obtain rfl : v_20 = none := ev_20.trans htf
  refine W.eq (g2 := F0 mM 21 ls [.null]) rfl ?_
  refine lv_astore_nN (lv' := [(1, .null), (0, .ref v)]) hx hb d_Vb_transaction_21 rfl hl (by decide) rfl (fun ls hl => ?_)
  refine lv_aload_nN hx hb d_Vb_transaction_22 rfl (lv_at hl 0 rfl) ?_
  refine lv_ifnonnullN hx hb d_Vb_transaction_23 ?_
  refine lv_aload_n hx hb d_Vb_transaction_26 rfl (lv_at hl 1 rfl) ?_
  refine va_get (D := D) (ci := 4) (v := .ref ta) (C := "VersionedBlock") (T := T_Vb) (N := 8) hx hb hts (fun w h => List.mem_cons_of_mem _ (il_Vb w h)) hown hK hP 0 rfl rfl 1 (by decide) (hts _ (List.mem_cons_of_mem _ mw_1_43)) (fun _ h9 => h9) rfl d_Vb_transaction_27 ?_
  refine lv_aload_n hx hb d_Vb_transaction_30 rfl (lv_at hl 1 rfl) ?_
  refine va_get (D := D) (ci := 4) (v := .int (nI n)) (C := "VersionedBlock") (T := T_Vb) (N := 8) hx hb hts (fun w h => List.mem_cons_of_mem _ (il_Vb w h)) hown hK hP 0 rfl rfl 4 (by decide) (hts _ (List.mem_cons_of_mem _ mw_1_46)) (fun _ h9 => h9) rfl d_Vb_transaction_31 ?_
  refine va_new (ci := 1) (fs := [.null, .null, .null, .int 0, .int 0, .int 0, .int 0, .int 0, .int 0, .long 0]) (C := "VersionedBlock$Transaction") (T := T_Tr) (N := 10) hx hb hts (fun w h => List.mem_cons_of_mem _ (il_Tr w h)) t_Tr t_Tr_ok hown (hts _ (List.mem_cons_of_mem _ mw_1_18)) (hts _ (List.mem_cons_of_mem _ mw_1_86)) (hts _ (List.mem_cons_of_mem _ mw_1_5)) hK hP hD hS hA rfl fs_Tr (Nat.le_of_ble_eq_true rfl) (Nat.le_of_ble_eq_true rfl) d_Vb_transaction_34 (fun q34 H hP hD hS => ?_)
  have hP : va_P D classes ([(v, .inr (4, [.ref pa, .ref ta, .ref te, .ref wv, .int (nI n), .int tk, .int sl, .int hz])), (ta, .inl ((ka 3), 64, .inr (.inr (.inr (.inr tf))))), (q34, .inr (1, [.null, .null, .null, .int 0, .int 0, .int 0, .int 0, .int 0, .int 0, .long 0]))]) H := hP
  have hD : va_D A ([(v, .inr (4, [.ref pa, .ref ta, .ref te, .ref wv, .int (nI n), .int tk, .int sl, .int hz])), (ta, .inl ((ka 3), 64, .inr (.inr (.inr (.inr tf))))), (q34, .inr (1, [.null, .null, .null, .int 0, .int 0, .int 0, .int 0, .int 0, .int 0, .long 0]))]) := hD
  refine W.widen (k := 1) (n := 10) (by omega) (by omega) ?_
  refine lv_dup hx hb d_Vb_transaction_37 rfl ?_
  have hPc := hP.sub (ws' := [(q34, .inr (1, [.null, .null, .null, .int 0, .int 0, .int 0, .int 0, .int 0, .int 0, .long 0]))]) [2] rfl
  have hDc := hD.sub (ws' := [(q34, .inr (1, [.null, .null, .null, .int 0, .int 0, .int 0, .int 0, .int 0, .int 0, .long 0]))]) [2] (by decide) rfl
  have hFc := va_free (wc := [(q34, .inr (1, [.null, .null, .null, .int 0, .int 0, .int 0, .int 0, .int 0, .int 0, .long 0]))]) hD hS hA [2] rfl
  refine va_callv (va_runIN (As := []) (rest := [.ref q34, .int (nI n), .ref ta]) ⟨hx, hb, hml, hown, hts⟩ (c_Tr_init l D ka H.size q34 ) ⟨va_cnB (host := "VersionedBlock") 0 hts (gd_tb mw_1_89) rfl rfl rfl (kN_1 hN) (hts _ (List.mem_cons_of_mem _ mw_1_5)) (by decide +kernel) ⟨Nat.le_of_ble_eq_true rfl, Nat.le_of_ble_eq_true rfl⟩, rfl, (hts _ (List.mem_cons_of_mem _ mw_1_88))⟩ ⟨pW_blind, pW_pre hK hN hPc hDc⟩ rfl rfl hl.1 rfl (lv_room (Nat.le_of_ble_eq_true rfl)) d_Vb_transaction_38 ⟨Nat.le_of_ble_eq_true rfl, Nat.le_of_ble_eq_true rfl⟩) hS (fun q _ h => hFc q h) hFc (fun u9 t9 H1 locs ht hvm hr_38 hB hz1 hk1 hS => ?_)
  obtain ⟨xa, xb, xc, hrel_38, hP1, hD1⟩ := hB
  rw [ht] at hP1
  obtain ⟨hP, hD⟩ := va_join (wr := [(v, .inr (4, [.ref pa, .ref ta, .ref te, .ref wv, .int (nI n), .int tk, .int sl, .int hz])), (ta, .inl ((ka 3), 64, .inr (.inr (.inr (.inr tf)))))]) (w1 := [(q34, .inr (1, [.ref xa, .ref xb, .ref xc, .int (nI 0), .int 0, .int 0, .int 0, .int 0, .int 0, .long 0])), (xa, .inl ((ka 1), 32, .inl (fun _ => 0))), (xb, .inl ((ka 1), 32, .inl (fun _ => 0))), (xc, .inl ((ka 0), 32, .inr (.inl (fun _ => 0))))]) hP hD [2] [0, 1] rfl rfl (by decide) (by decide) hk1 hFc hP1 hD1
  generalize H1 = H at hP hS ⊢
  refine W.widen (k := 4) (n := 106) (by omega) (by omega) ?_
  have hP : va_P D classes ([(v, .inr (4, [.ref pa, .ref ta, .ref te, .ref wv, .int (nI n), .int tk, .int sl, .int hz])), (ta, .inl ((ka 3), 64, .inr (.inr (.inr (.inr tf))))), (q34, .inr (1, [.ref xa, .ref xb, .ref xc, .int (nI 0), .int 0, .int 0, .int 0, .int 0, .int 0, .long 0])), (xa, .inl ((ka 1), 32, .inl (fun _ => 0))), (xb, .inl ((ka 1), 32, .inl (fun _ => 0))), (xc, .inl ((ka 0), 32, .inr (.inl (fun _ => 0))))]) H := hP
  have hD : va_D A ([(v, .inr (4, [.ref pa, .ref ta, .ref te, .ref wv, .int (nI n), .int tk, .int sl, .int hz])), (ta, .inl ((ka 3), 64, .inr (.inr (.inr (.inr tf))))), (q34, .inr (1, [.ref xa, .ref xb, .ref xc, .int (nI 0), .int 0, .int 0, .int 0, .int 0, .int 0, .long 0])), (xa, .inl ((ka 1), 32, .inl (fun _ => 0))), (xb, .inl ((ka 1), 32, .inl (fun _ => 0))), (xc, .inl ((ka 0), 32, .inr (.inl (fun _ => 0))))]) := hD
  refine my_astq hx hb hK hP hD hS 1 3 2 1 rfl rfl rfl rfl (k := n) hn (Nat.le_of_ble_eq_true rfl) d_Vb_transaction_41 (fun H locs hP hD hS => ?_)
  have hP : va_P D classes ([(v, .inr (4, [.ref pa, .ref ta, .ref te, .ref wv, .int (nI n), .int tk, .int sl, .int hz])), (ta, .inl ((ka 3), 64, .inr (.inr (.inr (.inr (va_up tf n (some q34))))))), (q34, .inr (1, [.ref xa, .ref xb, .ref xc, .int (nI 0), .int 0, .int 0, .int 0, .int 0, .int 0, .long 0])), (xa, .inl ((ka 1), 32, .inl (fun _ => 0))), (xb, .inl ((ka 1), 32, .inl (fun _ => 0))), (xc, .inl ((ka 0), 32, .inr (.inl (fun _ => 0))))]) H := hP
  have hD : va_D A ([(v, .inr (4, [.ref pa, .ref ta, .ref te, .ref wv, .int (nI n), .int tk, .int sl, .int hz])), (ta, .inl ((ka 3), 64, .inr (.inr (.inr (.inr (va_up tf n (some q34))))))), (q34, .inr (1, [.ref xa, .ref xb, .ref xc, .int (nI 0), .int 0, .int 0, .int 0, .int 0, .int 0, .long 0])), (xa, .inl ((ka 1), 32, .inl (fun _ => 0))), (xb, .inl ((ka 1), 32, .inl (fun _ => 0))), (xc, .inl ((ka 0), 32, .inr (.inl (fun _ => 0))))]) := hD
  refine lv_goto (tgt := 49) hx hb d_Vb_transaction_42 (by decide) ?_
  refine lv_aload_n hx hb d_Vb_transaction_49 rfl (lv_at hl 1 rfl) ?_
  refine lv_dup hx hb d_Vb_transaction_50 rfl ?_
  refine va_get (D := D) (ci := 4) (v := .int (nI n)) (C := "VersionedBlock") (T := T_Vb) (N := 8) hx hb hts (fun w h => List.mem_cons_of_mem _ (il_Vb w h)) hown hK hP 0 rfl rfl 4 (by decide) (hts _ (List.mem_cons_of_mem _ mw_1_46)) (fun _ h9 => h9) rfl d_Vb_transaction_51 ?_
  refine lv_iconst (v := 1) hx hb d_Vb_transaction_54 (by decide) ?_
  refine lv_iadd hx hb d_Vb_transaction_55 ?_
  refine lv_topi (fun v_55 ev_55 => ?_)
  obtain rfl : v_55 = nI (n + 1) := ev_55.trans (nI_1 _)
  refine va_put (D := D) (ci := 4) (v := .int (nI (n + 1))) (ty := .int) (C := "VersionedBlock") (T := T_Vb) (N := 8) hx hb hts (fun w h => List.mem_cons_of_mem _ (il_Vb w h)) t_Vb t_Vb_ok n_Vb hown hK hP hD hS 0 rfl rfl 4 (by decide) (hts _ (List.mem_cons_of_mem _ mw_1_46)) (fun _ h9 => h9) rfl (by decide +kernel) rfl rfl (Nat.le_of_ble_eq_true rfl) d_Vb_transaction_56 (fun H locs hP hD hS => ?_)
  have hP : va_P D classes ([(v, .inr (4, [.ref pa, .ref ta, .ref te, .ref wv, .int (nI (n + 1)), .int tk, .int sl, .int hz])), (ta, .inl ((ka 3), 64, .inr (.inr (.inr (.inr (va_up tf n (some q34))))))), (q34, .inr (1, [.ref xa, .ref xb, .ref xc, .int (nI 0), .int 0, .int 0, .int 0, .int 0, .int 0, .long 0])), (xa, .inl ((ka 1), 32, .inl (fun _ => 0))), (xb, .inl ((ka 1), 32, .inl (fun _ => 0))), (xc, .inl ((ka 0), 32, .inr (.inl (fun _ => 0))))]) H := hP
  have hD : va_D A ([(v, .inr (4, [.ref pa, .ref ta, .ref te, .ref wv, .int (nI (n + 1)), .int tk, .int sl, .int hz])), (ta, .inl ((ka 3), 64, .inr (.inr (.inr (.inr (va_up tf n (some q34))))))), (q34, .inr (1, [.ref xa, .ref xb, .ref xc, .int (nI 0), .int 0, .int 0, .int 0, .int 0, .int 0, .long 0])), (xa, .inl ((ka 1), 32, .inl (fun _ => 0))), (xb, .inl ((ka 1), 32, .inl (fun _ => 0))), (xc, .inl ((ka 0), 32, .inr (.inl (fun _ => 0))))]) := hD
  refine lv_aload_n hx hb d_Vb_transaction_59 rfl (lv_at hl 1 rfl) ?_
  refine va_get (D := D) (ci := 4) (v := .int (nI (n + 1))) (C := "VersionedBlock") (T := T_Vb) (N := 8) hx hb hts (fun w h => List.mem_cons_of_mem _ (il_Vb w h)) hown hK hP 0 rfl rfl 4 (by decide) (hts _ (List.mem_cons_of_mem _ mw_1_46)) (fun _ h9 => h9) rfl d_Vb_transaction_60 ?_
  refine lv_iconst (v := 1) hx hb d_Vb_transaction_63 (by decide) ?_
  refine lv_isub hx hb d_Vb_transaction_64 ?_
  refine lv_topi (fun v_64 ev_64 => ?_)
  obtain rfl : v_64 = nI n := ev_64.trans (nI_pred n)
  have hP9 := hP.sub (ws' := [(v, .inr (4, [.ref pa, .ref ta, .ref te, .ref wv, .int (nI (n + 1)), .int tk, .int sl, .int hz])), (ta, .inl ((ka 3), 64, .inr (.inr (.inr (.inr (va_up tf n (some q34))))))), (q34, .inr (1, [.ref xa, .ref xb, .ref xc, .int (nI 0), .int 0, .int 0, .int 0, .int 0, .int 0, .long 0])), (xa, .inl ((ka 1), 32, .inl (fun _ => 0))), (xb, .inl ((ka 1), 32, .inl (fun _ => 0))), (xc, .inl ((ka 0), 32, .inr (.inl (fun _ => 0))))]) [0, 1, 2, 3, 4, 5] rfl
  have hD9 := hD.sub (ws' := [(v, .inr (4, [.ref pa, .ref ta, .ref te, .ref wv, .int (nI (n + 1)), .int tk, .int sl, .int hz])), (ta, .inl ((ka 3), 64, .inr (.inr (.inr (.inr (va_up tf n (some q34))))))), (q34, .inr (1, [.ref xa, .ref xb, .ref xc, .int (nI 0), .int 0, .int 0, .int 0, .int 0, .int 0, .long 0])), (xa, .inl ((ka 1), 32, .inl (fun _ => 0))), (xb, .inl ((ka 1), 32, .inl (fun _ => 0))), (xc, .inl ((ka 0), 32, .inr (.inl (fun _ => 0))))]) [0, 1, 2, 3, 4, 5] (by decide) rfl
  exact W.iret (v := (nI n)) hx hb hr (fun t9 ht hW => ⟨⟨(nI n), (), rfl, rfl, q34, xa, xb, xc, trivial, by rw [ht]; exact hP9, hD9⟩, hS.F ht⟩) hS.2.2 d_Vb_transaction_65
set_option maxHeartbeats 4000000 in
set_option maxRecDepth 100000 in
theorem c_Vb_in_bad (l : Launch) (D : va_G) (ka : Nat → ClassId) (v pa ta te wv : Nat) (size tk sl hz : Int32) (op a : Int32) (b : Int64) (hop : ¬ (¬ op < 0 ∧ op ≤ nI 10)) : Met l y_Vb_instruction w_Vb_instruction ({ frames := 0, cells := 0, slots := 0, locals := 0 }) (pR classes (tyS ka) D [.ref v, .int op, .int a, .long b] ([(v, .inr (4, [.ref pa, .ref ta, .ref te, .ref wv, .int size, .int tk, .int sl, .int hz]))])) (vp_Si (fun r => r = (-1))) 0 0 (fun _ => False) := by
  refine Met.ofW (cc := b_Vb_instruction) (maxL := 6) (ret := (some .int)) (by decide) rfl ?_
  intro pP eE sS mM args below meth cC s1 B hml hv
  obtain ⟨rfl, hP, hK, hN⟩ := hv
  have hx := B.exec
  have hb := B.bytes
  have hr := B.returns
  have hts := atoms_spec (ws := w_Vb_instruction) B.pre
  have hown : sS.vm.findClass "VersionedBlock" = some mM.cls := findClass_of_methodNamed B.named
  have hlocks := B.notSynchronized
  have hl := lv_entry ([.ref v, .int op, .int a, .long b]) (n := 6) (Nat.le_of_ble_eq_true rfl)
  rw [lg_entry_eq]
  generalize (lg_sl ([.ref v, .int op, .int a, .long b]) ++ List.replicate (6 - (lg_sl ([.ref v, .int op, .int a, .long b])).length) Slot.unset).toArray = ls at hl ⊢
  have hl : lv_has ls 6 [(0, .ref v), (1, .int op), (2, .int a), (3, .long b)] := hl
  refine lv_iload_n hx hb d_Vb_instruction_0 rfl (lv_at hl 1 rfl) ?_
  refine lv_if_lt (tgt := 10) hx hb d_Vb_instruction_1 (by decide) (fun c_1 => ?_) (fun c_1 => ?_)
  · refine lv_iconst (v := (-1)) hx hb d_Vb_instruction_10 (by decide) ?_
    exact W.iret (v := (-1)) hx hb hr (fun t9 ht hW => ⟨(-1), rfl, rfl, ht⟩) (fun _ h => by cases h) d_Vb_instruction_11
  · refine lv_iload_n hx hb d_Vb_instruction_4 rfl (lv_at hl 1 rfl) ?_
    refine lv_bipush (v := (nI 10)) hx hb d_Vb_instruction_5 (by decide) ?_
    refine lv_icmp_le (tgt := 12) hx hb d_Vb_instruction_7 (by decide) (fun c_7 => ?_) (fun c_7 => ?_)
    · exact absurd ⟨c_1, c_7⟩ hop
    · refine lv_iconst (v := (-1)) hx hb d_Vb_instruction_10 (by decide) ?_
      exact W.iret (v := (-1)) hx hb hr (fun t9 ht hW => ⟨(-1), rfl, rfl, ht⟩) (fun _ h => by cases h) d_Vb_instruction_11
set_option maxHeartbeats 4000000 in
set_option maxRecDepth 100000 in
theorem c_Vb_in_no (l : Launch) (D : va_G) (ka : Nat → ClassId) (v pa ta te wv : Nat) (tk sl hz : Int32) (op a : Int32) (b : Int64) (hop : ¬ op < 0 ∧ op ≤ nI 10) : Met l y_Vb_instruction w_Vb_instruction ({ frames := 1, cells := 0, slots := 0, locals := 21 }) (pR classes (tyS ka) D [.ref v, .int op, .int a, .long b] ([(v, .inr (4, [.ref pa, .ref ta, .ref te, .ref wv, .int (nI 0), .int tk, .int sl, .int hz]))])) (vp_Si (fun r => r = (-2))) 0 0 (fun _ => False) := by
  refine Met.ofW (cc := b_Vb_instruction) (maxL := 6) (ret := (some .int)) (by decide) rfl ?_
  intro pP eE sS mM args below meth cC s1 B hml hv
  obtain ⟨rfl, hP, hK, hN⟩ := hv
  have hx := B.exec
  have hb := B.bytes
  have hr := B.returns
  have hts := atoms_spec (ws := w_Vb_instruction) B.pre
  have hown : sS.vm.findClass "VersionedBlock" = some mM.cls := findClass_of_methodNamed B.named
  have hlocks := B.notSynchronized
  have hl := lv_entry ([.ref v, .int op, .int a, .long b]) (n := 6) (Nat.le_of_ble_eq_true rfl)
  rw [lg_entry_eq]
  generalize (lg_sl ([.ref v, .int op, .int a, .long b]) ++ List.replicate (6 - (lg_sl ([.ref v, .int op, .int a, .long b])).length) Slot.unset).toArray = ls at hl ⊢
  have hl : lv_has ls 6 [(0, .ref v), (1, .int op), (2, .int a), (3, .long b)] := hl
  refine lv_iload_n hx hb d_Vb_instruction_0 rfl (lv_at hl 1 rfl) ?_
  refine lv_if_lt (tgt := 10) hx hb d_Vb_instruction_1 (by decide) (fun c_1 => absurd c_1 hop.1) (fun c_1 => ?_)
  refine lv_iload_n hx hb d_Vb_instruction_4 rfl (lv_at hl 1 rfl) ?_
  refine lv_bipush (v := (nI 10)) hx hb d_Vb_instruction_5 (by decide) ?_
  refine lv_icmp_le (tgt := 12) hx hb d_Vb_instruction_7 (by decide) (fun c_7 => ?_) (fun c_7 => absurd hop.2 c_7)
  refine lv_aload_n hx hb d_Vb_instruction_12 rfl (lv_at hl 0 rfl) ?_
  refine lv_aload_n hx hb d_Vb_instruction_13 rfl (lv_at hl 0 rfl) ?_
  refine va_get (D := D) (ci := 4) (v := .int (nI 0)) (C := "VersionedBlock") (T := T_Vb) (N := 8) hx hb hts (fun w h => List.mem_cons_of_mem _ (il_Vb w h)) hown hK hP 0 rfl rfl 4 (by decide) (hts _ (List.mem_cons_of_mem _ mw_1_46)) (fun _ h9 => h9) rfl d_Vb_instruction_14 ?_
  refine lv_iconst (v := 1) hx hb d_Vb_instruction_17 (by decide) ?_
  refine lv_isub hx hb d_Vb_instruction_18 ?_
  have hPc := hP.sub (ws' := [(v, .inr (4, [.ref pa, .ref ta, .ref te, .ref wv, .int (nI 0), .int tk, .int sl, .int hz]))]) [0] rfl
  refine va_csq (run_of (va_runV (As := [.int (nI 0 - 1)]) (rest := []) ⟨hx, hb, hml, hown, hts⟩ (c_Vb_tAt_no l D ka v pa ta te wv 0 (nI 0 - 1) tk sl hz (by decide)) ⟨callB_of 1 hts (gd_tb mw_1_134) rfl rfl rfl (hts _ (List.mem_cons_of_mem _ mw_1_1)) (hts _ (List.mem_cons_of_mem _ mw_1_131)) (by decide +kernel) ⟨Nat.le_of_ble_eq_true rfl, Nat.le_of_ble_eq_true rfl⟩, (hts _ (List.mem_cons_of_mem _ mw_1_133)), (hts _ (List.mem_cons_of_mem _ (tb_sel (List.mem_of_getElem? (i := 0) rfl))))⟩ ⟨pR_blind, va_recv hK hPc (ci := 4) (q0 := 0) rfl rfl, pR_pre hK hN hPc⟩ rfl rfl hl.1 rfl (lv_room (Nat.le_of_ble_eq_true rfl)) d_Vb_instruction_19 ⟨Nat.le_of_ble_eq_true rfl, Nat.le_of_ble_eq_true rfl⟩)) (fun r_19 hr_19 => ?_)
  obtain rfl : r_19 = none := hr_19.trans rfl
  refine W.eq (g2 := F0 mM 22 ls [.null]) rfl ?_
  refine lv_astoreN (lv' := [(5, .null), (0, .ref v), (1, .int op), (2, .int a), (3, .long b)]) hx hb d_Vb_instruction_22 hl (by decide) rfl (fun ls hl => ?_)
  refine lv_aloadN hx hb d_Vb_instruction_24 (lv_at hl 0 rfl) ?_
  refine lv_ifnonnullN hx hb d_Vb_instruction_26 ?_
  refine lv_bipush (v := (-2)) hx hb d_Vb_instruction_29 (by decide) ?_
  refine lv_goto (tgt := 42) hx hb d_Vb_instruction_31 (by decide) ?_
  exact W.iret (v := (-2)) hx hb hr (fun t9 ht hW => ⟨(-2), rfl, rfl, ht⟩) (fun _ h => by cases h) d_Vb_instruction_42
set_option maxHeartbeats 4000000 in
set_option maxRecDepth 100000 in
theorem c_Vb_in_full (l : Launch) (D : va_G) (ka : Nat → ClassId) (v pa ta te wv : Nat) (t xa xb xc n : Nat) (tk sl hz : Int32) (kn toc tdn tld tsr : Int32) (trs : Int64) (tf : Nat → Option Nat) (op a : Int32) (b : Int64) (hop : ¬ op < 0 ∧ op ≤ nI 10) (hn : n < 64) (htf : tf n = some t) : Met l y_Vb_instruction w_Vb_instruction ({ frames := 1, cells := 0, slots := 0, locals := 24 }) (pR classes (tyS ka) D [.ref v, .int op, .int a, .long b] ([(v, .inr (4, [.ref pa, .ref ta, .ref te, .ref wv, .int (nI (n + 1)), .int tk, .int sl, .int hz])), (ta, .inl ((ka 3), 64, .inr (.inr (.inr (.inr tf))))), (t, .inr (1, [.ref xa, .ref xb, .ref xc, .int (nI 32), .int kn, .int toc, .int tdn, .int tld, .int tsr, .long trs]))])) (vp_Si (fun r => r = (-3))) 0 0 (fun _ => False) := by
  refine Met.ofW (cc := b_Vb_instruction) (maxL := 6) (ret := (some .int)) (by decide) rfl ?_
  intro pP eE sS mM args below meth cC s1 B hml hv
  obtain ⟨rfl, hP, hK, hN⟩ := hv
  have hx := B.exec
  have hb := B.bytes
  have hr := B.returns
  have hts := atoms_spec (ws := w_Vb_instruction) B.pre
  have hown : sS.vm.findClass "VersionedBlock" = some mM.cls := findClass_of_methodNamed B.named
  have hlocks := B.notSynchronized
  have hl := lv_entry ([.ref v, .int op, .int a, .long b]) (n := 6) (Nat.le_of_ble_eq_true rfl)
  rw [lg_entry_eq]
  generalize (lg_sl ([.ref v, .int op, .int a, .long b]) ++ List.replicate (6 - (lg_sl ([.ref v, .int op, .int a, .long b])).length) Slot.unset).toArray = ls at hl ⊢
  have hl : lv_has ls 6 [(0, .ref v), (1, .int op), (2, .int a), (3, .long b)] := hl
  refine lv_iload_n hx hb d_Vb_instruction_0 rfl (lv_at hl 1 rfl) ?_
  refine lv_if_lt (tgt := 10) hx hb d_Vb_instruction_1 (by decide) (fun c_1 => absurd c_1 hop.1) (fun c_1 => ?_)
  refine lv_iload_n hx hb d_Vb_instruction_4 rfl (lv_at hl 1 rfl) ?_
  refine lv_bipush (v := (nI 10)) hx hb d_Vb_instruction_5 (by decide) ?_
  refine lv_icmp_le (tgt := 12) hx hb d_Vb_instruction_7 (by decide) (fun c_7 => ?_) (fun c_7 => absurd hop.2 c_7)
  refine lv_aload_n hx hb d_Vb_instruction_12 rfl (lv_at hl 0 rfl) ?_
  refine lv_aload_n hx hb d_Vb_instruction_13 rfl (lv_at hl 0 rfl) ?_
  refine va_get (D := D) (ci := 4) (v := .int (nI (n + 1))) (C := "VersionedBlock") (T := T_Vb) (N := 8) hx hb hts (fun w h => List.mem_cons_of_mem _ (il_Vb w h)) hown hK hP 0 rfl rfl 4 (by decide) (hts _ (List.mem_cons_of_mem _ mw_1_46)) (fun _ h9 => h9) rfl d_Vb_instruction_14 ?_
  refine lv_iconst (v := 1) hx hb d_Vb_instruction_17 (by decide) ?_
  refine lv_isub hx hb d_Vb_instruction_18 ?_
  refine lv_topi (fun v_18 ev_18 => ?_)
  obtain rfl : v_18 = nI n := ev_18.trans (nI_pred n)
  have hPc := hP.sub (ws' := [(v, .inr (4, [.ref pa, .ref ta, .ref te, .ref wv, .int (nI (n + 1)), .int tk, .int sl, .int hz])), (ta, .inl ((ka 3), 64, .inr (.inr (.inr (.inr tf)))))]) [0, 1] rfl
  refine va_csq (run_of (va_runV (As := [.int (nI n)]) (rest := []) ⟨hx, hb, hml, hown, hts⟩ (c_Vb_tAt l D ka v pa ta te wv (n + 1) n tk sl hz tf (by omega) (by omega)) ⟨callB_of 1 hts (gd_tb mw_1_134) rfl rfl rfl (hts _ (List.mem_cons_of_mem _ mw_1_1)) (hts _ (List.mem_cons_of_mem _ mw_1_131)) (by decide +kernel) ⟨Nat.le_of_ble_eq_true rfl, Nat.le_of_ble_eq_true rfl⟩, (hts _ (List.mem_cons_of_mem _ mw_1_133)), (hts _ (List.mem_cons_of_mem _ (tb_sel (List.mem_of_getElem? (i := 0) rfl))))⟩ ⟨pR_blind, va_recv hK hPc (ci := 4) (q0 := 0) rfl rfl, pR_pre hK hN hPc⟩ rfl rfl hl.1 rfl (lv_room (Nat.le_of_ble_eq_true rfl)) d_Vb_instruction_19 ⟨Nat.le_of_ble_eq_true rfl, Nat.le_of_ble_eq_true rfl⟩)) (fun r_19 hr_19 => ?_)
  obtain rfl : r_19 = some t := hr_19.trans htf
  refine W.eq (g2 := F0 mM 22 ls [.ref t]) rfl ?_
  refine lv_astore (lv' := [(5, .ref t), (0, .ref v), (1, .int op), (2, .int a), (3, .long b)]) hx hb d_Vb_instruction_22 hl (by decide) rfl (fun ls hl => ?_)
  refine lv_aload hx hb d_Vb_instruction_24 (lv_at hl 0 rfl) ?_
  refine lv_ifnonnull (tgt := 34) hx hb d_Vb_instruction_26 (by decide) ?_
  refine lv_aload hx hb d_Vb_instruction_34 (lv_at hl 0 rfl) ?_
  refine lv_iload_n hx hb d_Vb_instruction_36 rfl (lv_at hl 2 rfl) ?_
  refine lv_iload_n hx hb d_Vb_instruction_37 rfl (lv_at hl 3 rfl) ?_
  refine lv_lload_n hx hb d_Vb_instruction_38 rfl (lv_at hl 4 rfl) ?_
  have hPc := hP.sub (ws' := [(t, .inr (1, [.ref xa, .ref xb, .ref xc, .int (nI 32), .int kn, .int toc, .int tdn, .int tld, .int tsr, .long trs]))]) [2] rfl
  refine vp_callSi (run_of (va_runV (As := [.int op, .int a, .long b]) (rest := []) ⟨hx, hb, hml, hown, hts⟩ (c_Tr_append_full l D ka t xa xb xc kn toc tdn tld tsr trs op a b ) ⟨callB_of 3 hts (gd_tb mw_1_138) rfl rfl rfl (hts _ (List.mem_cons_of_mem _ mw_1_5)) (hts _ (List.mem_cons_of_mem _ mw_1_135)) (by decide +kernel) ⟨Nat.le_of_ble_eq_true rfl, Nat.le_of_ble_eq_true rfl⟩, (hts _ (List.mem_cons_of_mem _ mw_1_136)), (hts _ (List.mem_cons_of_mem _ mw_1_137))⟩ ⟨pR_blind, va_recv hK hPc (ci := 1) (q0 := 0) rfl rfl, pR_pre hK hN hPc⟩ rfl rfl hl.1 rfl (lv_room (Nat.le_of_ble_eq_true rfl)) d_Vb_instruction_39 ⟨Nat.le_of_ble_eq_true rfl, Nat.le_of_ble_eq_true rfl⟩)) (fun r_39 hr_39 => ?_)
  obtain rfl : r_39 = (-3) := hr_39
  exact W.iret (v := (-3)) hx hb hr (fun t9 ht hW => ⟨(-3), rfl, rfl, ht⟩) (fun _ h => by cases h) d_Vb_instruction_42
set_option maxHeartbeats 4000000 in
set_option maxRecDepth 100000 in
theorem c_Vb_in (l : Launch) (D : va_G) (ka : Nat → ClassId) (sz : Nat) (v pa ta te wv : Nat) (t xa xb xc n k : Nat) (tk sl hz : Int32) (kn toc tdn tld tsr : Int32) (trs : Int64) (ops fs : Nat → Int32) (ss : Nat → Int64) (tf : Nat → Option Nat) (op a : Int32) (b : Int64) (hop : ¬ op < 0 ∧ op ≤ nI 10) (hn : n < 64) (htf : tf n = some t) (hk : k < 32) : Met l y_Vb_instruction w_Vb_instruction ({ frames := 1, cells := 0, slots := 0, locals := 24 }) (pW classes (tyS ka) D [.ref v, .int op, .int a, .long b] ([(v, .inr (4, [.ref pa, .ref ta, .ref te, .ref wv, .int (nI (n + 1)), .int tk, .int sl, .int hz])), (ta, .inl ((ka 3), 64, .inr (.inr (.inr (.inr tf))))), (t, .inr (1, [.ref xa, .ref xb, .ref xc, .int (nI k), .int kn, .int toc, .int tdn, .int tld, .int tsr, .long trs])), (xa, .inl ((ka 1), 32, .inl ops)), (xb, .inl ((ka 1), 32, .inl fs)), (xc, .inl ((ka 0), 32, .inr (.inl ss)))]) sz) (va_Qi (fun (r : Int32) (_ : Unit) => r = (nI (k + 1))) (fun (_ : Unit) t9 => (True) ∧ va_P D classes ([(v, .inr (4, [.ref pa, .ref ta, .ref te, .ref wv, .int (nI (n + 1)), .int tk, .int sl, .int hz])), (ta, .inl ((ka 3), 64, .inr (.inr (.inr (.inr tf))))), (t, .inr (1, [.ref xa, .ref xb, .ref xc, .int (nI (k + 1)), .int 0, .int toc, .int tdn, .int tld, .int tsr, .long trs])), (xa, .inl ((ka 1), 32, .inl (upd ops k op))), (xb, .inl ((ka 1), 32, .inl (upd fs k a))), (xc, .inl ((ka 0), 32, .inr (.inl (vp_updL ss k b))))]) t9.heap ∧ va_D (va_A ([(v, .inr (4, [.ref pa, .ref ta, .ref te, .ref wv, .int (nI (n + 1)), .int tk, .int sl, .int hz])), (ta, .inl ((ka 3), 64, .inr (.inr (.inr (.inr tf))))), (t, .inr (1, [.ref xa, .ref xb, .ref xc, .int (nI k), .int kn, .int toc, .int tdn, .int tld, .int tsr, .long trs])), (xa, .inl ((ka 1), 32, .inl ops)), (xb, .inl ((ka 1), 32, .inl fs)), (xc, .inl ((ka 0), 32, .inr (.inl ss)))]) sz) ([(v, .inr (4, [.ref pa, .ref ta, .ref te, .ref wv, .int (nI (n + 1)), .int tk, .int sl, .int hz])), (ta, .inl ((ka 3), 64, .inr (.inr (.inr (.inr tf))))), (t, .inr (1, [.ref xa, .ref xb, .ref xc, .int (nI (k + 1)), .int 0, .int toc, .int tdn, .int tld, .int tsr, .long trs])), (xa, .inl ((ka 1), 32, .inl (upd ops k op))), (xb, .inl ((ka 1), 32, .inl (upd fs k a))), (xc, .inl ((ka 0), 32, .inr (.inl (vp_updL ss k b))))])) (va_A ([(v, .inr (4, [.ref pa, .ref ta, .ref te, .ref wv, .int (nI (n + 1)), .int tk, .int sl, .int hz])), (ta, .inl ((ka 3), 64, .inr (.inr (.inr (.inr tf))))), (t, .inr (1, [.ref xa, .ref xb, .ref xc, .int (nI k), .int kn, .int toc, .int tdn, .int tld, .int tsr, .long trs])), (xa, .inl ((ka 1), 32, .inl ops)), (xb, .inl ((ka 1), 32, .inl fs)), (xc, .inl ((ka 0), 32, .inr (.inl ss)))]) sz)) 0 0 (va_A ([(v, .inr (4, [.ref pa, .ref ta, .ref te, .ref wv, .int (nI (n + 1)), .int tk, .int sl, .int hz])), (ta, .inl ((ka 3), 64, .inr (.inr (.inr (.inr tf))))), (t, .inr (1, [.ref xa, .ref xb, .ref xc, .int (nI k), .int kn, .int toc, .int tdn, .int tld, .int tsr, .long trs])), (xa, .inl ((ka 1), 32, .inl ops)), (xb, .inl ((ka 1), 32, .inl fs)), (xc, .inl ((ka 0), 32, .inr (.inl ss)))]) sz) := by
  refine Met.ofW (cc := b_Vb_instruction) (maxL := 6) (ret := (some .int)) (by decide) rfl ?_
  intro pP eE sS mM args below meth cC s1 B hml hv
  obtain ⟨rfl, hsz, hP, hK, hN, hD0⟩ := hv
  have hx := B.exec
  have hb := B.bytes
  have hr := B.returns
  have hts := atoms_spec (ws := w_Vb_instruction) B.pre
  have hown : sS.vm.findClass "VersionedBlock" = some mM.cls := findClass_of_methodNamed B.named
  have hlocks := B.notSynchronized
  subst hsz
  have hD := hD0.self (sz := sS.heap.size)
  generalize hAe : va_A ([(v, .inr (4, [.ref pa, .ref ta, .ref te, .ref wv, .int (nI (n + 1)), .int tk, .int sl, .int hz])), (ta, .inl ((ka 3), 64, .inr (.inr (.inr (.inr tf))))), (t, .inr (1, [.ref xa, .ref xb, .ref xc, .int (nI k), .int kn, .int toc, .int tdn, .int tld, .int tsr, .long trs])), (xa, .inl ((ka 1), 32, .inl ops)), (xb, .inl ((ka 1), 32, .inl fs)), (xc, .inl ((ka 0), 32, .inr (.inl ss)))]) sS.heap.size = A at hD ⊢
  have hA : ∀ q : Nat, sS.heap.size ≤ q → A q := fun q h => by rw [← hAe]; exact Or.inr h
  have hS : va_S A sS.heap sS.heap [] := va_S.rf
  have hl := lv_entry ([.ref v, .int op, .int a, .long b]) (n := 6) (Nat.le_of_ble_eq_true rfl)
  rw [lg_entry_eq]
  generalize (lg_sl ([.ref v, .int op, .int a, .long b]) ++ List.replicate (6 - (lg_sl ([.ref v, .int op, .int a, .long b])).length) Slot.unset).toArray = ls at hl ⊢
  have hl : lv_has ls 6 [(0, .ref v), (1, .int op), (2, .int a), (3, .long b)] := hl
  refine lv_iload_n hx hb d_Vb_instruction_0 rfl (lv_at hl 1 rfl) ?_
  refine lv_if_lt (tgt := 10) hx hb d_Vb_instruction_1 (by decide) (fun c_1 => absurd c_1 hop.1) (fun c_1 => ?_)
  refine lv_iload_n hx hb d_Vb_instruction_4 rfl (lv_at hl 1 rfl) ?_
  refine lv_bipush (v := (nI 10)) hx hb d_Vb_instruction_5 (by decide) ?_
  refine lv_icmp_le (tgt := 12) hx hb d_Vb_instruction_7 (by decide) (fun c_7 => ?_) (fun c_7 => absurd hop.2 c_7)
  refine lv_aload_n hx hb d_Vb_instruction_12 rfl (lv_at hl 0 rfl) ?_
  refine lv_aload_n hx hb d_Vb_instruction_13 rfl (lv_at hl 0 rfl) ?_
  refine va_get (D := D) (ci := 4) (v := .int (nI (n + 1))) (C := "VersionedBlock") (T := T_Vb) (N := 8) hx hb hts (fun w h => List.mem_cons_of_mem _ (il_Vb w h)) hown hK hP 0 rfl rfl 4 (by decide) (hts _ (List.mem_cons_of_mem _ mw_1_46)) (fun _ h9 => h9) rfl d_Vb_instruction_14 ?_
  refine lv_iconst (v := 1) hx hb d_Vb_instruction_17 (by decide) ?_
  refine lv_isub hx hb d_Vb_instruction_18 ?_
  refine lv_topi (fun v_18 ev_18 => ?_)
  obtain rfl : v_18 = nI n := ev_18.trans (nI_pred n)
  have hPc := hP.sub (ws' := [(v, .inr (4, [.ref pa, .ref ta, .ref te, .ref wv, .int (nI (n + 1)), .int tk, .int sl, .int hz])), (ta, .inl ((ka 3), 64, .inr (.inr (.inr (.inr tf)))))]) [0, 1] rfl
  refine va_csq (run_of (va_runV (As := [.int (nI n)]) (rest := []) ⟨hx, hb, hml, hown, hts⟩ (c_Vb_tAt l D ka v pa ta te wv (n + 1) n tk sl hz tf (by omega) (by omega)) ⟨callB_of 1 hts (gd_tb mw_1_134) rfl rfl rfl (hts _ (List.mem_cons_of_mem _ mw_1_1)) (hts _ (List.mem_cons_of_mem _ mw_1_131)) (by decide +kernel) ⟨Nat.le_of_ble_eq_true rfl, Nat.le_of_ble_eq_true rfl⟩, (hts _ (List.mem_cons_of_mem _ mw_1_133)), (hts _ (List.mem_cons_of_mem _ (tb_sel (List.mem_of_getElem? (i := 0) rfl))))⟩ ⟨pR_blind, va_recv hK hPc (ci := 4) (q0 := 0) rfl rfl, pR_pre hK hN hPc⟩ rfl rfl hl.1 rfl (lv_room (Nat.le_of_ble_eq_true rfl)) d_Vb_instruction_19 ⟨Nat.le_of_ble_eq_true rfl, Nat.le_of_ble_eq_true rfl⟩)) (fun r_19 hr_19 => ?_)
  obtain rfl : r_19 = some t := hr_19.trans htf
  refine W.eq (g2 := F0 mM 22 ls [.ref t]) rfl ?_
  refine lv_astore (lv' := [(5, .ref t), (0, .ref v), (1, .int op), (2, .int a), (3, .long b)]) hx hb d_Vb_instruction_22 hl (by decide) rfl (fun ls hl => ?_)
  refine lv_aload hx hb d_Vb_instruction_24 (lv_at hl 0 rfl) ?_
  refine lv_ifnonnull (tgt := 34) hx hb d_Vb_instruction_26 (by decide) ?_
  refine lv_aload hx hb d_Vb_instruction_34 (lv_at hl 0 rfl) ?_
  refine lv_iload_n hx hb d_Vb_instruction_36 rfl (lv_at hl 2 rfl) ?_
  refine lv_iload_n hx hb d_Vb_instruction_37 rfl (lv_at hl 3 rfl) ?_
  refine lv_lload_n hx hb d_Vb_instruction_38 rfl (lv_at hl 4 rfl) ?_
  have hPc := hP.sub (ws' := [(t, .inr (1, [.ref xa, .ref xb, .ref xc, .int (nI k), .int kn, .int toc, .int tdn, .int tld, .int tsr, .long trs])), (xa, .inl ((ka 1), 32, .inl ops)), (xb, .inl ((ka 1), 32, .inl fs)), (xc, .inl ((ka 0), 32, .inr (.inl ss)))]) [2, 3, 4, 5] rfl
  have hDc := hD.sub (ws' := [(t, .inr (1, [.ref xa, .ref xb, .ref xc, .int (nI k), .int kn, .int toc, .int tdn, .int tld, .int tsr, .long trs])), (xa, .inl ((ka 1), 32, .inl ops)), (xb, .inl ((ka 1), 32, .inl fs)), (xc, .inl ((ka 0), 32, .inr (.inl ss)))]) [2, 3, 4, 5] (by decide) rfl
  have hFc := va_free (wc := [(t, .inr (1, [.ref xa, .ref xb, .ref xc, .int (nI k), .int kn, .int toc, .int tdn, .int tld, .int tsr, .long trs])), (xa, .inl ((ka 1), 32, .inl ops)), (xb, .inl ((ka 1), 32, .inl fs)), (xc, .inl ((ka 0), 32, .inr (.inl ss)))]) hD hS hA [2, 3, 4, 5] rfl
  refine va_calli (va_runV (As := [.int op, .int a, .long b]) (rest := []) ⟨hx, hb, hml, hown, hts⟩ (c_Tr_append l D ka sS.heap.size t xa xb xc k kn toc tdn tld tsr trs ops fs ss op a b hk) ⟨callB_of 3 hts (gd_tb mw_1_138) rfl rfl rfl (hts _ (List.mem_cons_of_mem _ mw_1_5)) (hts _ (List.mem_cons_of_mem _ mw_1_135)) (by decide +kernel) ⟨Nat.le_of_ble_eq_true rfl, Nat.le_of_ble_eq_true rfl⟩, (hts _ (List.mem_cons_of_mem _ mw_1_136)), (hts _ (List.mem_cons_of_mem _ mw_1_137))⟩ ⟨pW_blind, va_recv hK hPc (ci := 1) (q0 := 0) rfl rfl, pW_pre hK hN hPc hDc⟩ rfl rfl hl.1 rfl (lv_room (Nat.le_of_ble_eq_true rfl)) d_Vb_instruction_39 ⟨Nat.le_of_ble_eq_true rfl, Nat.le_of_ble_eq_true rfl⟩) hS (fun q _ h => hFc q h) hFc (fun r_39 u9 t9 H1 locs ht hvm hr_39 hB hz1 hk1 hS => ?_)
  obtain ⟨hrel_39, hP1, hD1⟩ := hB
  rw [ht] at hP1
  obtain ⟨hP, hD⟩ := va_join (wr := [(v, .inr (4, [.ref pa, .ref ta, .ref te, .ref wv, .int (nI (n + 1)), .int tk, .int sl, .int hz])), (ta, .inl ((ka 3), 64, .inr (.inr (.inr (.inr tf)))))]) (w1 := [(t, .inr (1, [.ref xa, .ref xb, .ref xc, .int (nI (k + 1)), .int 0, .int toc, .int tdn, .int tld, .int tsr, .long trs])), (xa, .inl ((ka 1), 32, .inl (upd ops k op))), (xb, .inl ((ka 1), 32, .inl (upd fs k a))), (xc, .inl ((ka 0), 32, .inr (.inl (vp_updL ss k b))))]) hP hD [2, 3, 4, 5] [0, 1] rfl rfl (by decide) (by decide) hk1 hFc hP1 hD1
  generalize H1 = H at hP hS ⊢
  have hP : va_P D classes ([(v, .inr (4, [.ref pa, .ref ta, .ref te, .ref wv, .int (nI (n + 1)), .int tk, .int sl, .int hz])), (ta, .inl ((ka 3), 64, .inr (.inr (.inr (.inr tf))))), (t, .inr (1, [.ref xa, .ref xb, .ref xc, .int (nI (k + 1)), .int 0, .int toc, .int tdn, .int tld, .int tsr, .long trs])), (xa, .inl ((ka 1), 32, .inl (upd ops k op))), (xb, .inl ((ka 1), 32, .inl (upd fs k a))), (xc, .inl ((ka 0), 32, .inr (.inl (vp_updL ss k b))))]) H := hP
  have hD : va_D A ([(v, .inr (4, [.ref pa, .ref ta, .ref te, .ref wv, .int (nI (n + 1)), .int tk, .int sl, .int hz])), (ta, .inl ((ka 3), 64, .inr (.inr (.inr (.inr tf))))), (t, .inr (1, [.ref xa, .ref xb, .ref xc, .int (nI (k + 1)), .int 0, .int toc, .int tdn, .int tld, .int tsr, .long trs])), (xa, .inl ((ka 1), 32, .inl (upd ops k op))), (xb, .inl ((ka 1), 32, .inl (upd fs k a))), (xc, .inl ((ka 0), 32, .inr (.inl (vp_updL ss k b))))]) := hD
  obtain rfl : r_39 = (nI (k + 1)) := hr_39
  have hP9 := hP.sub (ws' := [(v, .inr (4, [.ref pa, .ref ta, .ref te, .ref wv, .int (nI (n + 1)), .int tk, .int sl, .int hz])), (ta, .inl ((ka 3), 64, .inr (.inr (.inr (.inr tf))))), (t, .inr (1, [.ref xa, .ref xb, .ref xc, .int (nI (k + 1)), .int 0, .int toc, .int tdn, .int tld, .int tsr, .long trs])), (xa, .inl ((ka 1), 32, .inl (upd ops k op))), (xb, .inl ((ka 1), 32, .inl (upd fs k a))), (xc, .inl ((ka 0), 32, .inr (.inl (vp_updL ss k b))))]) [0, 1, 2, 3, 4, 5] rfl
  have hD9 := hD.sub (ws' := [(v, .inr (4, [.ref pa, .ref ta, .ref te, .ref wv, .int (nI (n + 1)), .int tk, .int sl, .int hz])), (ta, .inl ((ka 3), 64, .inr (.inr (.inr (.inr tf))))), (t, .inr (1, [.ref xa, .ref xb, .ref xc, .int (nI (k + 1)), .int 0, .int toc, .int tdn, .int tld, .int tsr, .long trs])), (xa, .inl ((ka 1), 32, .inl (upd ops k op))), (xb, .inl ((ka 1), 32, .inl (upd fs k a))), (xc, .inl ((ka 0), 32, .inr (.inl (vp_updL ss k b))))]) [0, 1, 2, 3, 4, 5] (by decide) rfl
  exact W.iret (v := (nI (k + 1))) hx hb hr (fun t9 ht hW => ⟨⟨(nI (k + 1)), (), rfl, rfl, trivial, by rw [ht]; exact hP9, hD9⟩, hS.F ht⟩) hS.2.2 d_Vb_instruction_42
set_option maxHeartbeats 4000000 in
set_option maxRecDepth 100000 in
theorem c_Vb_told_no (l : Launch) (D : va_G) (ka : Nat → ClassId) (v pa ta te wv : Nat) (n : Nat) (x y : Int32) (tk sl hz : Int32) (hx0 : ¬ (¬ x < 0 ∧ ¬ nI n ≤ x)) : Met l y_Vb_told w_Vb_told ({ frames := 1, cells := 0, slots := 0, locals := 21 }) (pR classes (tyS ka) D [.ref v, .int x, .int y] ([(v, .inr (4, [.ref pa, .ref ta, .ref te, .ref wv, .int (nI n), .int tk, .int sl, .int hz]))])) (vp_Si (fun r => r = (-1))) 0 0 (fun _ => False) := by
  refine Met.ofW (cc := b_Vb_told) (maxL := 4) (ret := (some .int)) (by decide) rfl ?_
  intro pP eE sS mM args below meth cC s1 B hml hv
  obtain ⟨rfl, hP, hK, hN⟩ := hv
  have hx := B.exec
  have hb := B.bytes
  have hr := B.returns
  have hts := atoms_spec (ws := w_Vb_told) B.pre
  have hown : sS.vm.findClass "VersionedBlock" = some mM.cls := findClass_of_methodNamed B.named
  have hlocks := B.notSynchronized
  have hl := lv_entry ([.ref v, .int x, .int y]) (n := 4) (Nat.le_of_ble_eq_true rfl)
  rw [lg_entry_eq]
  generalize (lg_sl ([.ref v, .int x, .int y]) ++ List.replicate (4 - (lg_sl ([.ref v, .int x, .int y])).length) Slot.unset).toArray = ls at hl ⊢
  have hl : lv_has ls 4 [(0, .ref v), (1, .int x), (2, .int y)] := hl
  refine lv_aload_n hx hb d_Vb_told_0 rfl (lv_at hl 0 rfl) ?_
  refine lv_iload_n hx hb d_Vb_told_1 rfl (lv_at hl 1 rfl) ?_
  have hPc := hP.sub (ws' := [(v, .inr (4, [.ref pa, .ref ta, .ref te, .ref wv, .int (nI n), .int tk, .int sl, .int hz]))]) [0] rfl
  refine va_csq (run_of (va_runV (As := [.int x]) (rest := []) ⟨hx, hb, hml, hown, hts⟩ (c_Vb_tAt_no l D ka v pa ta te wv n x tk sl hz hx0) ⟨callB_of 1 hts (gd_tb mw_1_134) rfl rfl rfl (hts _ (List.mem_cons_of_mem _ mw_1_1)) (hts _ (List.mem_cons_of_mem _ mw_1_131)) (by decide +kernel) ⟨Nat.le_of_ble_eq_true rfl, Nat.le_of_ble_eq_true rfl⟩, (hts _ (List.mem_cons_of_mem _ mw_1_133)), (hts _ (List.mem_cons_of_mem _ (tb_sel (List.mem_of_getElem? (i := 0) rfl))))⟩ ⟨pR_blind, va_recv hK hPc (ci := 4) (q0 := 0) rfl rfl, pR_pre hK hN hPc⟩ rfl rfl hl.1 rfl (lv_room (Nat.le_of_ble_eq_true rfl)) d_Vb_told_2 ⟨Nat.le_of_ble_eq_true rfl, Nat.le_of_ble_eq_true rfl⟩)) (fun r_2 hr_2 => ?_)
  obtain rfl : r_2 = none := hr_2.trans rfl
  refine W.eq (g2 := F0 mM 5 ls [.null]) rfl ?_
  refine lv_astore_nN (lv' := [(3, .null), (0, .ref v), (1, .int x), (2, .int y)]) hx hb d_Vb_told_5 rfl hl (by decide) rfl (fun ls hl => ?_)
  refine lv_aload_nN hx hb d_Vb_told_6 rfl (lv_at hl 0 rfl) ?_
  refine lv_ifnonnullN hx hb d_Vb_told_7 ?_
  refine lv_iconst (v := (-1)) hx hb d_Vb_told_10 (by decide) ?_
  refine lv_goto (tgt := 19) hx hb d_Vb_told_11 (by decide) ?_
  exact W.iret (v := (-1)) hx hb hr (fun t9 ht hW => ⟨(-1), rfl, rfl, ht⟩) (fun _ h => by cases h) d_Vb_told_19
set_option maxHeartbeats 4000000 in
set_option maxRecDepth 100000 in
theorem c_Vb_told (l : Launch) (D : va_G) (ka : Nat → ClassId) (v pa ta te wv : Nat) (t xa xb xc n j : Nat) (tk sl hz : Int32) (tln kn toc tdn tld tsr : Int32) (trs : Int64) (tf : Nat → Option Nat) (y : Int32) (hj : j < n) (hn : n ≤ 64) (htf : tf j = some t) : Met l y_Vb_told w_Vb_told ({ frames := 1, cells := 0, slots := 0, locals := 21 }) (pR classes (tyS ka) D [.ref v, .int (nI j), .int y] ([(v, .inr (4, [.ref pa, .ref ta, .ref te, .ref wv, .int (nI n), .int tk, .int sl, .int hz])), (ta, .inl ((ka 3), 64, .inr (.inr (.inr (.inr tf))))), (t, .inr (1, [.ref xa, .ref xb, .ref xc, .int tln, .int kn, .int toc, .int tdn, .int tld, .int tsr, .long trs]))])) (vp_Si (fun r => r = (tl_ans kn toc tdn tld tsr y))) 0 0 (fun _ => False) := by
  refine Met.ofW (cc := b_Vb_told) (maxL := 4) (ret := (some .int)) (by decide) rfl ?_
  intro pP eE sS mM args below meth cC s1 B hml hv
  obtain ⟨rfl, hP, hK, hN⟩ := hv
  have hx := B.exec
  have hb := B.bytes
  have hr := B.returns
  have hts := atoms_spec (ws := w_Vb_told) B.pre
  have hown : sS.vm.findClass "VersionedBlock" = some mM.cls := findClass_of_methodNamed B.named
  have hlocks := B.notSynchronized
  have hl := lv_entry ([.ref v, .int (nI j), .int y]) (n := 4) (Nat.le_of_ble_eq_true rfl)
  rw [lg_entry_eq]
  generalize (lg_sl ([.ref v, .int (nI j), .int y]) ++ List.replicate (4 - (lg_sl ([.ref v, .int (nI j), .int y])).length) Slot.unset).toArray = ls at hl ⊢
  have hl : lv_has ls 4 [(0, .ref v), (1, .int (nI j)), (2, .int y)] := hl
  refine lv_aload_n hx hb d_Vb_told_0 rfl (lv_at hl 0 rfl) ?_
  refine lv_iload_n hx hb d_Vb_told_1 rfl (lv_at hl 1 rfl) ?_
  have hPc := hP.sub (ws' := [(v, .inr (4, [.ref pa, .ref ta, .ref te, .ref wv, .int (nI n), .int tk, .int sl, .int hz])), (ta, .inl ((ka 3), 64, .inr (.inr (.inr (.inr tf)))))]) [0, 1] rfl
  refine va_csq (run_of (va_runV (As := [.int (nI j)]) (rest := []) ⟨hx, hb, hml, hown, hts⟩ (c_Vb_tAt l D ka v pa ta te wv n j tk sl hz tf hj hn) ⟨callB_of 1 hts (gd_tb mw_1_134) rfl rfl rfl (hts _ (List.mem_cons_of_mem _ mw_1_1)) (hts _ (List.mem_cons_of_mem _ mw_1_131)) (by decide +kernel) ⟨Nat.le_of_ble_eq_true rfl, Nat.le_of_ble_eq_true rfl⟩, (hts _ (List.mem_cons_of_mem _ mw_1_133)), (hts _ (List.mem_cons_of_mem _ (tb_sel (List.mem_of_getElem? (i := 0) rfl))))⟩ ⟨pR_blind, va_recv hK hPc (ci := 4) (q0 := 0) rfl rfl, pR_pre hK hN hPc⟩ rfl rfl hl.1 rfl (lv_room (Nat.le_of_ble_eq_true rfl)) d_Vb_told_2 ⟨Nat.le_of_ble_eq_true rfl, Nat.le_of_ble_eq_true rfl⟩)) (fun r_2 hr_2 => ?_)
  obtain rfl : r_2 = some t := hr_2.trans htf
  refine W.eq (g2 := F0 mM 5 ls [.ref t]) rfl ?_
  refine lv_astore_n (lv' := [(3, .ref t), (0, .ref v), (1, .int (nI j)), (2, .int y)]) hx hb d_Vb_told_5 rfl hl (by decide) rfl (fun ls hl => ?_)
  refine lv_aload_n hx hb d_Vb_told_6 rfl (lv_at hl 0 rfl) ?_
  refine lv_ifnonnull (tgt := 14) hx hb d_Vb_told_7 (by decide) ?_
  refine lv_aload_n hx hb d_Vb_told_14 rfl (lv_at hl 0 rfl) ?_
  refine lv_iload_n hx hb d_Vb_told_15 rfl (lv_at hl 3 rfl) ?_
  have hPc := hP.sub (ws' := [(t, .inr (1, [.ref xa, .ref xb, .ref xc, .int tln, .int kn, .int toc, .int tdn, .int tld, .int tsr, .long trs]))]) [2] rfl
  refine vp_callSi (run_of (va_runV (As := [.int y]) (rest := []) ⟨hx, hb, hml, hown, hts⟩ (c_Tr_tell l D ka t xa xb xc tln kn toc tdn tld tsr trs y ) ⟨callB_of 1 hts (gd_tb mw_2_127) rfl rfl rfl (hts _ (List.mem_cons_of_mem _ mw_1_5)) (hts _ (List.mem_cons_of_mem _ mw_2_124)) (by decide +kernel) ⟨Nat.le_of_ble_eq_true rfl, Nat.le_of_ble_eq_true rfl⟩, (hts _ (List.mem_cons_of_mem _ mw_2_125)), (hts _ (List.mem_cons_of_mem _ mw_2_126))⟩ ⟨pR_blind, va_recv hK hPc (ci := 1) (q0 := 0) rfl rfl, pR_pre hK hN hPc⟩ rfl rfl hl.1 rfl (lv_room (Nat.le_of_ble_eq_true rfl)) d_Vb_told_16 ⟨Nat.le_of_ble_eq_true rfl, Nat.le_of_ble_eq_true rfl⟩)) (fun r_16 hr_16 => ?_)
  obtain rfl : r_16 = (tl_ans kn toc tdn tld tsr y) := hr_16
  exact W.iret (v := (tl_ans kn toc tdn tld tsr y)) hx hb hr (fun t9 ht hW => ⟨(tl_ans kn toc tdn tld tsr y), rfl, rfl, ht⟩) (fun _ h => by cases h) d_Vb_told_19
set_option maxHeartbeats 4000000 in
set_option maxRecDepth 100000 in
theorem c_Vb_res_no (l : Launch) (D : va_G) (ka : Nat → ClassId) (v pa ta te wv : Nat) (n : Nat) (x : Int32) (tk sl hz : Int32) (hx0 : ¬ (¬ x < 0 ∧ ¬ nI n ≤ x)) : Met l y_Vb_result w_Vb_result ({ frames := 1, cells := 0, slots := 0, locals := 21 }) (pR classes (tyS ka) D [.ref v, .int x] ([(v, .inr (4, [.ref pa, .ref ta, .ref te, .ref wv, .int (nI n), .int tk, .int sl, .int hz]))])) (vp_Sl (fun r => r = 0)) 0 0 (fun _ => False) := by
  refine Met.ofW (cc := b_Vb_result) (maxL := 3) (ret := (some .long)) (by decide) rfl ?_
  intro pP eE sS mM args below meth cC s1 B hml hv
  obtain ⟨rfl, hP, hK, hN⟩ := hv
  have hx := B.exec
  have hb := B.bytes
  have hr := B.returns
  have hts := atoms_spec (ws := w_Vb_result) B.pre
  have hown : sS.vm.findClass "VersionedBlock" = some mM.cls := findClass_of_methodNamed B.named
  have hlocks := B.notSynchronized
  have hl := lv_entry ([.ref v, .int x]) (n := 3) (Nat.le_of_ble_eq_true rfl)
  rw [lg_entry_eq]
  generalize (lg_sl ([.ref v, .int x]) ++ List.replicate (3 - (lg_sl ([.ref v, .int x])).length) Slot.unset).toArray = ls at hl ⊢
  have hl : lv_has ls 3 [(0, .ref v), (1, .int x)] := hl
  refine lv_aload_n hx hb d_Vb_result_0 rfl (lv_at hl 0 rfl) ?_
  refine lv_iload_n hx hb d_Vb_result_1 rfl (lv_at hl 1 rfl) ?_
  have hPc := hP.sub (ws' := [(v, .inr (4, [.ref pa, .ref ta, .ref te, .ref wv, .int (nI n), .int tk, .int sl, .int hz]))]) [0] rfl
  refine va_csq (run_of (va_runV (As := [.int x]) (rest := []) ⟨hx, hb, hml, hown, hts⟩ (c_Vb_tAt_no l D ka v pa ta te wv n x tk sl hz hx0) ⟨callB_of 1 hts (gd_tb mw_1_134) rfl rfl rfl (hts _ (List.mem_cons_of_mem _ mw_1_1)) (hts _ (List.mem_cons_of_mem _ mw_1_131)) (by decide +kernel) ⟨Nat.le_of_ble_eq_true rfl, Nat.le_of_ble_eq_true rfl⟩, (hts _ (List.mem_cons_of_mem _ mw_1_133)), (hts _ (List.mem_cons_of_mem _ (tb_sel (List.mem_of_getElem? (i := 0) rfl))))⟩ ⟨pR_blind, va_recv hK hPc (ci := 4) (q0 := 0) rfl rfl, pR_pre hK hN hPc⟩ rfl rfl hl.1 rfl (lv_room (Nat.le_of_ble_eq_true rfl)) d_Vb_result_2 ⟨Nat.le_of_ble_eq_true rfl, Nat.le_of_ble_eq_true rfl⟩)) (fun r_2 hr_2 => ?_)
  obtain rfl : r_2 = none := hr_2.trans rfl
  refine W.eq (g2 := F0 mM 5 ls [.null]) rfl ?_
  refine lv_astore_nN (lv' := [(2, .null), (0, .ref v), (1, .int x)]) hx hb d_Vb_result_5 rfl hl (by decide) rfl (fun ls hl => ?_)
  refine lv_aload_nN hx hb d_Vb_result_6 rfl (lv_at hl 0 rfl) ?_
  refine lv_ifnonnullN hx hb d_Vb_result_7 ?_
  refine lv_lconst (v := 0) hx hb d_Vb_result_10 (by decide) ?_
  refine lv_goto (tgt := 18) hx hb d_Vb_result_11 (by decide) ?_
  exact W.lret (v := 0) hx hb hr (fun t9 ht hW => ⟨0, rfl, rfl, ht⟩) (fun _ h => by cases h) d_Vb_result_18
set_option maxHeartbeats 4000000 in
set_option maxRecDepth 100000 in
theorem c_Vb_res (l : Launch) (D : va_G) (ka : Nat → ClassId) (v pa ta te wv : Nat) (t xa xb xc n j : Nat) (tk sl hz : Int32) (tln kn toc tdn tld tsr : Int32) (trs : Int64) (tf : Nat → Option Nat) (hj : j < n) (hn : n ≤ 64) (htf : tf j = some t) : Met l y_Vb_result w_Vb_result ({ frames := 1, cells := 0, slots := 0, locals := 21 }) (pR classes (tyS ka) D [.ref v, .int (nI j)] ([(v, .inr (4, [.ref pa, .ref ta, .ref te, .ref wv, .int (nI n), .int tk, .int sl, .int hz])), (ta, .inl ((ka 3), 64, .inr (.inr (.inr (.inr tf))))), (t, .inr (1, [.ref xa, .ref xb, .ref xc, .int tln, .int kn, .int toc, .int tdn, .int tld, .int tsr, .long trs]))])) (vp_Sl (fun r => r = (if kn = 0 then 0 else trs))) 0 0 (fun _ => False) := by
  refine Met.ofW (cc := b_Vb_result) (maxL := 3) (ret := (some .long)) (by decide) rfl ?_
  intro pP eE sS mM args below meth cC s1 B hml hv
  obtain ⟨rfl, hP, hK, hN⟩ := hv
  have hx := B.exec
  have hb := B.bytes
  have hr := B.returns
  have hts := atoms_spec (ws := w_Vb_result) B.pre
  have hown : sS.vm.findClass "VersionedBlock" = some mM.cls := findClass_of_methodNamed B.named
  have hlocks := B.notSynchronized
  have hl := lv_entry ([.ref v, .int (nI j)]) (n := 3) (Nat.le_of_ble_eq_true rfl)
  rw [lg_entry_eq]
  generalize (lg_sl ([.ref v, .int (nI j)]) ++ List.replicate (3 - (lg_sl ([.ref v, .int (nI j)])).length) Slot.unset).toArray = ls at hl ⊢
  have hl : lv_has ls 3 [(0, .ref v), (1, .int (nI j))] := hl
  refine lv_aload_n hx hb d_Vb_result_0 rfl (lv_at hl 0 rfl) ?_
  refine lv_iload_n hx hb d_Vb_result_1 rfl (lv_at hl 1 rfl) ?_
  have hPc := hP.sub (ws' := [(v, .inr (4, [.ref pa, .ref ta, .ref te, .ref wv, .int (nI n), .int tk, .int sl, .int hz])), (ta, .inl ((ka 3), 64, .inr (.inr (.inr (.inr tf)))))]) [0, 1] rfl
  refine va_csq (run_of (va_runV (As := [.int (nI j)]) (rest := []) ⟨hx, hb, hml, hown, hts⟩ (c_Vb_tAt l D ka v pa ta te wv n j tk sl hz tf hj hn) ⟨callB_of 1 hts (gd_tb mw_1_134) rfl rfl rfl (hts _ (List.mem_cons_of_mem _ mw_1_1)) (hts _ (List.mem_cons_of_mem _ mw_1_131)) (by decide +kernel) ⟨Nat.le_of_ble_eq_true rfl, Nat.le_of_ble_eq_true rfl⟩, (hts _ (List.mem_cons_of_mem _ mw_1_133)), (hts _ (List.mem_cons_of_mem _ (tb_sel (List.mem_of_getElem? (i := 0) rfl))))⟩ ⟨pR_blind, va_recv hK hPc (ci := 4) (q0 := 0) rfl rfl, pR_pre hK hN hPc⟩ rfl rfl hl.1 rfl (lv_room (Nat.le_of_ble_eq_true rfl)) d_Vb_result_2 ⟨Nat.le_of_ble_eq_true rfl, Nat.le_of_ble_eq_true rfl⟩)) (fun r_2 hr_2 => ?_)
  obtain rfl : r_2 = some t := hr_2.trans htf
  refine W.eq (g2 := F0 mM 5 ls [.ref t]) rfl ?_
  refine lv_astore_n (lv' := [(2, .ref t), (0, .ref v), (1, .int (nI j))]) hx hb d_Vb_result_5 rfl hl (by decide) rfl (fun ls hl => ?_)
  refine lv_aload_n hx hb d_Vb_result_6 rfl (lv_at hl 0 rfl) ?_
  refine lv_ifnonnull (tgt := 14) hx hb d_Vb_result_7 (by decide) ?_
  refine lv_aload_n hx hb d_Vb_result_14 rfl (lv_at hl 0 rfl) ?_
  have hPc := hP.sub (ws' := [(t, .inr (1, [.ref xa, .ref xb, .ref xc, .int tln, .int kn, .int toc, .int tdn, .int tld, .int tsr, .long trs]))]) [2] rfl
  refine vp_callSl (run_of (va_runV (As := []) (rest := []) ⟨hx, hb, hml, hown, hts⟩ (c_Tr_tellResult l D ka t xa xb xc tln kn toc tdn tld tsr trs ) ⟨callB_of 0 hts (gd_tb mw_2_135) rfl rfl rfl (hts _ (List.mem_cons_of_mem _ mw_1_5)) (hts _ (List.mem_cons_of_mem _ mw_2_132)) (by decide +kernel) ⟨Nat.le_of_ble_eq_true rfl, Nat.le_of_ble_eq_true rfl⟩, (hts _ (List.mem_cons_of_mem _ mw_2_133)), (hts _ (List.mem_cons_of_mem _ mw_2_134))⟩ ⟨pR_blind, va_recv hK hPc (ci := 1) (q0 := 0) rfl rfl, pR_pre hK hN hPc⟩ rfl rfl hl.1 rfl (lv_room (Nat.le_of_ble_eq_true rfl)) d_Vb_result_15 ⟨Nat.le_of_ble_eq_true rfl, Nat.le_of_ble_eq_true rfl⟩)) (fun r_15 hr_15 => ?_)
  obtain rfl : r_15 = (if kn = 0 then 0 else trs) := hr_15
  exact W.lret (v := (if kn = 0 then 0 else trs)) hx hb hr (fun t9 ht hW => ⟨(if kn = 0 then 0 else trs), rfl, rfl, ht⟩) (fun _ h => by cases h) d_Vb_result_18
set_option maxHeartbeats 4000000 in
set_option maxRecDepth 100000 in
theorem c_Vb_weave_full (l : Launch) (D : va_G) (ka : Nat → ClassId) (v pa ta te wv : Nat) (size tk sl hz : Int32) (wd wl : Nat) (b : Int64) (hf : 65536 < wl + 16) (hwl : wl ≤ 65536) : Met l y_Vb_weave w_Vb_weave ({ frames := 1, cells := 0, slots := 0, locals := 23 }) (pR classes (tyS ka) D [.ref v, .long b] ([(v, .inr (4, [.ref pa, .ref ta, .ref te, .ref wv, .int size, .int tk, .int sl, .int hz])), (wv, .inr (2, [.ref wd, .int (nI wl)]))])) (vp_Si (fun r => r = (-3))) 0 0 (fun _ => False) := by
  refine Met.ofW (cc := b_Vb_weave) (maxL := 3) (ret := (some .int)) (by decide) rfl ?_
  intro pP eE sS mM args below meth cC s1 B hml hv
  obtain ⟨rfl, hP, hK, hN⟩ := hv
  have hx := B.exec
  have hb := B.bytes
  have hr := B.returns
  have hts := atoms_spec (ws := w_Vb_weave) B.pre
  have hown : sS.vm.findClass "VersionedBlock" = some mM.cls := findClass_of_methodNamed B.named
  have hlocks := B.notSynchronized
  have hl := lv_entry ([.ref v, .long b]) (n := 3) (Nat.le_of_ble_eq_true rfl)
  rw [lg_entry_eq]
  generalize (lg_sl ([.ref v, .long b]) ++ List.replicate (3 - (lg_sl ([.ref v, .long b])).length) Slot.unset).toArray = ls at hl ⊢
  have hl : lv_has ls 3 [(0, .ref v), (1, .long b)] := hl
  refine lv_aload_n hx hb d_Vb_weave_0 rfl (lv_at hl 0 rfl) ?_
  refine va_get (D := D) (ci := 4) (v := .ref wv) (C := "VersionedBlock") (T := T_Vb) (N := 8) hx hb hts (fun w h => List.mem_cons_of_mem _ (il_Vb w h)) hown hK hP 0 rfl rfl 3 (by decide) (hts _ (List.mem_cons_of_mem _ mw_1_45)) (fun _ h9 => h9) rfl d_Vb_weave_1 ?_
  refine lv_lload_n hx hb d_Vb_weave_4 rfl (lv_at hl 1 rfl) ?_
  have hPc := hP.sub (ws' := [(wv, .inr (2, [.ref wd, .int (nI wl)]))]) [1] rfl
  refine vp_callSi (run_of (va_runV (As := [.long b]) (rest := []) ⟨hx, hb, hml, hown, hts⟩ (c_We_app_full l D ka wv wd wl b hf hwl) ⟨callB_of 1 hts (gd_tb mw_1_146) rfl rfl rfl (hts _ (List.mem_cons_of_mem _ mw_1_2)) (hts _ (List.mem_cons_of_mem _ mw_1_143)) (by decide +kernel) ⟨Nat.le_of_ble_eq_true rfl, Nat.le_of_ble_eq_true rfl⟩, (hts _ (List.mem_cons_of_mem _ mw_1_144)), (hts _ (List.mem_cons_of_mem _ mw_1_145))⟩ ⟨pR_blind, va_recv hK hPc (ci := 2) (q0 := 0) rfl rfl, pR_pre hK hN hPc⟩ rfl rfl hl.1 rfl (lv_room (Nat.le_of_ble_eq_true rfl)) d_Vb_weave_5 ⟨Nat.le_of_ble_eq_true rfl, Nat.le_of_ble_eq_true rfl⟩)) (fun r_5 hr_5 => ?_)
  obtain rfl : r_5 = (-3) := hr_5
  exact W.iret (v := (-3)) hx hb hr (fun t9 ht hW => ⟨(-3), rfl, rfl, ht⟩) (fun _ h => by cases h) d_Vb_weave_8
set_option maxHeartbeats 4000000 in
set_option maxRecDepth 100000 in
theorem c_Vb_weave_in (l : Launch) (D : va_G) (ka : Nat → ClassId) (sz : Nat) (v pa ta te wv : Nat) (size tk sl hz : Int32) (wd wl K : Nat) (wo : Nat → Int64) (b : Int64) (hf : wl + 16 ≤ 65536) (hin : wl / 16 < K) (hK2 : K ≤ 4096) : Met l y_Vb_weave w_Vb_weave ({ frames := 1, cells := 0, slots := 0, locals := 23 }) (pW classes (tyS ka) D [.ref v, .long b] ([(v, .inr (4, [.ref pa, .ref ta, .ref te, .ref wv, .int size, .int tk, .int sl, .int hz])), (wv, .inr (2, [.ref wd, .int (nI wl)])), (wd, .inl ((ka 0), K, .inr (.inl wo)))]) sz) (va_Qi (fun (r : Int32) (_ : Unit) => r = (nI (wl + 16))) (fun (_ : Unit) t9 => ∃ (wo' : Nat → Int64), (True) ∧ va_P D classes ([(v, .inr (4, [.ref pa, .ref ta, .ref te, .ref wv, .int size, .int tk, .int sl, .int hz])), (wv, .inr (2, [.ref wd, .int (nI (wl + 16))])), (wd, .inl ((ka 0), K, .inr (.inl wo')))]) t9.heap ∧ va_D (va_A ([(v, .inr (4, [.ref pa, .ref ta, .ref te, .ref wv, .int size, .int tk, .int sl, .int hz])), (wv, .inr (2, [.ref wd, .int (nI wl)])), (wd, .inl ((ka 0), K, .inr (.inl wo)))]) sz) ([(v, .inr (4, [.ref pa, .ref ta, .ref te, .ref wv, .int size, .int tk, .int sl, .int hz])), (wv, .inr (2, [.ref wd, .int (nI (wl + 16))])), (wd, .inl ((ka 0), K, .inr (.inl wo')))])) (va_A ([(v, .inr (4, [.ref pa, .ref ta, .ref te, .ref wv, .int size, .int tk, .int sl, .int hz])), (wv, .inr (2, [.ref wd, .int (nI wl)])), (wd, .inl ((ka 0), K, .inr (.inl wo)))]) sz)) 0 0 (va_A ([(v, .inr (4, [.ref pa, .ref ta, .ref te, .ref wv, .int size, .int tk, .int sl, .int hz])), (wv, .inr (2, [.ref wd, .int (nI wl)])), (wd, .inl ((ka 0), K, .inr (.inl wo)))]) sz) := by
  refine Met.ofW (cc := b_Vb_weave) (maxL := 3) (ret := (some .int)) (by decide) rfl ?_
  intro pP eE sS mM args below meth cC s1 B hml hv
  obtain ⟨rfl, hsz, hP, hK, hN, hD0⟩ := hv
  have hx := B.exec
  have hb := B.bytes
  have hr := B.returns
  have hts := atoms_spec (ws := w_Vb_weave) B.pre
  have hown : sS.vm.findClass "VersionedBlock" = some mM.cls := findClass_of_methodNamed B.named
  have hlocks := B.notSynchronized
  subst hsz
  have hD := hD0.self (sz := sS.heap.size)
  generalize hAe : va_A ([(v, .inr (4, [.ref pa, .ref ta, .ref te, .ref wv, .int size, .int tk, .int sl, .int hz])), (wv, .inr (2, [.ref wd, .int (nI wl)])), (wd, .inl ((ka 0), K, .inr (.inl wo)))]) sS.heap.size = A at hD ⊢
  have hA : ∀ q : Nat, sS.heap.size ≤ q → A q := fun q h => by rw [← hAe]; exact Or.inr h
  have hS : va_S A sS.heap sS.heap [] := va_S.rf
  have hl := lv_entry ([.ref v, .long b]) (n := 3) (Nat.le_of_ble_eq_true rfl)
  rw [lg_entry_eq]
  generalize (lg_sl ([.ref v, .long b]) ++ List.replicate (3 - (lg_sl ([.ref v, .long b])).length) Slot.unset).toArray = ls at hl ⊢
  have hl : lv_has ls 3 [(0, .ref v), (1, .long b)] := hl
  refine lv_aload_n hx hb d_Vb_weave_0 rfl (lv_at hl 0 rfl) ?_
  refine va_get (D := D) (ci := 4) (v := .ref wv) (C := "VersionedBlock") (T := T_Vb) (N := 8) hx hb hts (fun w h => List.mem_cons_of_mem _ (il_Vb w h)) hown hK hP 0 rfl rfl 3 (by decide) (hts _ (List.mem_cons_of_mem _ mw_1_45)) (fun _ h9 => h9) rfl d_Vb_weave_1 ?_
  refine lv_lload_n hx hb d_Vb_weave_4 rfl (lv_at hl 1 rfl) ?_
  have hPc := hP.sub (ws' := [(wv, .inr (2, [.ref wd, .int (nI wl)])), (wd, .inl ((ka 0), K, .inr (.inl wo)))]) [1, 2] rfl
  have hDc := hD.sub (ws' := [(wv, .inr (2, [.ref wd, .int (nI wl)])), (wd, .inl ((ka 0), K, .inr (.inl wo)))]) [1, 2] (by decide) rfl
  have hFc := va_free (wc := [(wv, .inr (2, [.ref wd, .int (nI wl)])), (wd, .inl ((ka 0), K, .inr (.inl wo)))]) hD hS hA [1, 2] rfl
  refine va_calli (va_runV (As := [.long b]) (rest := []) ⟨hx, hb, hml, hown, hts⟩ (c_We_app_in l D ka sS.heap.size wv wd wl K wo b hf hin hK2) ⟨callB_of 1 hts (gd_tb mw_1_146) rfl rfl rfl (hts _ (List.mem_cons_of_mem _ mw_1_2)) (hts _ (List.mem_cons_of_mem _ mw_1_143)) (by decide +kernel) ⟨Nat.le_of_ble_eq_true rfl, Nat.le_of_ble_eq_true rfl⟩, (hts _ (List.mem_cons_of_mem _ mw_1_144)), (hts _ (List.mem_cons_of_mem _ mw_1_145))⟩ ⟨pW_blind, va_recv hK hPc (ci := 2) (q0 := 0) rfl rfl, pW_pre hK hN hPc hDc⟩ rfl rfl hl.1 rfl (lv_room (Nat.le_of_ble_eq_true rfl)) d_Vb_weave_5 ⟨Nat.le_of_ble_eq_true rfl, Nat.le_of_ble_eq_true rfl⟩) hS (fun q _ h => hFc q h) hFc (fun r_5 u9 t9 H1 locs ht hvm hr_5 hB hz1 hk1 hS => ?_)
  obtain ⟨wo', hrel_5, hP1, hD1⟩ := hB
  rw [ht] at hP1
  obtain ⟨hP, hD⟩ := va_join (wr := [(v, .inr (4, [.ref pa, .ref ta, .ref te, .ref wv, .int size, .int tk, .int sl, .int hz]))]) (w1 := [(wv, .inr (2, [.ref wd, .int (nI (wl + 16))])), (wd, .inl ((ka 0), K, .inr (.inl wo')))]) hP hD [1, 2] [0] rfl rfl (by decide) (by decide) hk1 hFc hP1 hD1
  generalize H1 = H at hP hS ⊢
  have hP : va_P D classes ([(v, .inr (4, [.ref pa, .ref ta, .ref te, .ref wv, .int size, .int tk, .int sl, .int hz])), (wv, .inr (2, [.ref wd, .int (nI (wl + 16))])), (wd, .inl ((ka 0), K, .inr (.inl wo')))]) H := hP
  have hD : va_D A ([(v, .inr (4, [.ref pa, .ref ta, .ref te, .ref wv, .int size, .int tk, .int sl, .int hz])), (wv, .inr (2, [.ref wd, .int (nI (wl + 16))])), (wd, .inl ((ka 0), K, .inr (.inl wo')))]) := hD
  obtain rfl : r_5 = (nI (wl + 16)) := hr_5
  have hP9 := hP.sub (ws' := [(v, .inr (4, [.ref pa, .ref ta, .ref te, .ref wv, .int size, .int tk, .int sl, .int hz])), (wv, .inr (2, [.ref wd, .int (nI (wl + 16))])), (wd, .inl ((ka 0), K, .inr (.inl wo')))]) [0, 1, 2] rfl
  have hD9 := hD.sub (ws' := [(v, .inr (4, [.ref pa, .ref ta, .ref te, .ref wv, .int size, .int tk, .int sl, .int hz])), (wv, .inr (2, [.ref wd, .int (nI (wl + 16))])), (wd, .inl ((ka 0), K, .inr (.inl wo')))]) [0, 1, 2] (by decide) rfl
  exact W.iret (v := (nI (wl + 16))) hx hb hr (fun t9 ht hW => ⟨⟨(nI (wl + 16)), (), rfl, rfl, wo', trivial, by rw [ht]; exact hP9, hD9⟩, hS.F ht⟩) hS.2.2 d_Vb_weave_8
set_option maxHeartbeats 4000000 in
set_option maxRecDepth 100000 in
theorem c_Vb_weave_grow (l : Launch) (D : va_G) (ka : Nat → ClassId) (sz : Nat) (v pa ta te wv : Nat) (size tk sl hz : Int32) (wd wl K : Nat) (wo : Nat → Int64) (b : Int64) (hf : wl + 16 ≤ 65536) (hgr : K ≤ wl / 16) (hgr2 : wl ≤ 16 * K) (hK8 : 8 ≤ K) (hK2 : 2 * K ≤ 4096) : Met l y_Vb_weave w_Vb_weave ({ frames := 3, cells := 1, slots := 4096, locals := 105 }) (pW classes (tyS ka) D [.ref v, .long b] ([(v, .inr (4, [.ref pa, .ref ta, .ref te, .ref wv, .int size, .int tk, .int sl, .int hz])), (wv, .inr (2, [.ref wd, .int (nI wl)])), (wd, .inl ((ka 0), K, .inr (.inl wo)))]) sz) (va_Qi (fun (r : Int32) (_ : Unit) => r = (nI (wl + 16))) (fun (_ : Unit) t9 => ∃ (wd' : Nat) (wo' : Nat → Int64), (True) ∧ va_P D classes ([(v, .inr (4, [.ref pa, .ref ta, .ref te, .ref wv, .int size, .int tk, .int sl, .int hz])), (wv, .inr (2, [.ref wd', .int (nI (wl + 16))])), (wd', .inl ((ka 0), 2 * K, .inr (.inl wo')))]) t9.heap ∧ va_D (va_A ([(v, .inr (4, [.ref pa, .ref ta, .ref te, .ref wv, .int size, .int tk, .int sl, .int hz])), (wv, .inr (2, [.ref wd, .int (nI wl)])), (wd, .inl ((ka 0), K, .inr (.inl wo)))]) sz) ([(v, .inr (4, [.ref pa, .ref ta, .ref te, .ref wv, .int size, .int tk, .int sl, .int hz])), (wv, .inr (2, [.ref wd', .int (nI (wl + 16))])), (wd', .inl ((ka 0), 2 * K, .inr (.inl wo')))])) (va_A ([(v, .inr (4, [.ref pa, .ref ta, .ref te, .ref wv, .int size, .int tk, .int sl, .int hz])), (wv, .inr (2, [.ref wd, .int (nI wl)])), (wd, .inl ((ka 0), K, .inr (.inl wo)))]) sz)) 1 4096 (va_A ([(v, .inr (4, [.ref pa, .ref ta, .ref te, .ref wv, .int size, .int tk, .int sl, .int hz])), (wv, .inr (2, [.ref wd, .int (nI wl)])), (wd, .inl ((ka 0), K, .inr (.inl wo)))]) sz) := by
  refine Met.ofW (cc := b_Vb_weave) (maxL := 3) (ret := (some .int)) (by decide) rfl ?_
  intro pP eE sS mM args below meth cC s1 B hml hv
  obtain ⟨rfl, hsz, hP, hK, hN, hD0⟩ := hv
  have hx := B.exec
  have hb := B.bytes
  have hr := B.returns
  have hts := atoms_spec (ws := w_Vb_weave) B.pre
  have hown : sS.vm.findClass "VersionedBlock" = some mM.cls := findClass_of_methodNamed B.named
  have hlocks := B.notSynchronized
  subst hsz
  have hD := hD0.self (sz := sS.heap.size)
  generalize hAe : va_A ([(v, .inr (4, [.ref pa, .ref ta, .ref te, .ref wv, .int size, .int tk, .int sl, .int hz])), (wv, .inr (2, [.ref wd, .int (nI wl)])), (wd, .inl ((ka 0), K, .inr (.inl wo)))]) sS.heap.size = A at hD ⊢
  have hA : ∀ q : Nat, sS.heap.size ≤ q → A q := fun q h => by rw [← hAe]; exact Or.inr h
  have hS : va_S A sS.heap sS.heap [] := va_S.rf
  have hl := lv_entry ([.ref v, .long b]) (n := 3) (Nat.le_of_ble_eq_true rfl)
  rw [lg_entry_eq]
  generalize (lg_sl ([.ref v, .long b]) ++ List.replicate (3 - (lg_sl ([.ref v, .long b])).length) Slot.unset).toArray = ls at hl ⊢
  have hl : lv_has ls 3 [(0, .ref v), (1, .long b)] := hl
  refine lv_aload_n hx hb d_Vb_weave_0 rfl (lv_at hl 0 rfl) ?_
  refine va_get (D := D) (ci := 4) (v := .ref wv) (C := "VersionedBlock") (T := T_Vb) (N := 8) hx hb hts (fun w h => List.mem_cons_of_mem _ (il_Vb w h)) hown hK hP 0 rfl rfl 3 (by decide) (hts _ (List.mem_cons_of_mem _ mw_1_45)) (fun _ h9 => h9) rfl d_Vb_weave_1 ?_
  refine lv_lload_n hx hb d_Vb_weave_4 rfl (lv_at hl 1 rfl) ?_
  have hPc := hP.sub (ws' := [(wv, .inr (2, [.ref wd, .int (nI wl)])), (wd, .inl ((ka 0), K, .inr (.inl wo)))]) [1, 2] rfl
  have hDc := hD.sub (ws' := [(wv, .inr (2, [.ref wd, .int (nI wl)])), (wd, .inl ((ka 0), K, .inr (.inl wo)))]) [1, 2] (by decide) rfl
  have hFc := va_free (wc := [(wv, .inr (2, [.ref wd, .int (nI wl)])), (wd, .inl ((ka 0), K, .inr (.inl wo)))]) hD hS hA [1, 2] rfl
  refine va_calli (va_runV (As := [.long b]) (rest := []) ⟨hx, hb, hml, hown, hts⟩ (c_We_app_grow l D ka sS.heap.size wv wd wl K wo b hf hgr hgr2 hK8 hK2) ⟨callB_of 1 hts (gd_tb mw_1_146) rfl rfl rfl (hts _ (List.mem_cons_of_mem _ mw_1_2)) (hts _ (List.mem_cons_of_mem _ mw_1_143)) (by decide +kernel) ⟨Nat.le_of_ble_eq_true rfl, Nat.le_of_ble_eq_true rfl⟩, (hts _ (List.mem_cons_of_mem _ mw_1_144)), (hts _ (List.mem_cons_of_mem _ mw_1_145))⟩ ⟨pW_blind, va_recv hK hPc (ci := 2) (q0 := 0) rfl rfl, pW_pre hK hN hPc hDc⟩ rfl rfl hl.1 rfl (lv_room (Nat.le_of_ble_eq_true rfl)) d_Vb_weave_5 ⟨Nat.le_of_ble_eq_true rfl, Nat.le_of_ble_eq_true rfl⟩) hS (fun q _ h => hFc q h) hFc (fun r_5 u9 t9 H1 locs ht hvm hr_5 hB hz1 hk1 hS => ?_)
  obtain ⟨wd', wo', hrel_5, hP1, hD1⟩ := hB
  rw [ht] at hP1
  obtain ⟨hP, hD⟩ := va_join (wr := [(v, .inr (4, [.ref pa, .ref ta, .ref te, .ref wv, .int size, .int tk, .int sl, .int hz]))]) (w1 := [(wv, .inr (2, [.ref wd', .int (nI (wl + 16))])), (wd', .inl ((ka 0), 2 * K, .inr (.inl wo')))]) hP hD [1, 2] [0] rfl rfl (by decide) (by decide) hk1 hFc hP1 hD1
  generalize H1 = H at hP hS ⊢
  refine W.widen (k := 1) (n := 4096) (by omega) (by omega) ?_
  have hP : va_P D classes ([(v, .inr (4, [.ref pa, .ref ta, .ref te, .ref wv, .int size, .int tk, .int sl, .int hz])), (wv, .inr (2, [.ref wd', .int (nI (wl + 16))])), (wd', .inl ((ka 0), 2 * K, .inr (.inl wo')))]) H := hP
  have hD : va_D A ([(v, .inr (4, [.ref pa, .ref ta, .ref te, .ref wv, .int size, .int tk, .int sl, .int hz])), (wv, .inr (2, [.ref wd', .int (nI (wl + 16))])), (wd', .inl ((ka 0), 2 * K, .inr (.inl wo')))]) := hD
  obtain rfl : r_5 = (nI (wl + 16)) := hr_5
  have hP9 := hP.sub (ws' := [(v, .inr (4, [.ref pa, .ref ta, .ref te, .ref wv, .int size, .int tk, .int sl, .int hz])), (wv, .inr (2, [.ref wd', .int (nI (wl + 16))])), (wd', .inl ((ka 0), 2 * K, .inr (.inl wo')))]) [0, 1, 2] rfl
  have hD9 := hD.sub (ws' := [(v, .inr (4, [.ref pa, .ref ta, .ref te, .ref wv, .int size, .int tk, .int sl, .int hz])), (wv, .inr (2, [.ref wd', .int (nI (wl + 16))])), (wd', .inl ((ka 0), 2 * K, .inr (.inl wo')))]) [0, 1, 2] (by decide) rfl
  exact W.iret (v := (nI (wl + 16))) hx hb hr (fun t9 ht hW => ⟨⟨(nI (wl + 16)), (), rfl, rfl, wd', wo', trivial, by rw [ht]; exact hP9, hD9⟩, hS.F ht⟩) hS.2.2 d_Vb_weave_8
set_option maxHeartbeats 4000000 in
set_option maxRecDepth 100000 in
theorem c_Vb_unweave (l : Launch) (D : va_G) (ka : Nat → ClassId) (sz : Nat) (v pa ta te wv : Nat) (size tk sl hz : Int32) (wd wl : Nat)  : Met l y_Vb_unweave w_Vb_unweave ({ frames := 1, cells := 0, slots := 0, locals := 21 }) (pW classes (tyS ka) D [.ref v] ([(v, .inr (4, [.ref pa, .ref ta, .ref te, .ref wv, .int size, .int tk, .int sl, .int hz])), (wv, .inr (2, [.ref wd, .int (nI wl)]))]) sz) (va_Qi (fun (r : Int32) (_ : Unit) => r = (nI wl)) (fun (_ : Unit) t9 => (True) ∧ va_P D classes ([(v, .inr (4, [.ref pa, .ref ta, .ref te, .ref wv, .int size, .int tk, .int sl, .int hz])), (wv, .inr (2, [.ref wd, .int (nI 0)]))]) t9.heap ∧ va_D (va_A ([(v, .inr (4, [.ref pa, .ref ta, .ref te, .ref wv, .int size, .int tk, .int sl, .int hz])), (wv, .inr (2, [.ref wd, .int (nI wl)]))]) sz) ([(v, .inr (4, [.ref pa, .ref ta, .ref te, .ref wv, .int size, .int tk, .int sl, .int hz])), (wv, .inr (2, [.ref wd, .int (nI 0)]))])) (va_A ([(v, .inr (4, [.ref pa, .ref ta, .ref te, .ref wv, .int size, .int tk, .int sl, .int hz])), (wv, .inr (2, [.ref wd, .int (nI wl)]))]) sz)) 0 0 (va_A ([(v, .inr (4, [.ref pa, .ref ta, .ref te, .ref wv, .int size, .int tk, .int sl, .int hz])), (wv, .inr (2, [.ref wd, .int (nI wl)]))]) sz) := by
  refine Met.ofW (cc := b_Vb_unweave) (maxL := 1) (ret := (some .int)) (by decide) rfl ?_
  intro pP eE sS mM args below meth cC s1 B hml hv
  obtain ⟨rfl, hsz, hP, hK, hN, hD0⟩ := hv
  have hx := B.exec
  have hb := B.bytes
  have hr := B.returns
  have hts := atoms_spec (ws := w_Vb_unweave) B.pre
  have hown : sS.vm.findClass "VersionedBlock" = some mM.cls := findClass_of_methodNamed B.named
  have hlocks := B.notSynchronized
  subst hsz
  have hD := hD0.self (sz := sS.heap.size)
  generalize hAe : va_A ([(v, .inr (4, [.ref pa, .ref ta, .ref te, .ref wv, .int size, .int tk, .int sl, .int hz])), (wv, .inr (2, [.ref wd, .int (nI wl)]))]) sS.heap.size = A at hD ⊢
  have hA : ∀ q : Nat, sS.heap.size ≤ q → A q := fun q h => by rw [← hAe]; exact Or.inr h
  have hS : va_S A sS.heap sS.heap [] := va_S.rf
  have hl := lv_entry ([.ref v]) (n := 1) (Nat.le_of_ble_eq_true rfl)
  rw [lg_entry_eq]
  generalize (lg_sl ([.ref v]) ++ List.replicate (1 - (lg_sl ([.ref v])).length) Slot.unset).toArray = ls at hl ⊢
  have hl : lv_has ls 1 [(0, .ref v)] := hl
  refine lv_aload_n hx hb d_Vb_unweave_0 rfl (lv_at hl 0 rfl) ?_
  refine va_get (D := D) (ci := 4) (v := .ref wv) (C := "VersionedBlock") (T := T_Vb) (N := 8) hx hb hts (fun w h => List.mem_cons_of_mem _ (il_Vb w h)) hown hK hP 0 rfl rfl 3 (by decide) (hts _ (List.mem_cons_of_mem _ mw_1_45)) (fun _ h9 => h9) rfl d_Vb_unweave_1 ?_
  have hPc := hP.sub (ws' := [(wv, .inr (2, [.ref wd, .int (nI wl)]))]) [1] rfl
  have hDc := hD.sub (ws' := [(wv, .inr (2, [.ref wd, .int (nI wl)]))]) [1] (by decide) rfl
  have hFc := va_free (wc := [(wv, .inr (2, [.ref wd, .int (nI wl)]))]) hD hS hA [1] rfl
  refine va_calli (va_runV (As := []) (rest := []) ⟨hx, hb, hml, hown, hts⟩ (c_We_clear l D ka sS.heap.size wv wd wl ) ⟨callB_of 0 hts (gd_tb mw_1_169) rfl rfl rfl (hts _ (List.mem_cons_of_mem _ mw_1_2)) (hts _ (List.mem_cons_of_mem _ mw_1_166)) (by decide +kernel) ⟨Nat.le_of_ble_eq_true rfl, Nat.le_of_ble_eq_true rfl⟩, (hts _ (List.mem_cons_of_mem _ mw_1_167)), (hts _ (List.mem_cons_of_mem _ mw_1_168))⟩ ⟨pW_blind, va_recv hK hPc (ci := 2) (q0 := 0) rfl rfl, pW_pre hK hN hPc hDc⟩ rfl rfl hl.1 rfl (lv_room (Nat.le_of_ble_eq_true rfl)) d_Vb_unweave_4 ⟨Nat.le_of_ble_eq_true rfl, Nat.le_of_ble_eq_true rfl⟩) hS (fun q _ h => hFc q h) hFc (fun r_4 u9 t9 H1 locs ht hvm hr_4 hB hz1 hk1 hS => ?_)
  obtain ⟨hrel_4, hP1, hD1⟩ := hB
  rw [ht] at hP1
  obtain ⟨hP, hD⟩ := va_join (wr := [(v, .inr (4, [.ref pa, .ref ta, .ref te, .ref wv, .int size, .int tk, .int sl, .int hz]))]) (w1 := [(wv, .inr (2, [.ref wd, .int (nI 0)]))]) hP hD [1] [0] rfl rfl (by decide) (by decide) hk1 hFc hP1 hD1
  generalize H1 = H at hP hS ⊢
  have hP : va_P D classes ([(v, .inr (4, [.ref pa, .ref ta, .ref te, .ref wv, .int size, .int tk, .int sl, .int hz])), (wv, .inr (2, [.ref wd, .int (nI 0)]))]) H := hP
  have hD : va_D A ([(v, .inr (4, [.ref pa, .ref ta, .ref te, .ref wv, .int size, .int tk, .int sl, .int hz])), (wv, .inr (2, [.ref wd, .int (nI 0)]))]) := hD
  obtain rfl : r_4 = (nI wl) := hr_4
  have hP9 := hP.sub (ws' := [(v, .inr (4, [.ref pa, .ref ta, .ref te, .ref wv, .int size, .int tk, .int sl, .int hz])), (wv, .inr (2, [.ref wd, .int (nI 0)]))]) [0, 1] rfl
  have hD9 := hD.sub (ws' := [(v, .inr (4, [.ref pa, .ref ta, .ref te, .ref wv, .int size, .int tk, .int sl, .int hz])), (wv, .inr (2, [.ref wd, .int (nI 0)]))]) [0, 1] (by decide) rfl
  exact W.iret (v := (nI wl)) hx hb hr (fun t9 ht hW => ⟨⟨(nI wl), (), rfl, rfl, trivial, by rw [ht]; exact hP9, hD9⟩, hS.F ht⟩) hS.2.2 d_Vb_unweave_7
set_option maxHeartbeats 4000000 in
set_option maxRecDepth 100000 in
theorem c_Vb_init (l : Launch) (D : va_G) (ka : Nat → ClassId) (sz : Nat) (v : Nat) (x : Int32)  : Met l y_Vb_init w_Vb_init ({ frames := 2, cells := 5, slots := 346, locals := 60 }) (pW classes (tyS ka) D [.ref v, .int x] ([(v, .inr (4, [.null, .null, .null, .null, .int 0, .int 0, .int 0, .int 0]))]) sz) (va_Qv (fun _ : Unit => True) (fun (_ : Unit) t9 => ∃ (pa ta te wv wd m : Nat), (1 ≤ m ∧ m ≤ 16) ∧ va_P D classes ([(v, .inr (4, [.ref pa, .ref ta, .ref te, .ref wv, .int (nI 0), .int (nI 0), .int (nI 0), .int (nI 0)])), (pa, .inl ((ka 0), 256, .inr (.inl (fun _ => 0)))), (ta, .inl ((ka 3), 64, .inr (.inr (.inr (.inr (fun _ => none)))))), (te, .inl ((ka 4), m, .inr (.inr (.inr (.inr (fun _ => none)))))), (wv, .inr (2, [.ref wd, .int (nI 0)])), (wd, .inl ((ka 0), 8, .inr (.inl (fun _ => 0))))]) t9.heap ∧ va_D (va_A ([(v, .inr (4, [.null, .null, .null, .null, .int 0, .int 0, .int 0, .int 0]))]) sz) ([(v, .inr (4, [.ref pa, .ref ta, .ref te, .ref wv, .int (nI 0), .int (nI 0), .int (nI 0), .int (nI 0)])), (pa, .inl ((ka 0), 256, .inr (.inl (fun _ => 0)))), (ta, .inl ((ka 3), 64, .inr (.inr (.inr (.inr (fun _ => none)))))), (te, .inl ((ka 4), m, .inr (.inr (.inr (.inr (fun _ => none)))))), (wv, .inr (2, [.ref wd, .int (nI 0)])), (wd, .inl ((ka 0), 8, .inr (.inl (fun _ => 0))))])) (va_A ([(v, .inr (4, [.null, .null, .null, .null, .int 0, .int 0, .int 0, .int 0]))]) sz)) 5 346 (va_A ([(v, .inr (4, [.null, .null, .null, .null, .int 0, .int 0, .int 0, .int 0]))]) sz) := by
  refine Met.ofW (cc := b_Vb_init) (maxL := 2) (ret := none) (by decide) rfl ?_
  intro pP eE sS mM args below meth cC s1 B hml hv
  obtain ⟨rfl, hsz, hP, hK, hN, hD0⟩ := hv
  have hx := B.exec
  have hb := B.bytes
  have hr := B.returns
  have hts := atoms_spec (ws := w_Vb_init) B.pre
  have hown : sS.vm.findClass "VersionedBlock" = some mM.cls := findClass_of_methodNamed B.named
  have hlocks := B.notSynchronized
  have hin : meth.name = "<init>" := (name_of_methodNamed B.named B.method).1
  subst hsz
  have hD := hD0.self (sz := sS.heap.size)
  generalize hAe : va_A ([(v, .inr (4, [.null, .null, .null, .null, .int 0, .int 0, .int 0, .int 0]))]) sS.heap.size = A at hD ⊢
  have hA : ∀ q : Nat, sS.heap.size ≤ q → A q := fun q h => by rw [← hAe]; exact Or.inr h
  have hS : va_S A sS.heap sS.heap [] := va_S.rf
  have hl := lv_entry ([.ref v, .int x]) (n := 2) (Nat.le_of_ble_eq_true rfl)
  rw [lg_entry_eq]
  generalize (lg_sl ([.ref v, .int x]) ++ List.replicate (2 - (lg_sl ([.ref v, .int x])).length) Slot.unset).toArray = ls at hl ⊢
  have hl : lv_has ls 2 [(0, .ref v), (1, .int x)] := hl
  refine lv_aload_n hx hb d_Vb_init_0 rfl (lv_at hl 0 rfl) ?_
  refine W.objInit hx hb hown (hts _ (List.mem_cons_of_mem _ mw_1_15)) (hts _ (List.mem_cons_of_mem _ mw_1_16)) (hts _ (List.mem_cons_of_mem _ mw_1_17)) rfl (by rw [hml]; exact hl.1) rfl d_Vb_init_1 (Nat.le_of_ble_eq_true rfl) (Nat.le_of_ble_eq_true rfl) ?_
  refine W.eq (g2 := F0 mM 4 ls []) rfl ?_
  refine lv_aload_n hx hb d_Vb_init_4 rfl (lv_at hl 0 rfl) ?_
  refine lv_sipush (v := 256) hx hb d_Vb_init_5 (by decide) ?_
  refine my_newa (ty := .long) (a0 := (256, .inr (.inl (fun _ => 0)))) hx hb (hts _ (List.mem_cons_of_mem _ mw_1_33)) rfl hK 0 (cA0 := ka 0) rfl hP hD hS hA (fun _ => rfl) (k := 256) (by decide) (by decide) (Nat.le_of_ble_eq_true rfl) (Nat.le_of_ble_eq_true rfl) d_Vb_init_8 (fun q8 H hP hD hS => ?_)
  have hP : va_P D classes ([(v, .inr (4, [.null, .null, .null, .null, .int 0, .int 0, .int 0, .int 0])), (q8, .inl ((ka 0), 256, .inr (.inl (fun _ => 0))))]) H := hP
  have hD : va_D A ([(v, .inr (4, [.null, .null, .null, .null, .int 0, .int 0, .int 0, .int 0])), (q8, .inl ((ka 0), 256, .inr (.inl (fun _ => 0))))]) := hD
  refine W.widen (k := 1) (n := 256) (by omega) (by omega) ?_
  refine va_putF (D := D) (ci := 4) (v := .ref q8) (ty := .array .long) (C := "VersionedBlock") (T := T_Vb) (N := 8) hx hb hts (fun w h => List.mem_cons_of_mem _ (il_Vb w h)) t_Vb t_Vb_ok n_Vb hown hK hP hD hS 0 rfl rfl 0 (by decide) (hts _ (List.mem_cons_of_mem _ mw_1_42)) (fun _ h9 => h9) rfl hin rfl (by decide +kernel) rfl rfl (Nat.le_of_ble_eq_true rfl) d_Vb_init_10 (fun H locs hP hD hS => ?_)
  have hP : va_P D classes ([(v, .inr (4, [.ref q8, .null, .null, .null, .int 0, .int 0, .int 0, .int 0])), (q8, .inl ((ka 0), 256, .inr (.inl (fun _ => 0))))]) H := hP
  have hD : va_D A ([(v, .inr (4, [.ref q8, .null, .null, .null, .int 0, .int 0, .int 0, .int 0])), (q8, .inl ((ka 0), 256, .inr (.inl (fun _ => 0))))]) := hD
  refine lv_aload_n hx hb d_Vb_init_13 rfl (lv_at hl 0 rfl) ?_
  refine lv_bipush (v := 64) hx hb d_Vb_init_14 (by decide) ?_
  refine my_newq (C := "VersionedBlock$Transaction") hx hb hown (hts _ (List.mem_cons_of_mem _ mw_1_18)) (va_AO.use (kN_aT hN)) hK 3 (cA0 := ka 3) rfl hP hD hS hA (k := 64) (by decide) (by decide) (Nat.le_of_ble_eq_true rfl) (Nat.le_of_ble_eq_true rfl) d_Vb_init_16 (fun q16 H hP hD hS => ?_)
  have hP : va_P D classes ([(v, .inr (4, [.ref q8, .null, .null, .null, .int 0, .int 0, .int 0, .int 0])), (q8, .inl ((ka 0), 256, .inr (.inl (fun _ => 0)))), (q16, .inl ((ka 3), 64, .inr (.inr (.inr (.inr (fun _ => none))))))]) H := hP
  have hD : va_D A ([(v, .inr (4, [.ref q8, .null, .null, .null, .int 0, .int 0, .int 0, .int 0])), (q8, .inl ((ka 0), 256, .inr (.inl (fun _ => 0)))), (q16, .inl ((ka 3), 64, .inr (.inr (.inr (.inr (fun _ => none))))))]) := hD
  refine W.widen (k := 2) (n := 320) (by omega) (by omega) ?_
  refine va_putF (D := D) (ci := 4) (v := .ref q16) (ty := .array (.object "VersionedBlock$Transaction")) (C := "VersionedBlock") (T := T_Vb) (N := 8) hx hb hts (fun w h => List.mem_cons_of_mem _ (il_Vb w h)) t_Vb t_Vb_ok n_Vb hown hK hP hD hS 0 rfl rfl 1 (by decide) (hts _ (List.mem_cons_of_mem _ mw_1_43)) (fun _ h9 => h9) rfl hin rfl (by decide +kernel) rfl rfl (Nat.le_of_ble_eq_true rfl) d_Vb_init_19 (fun H locs hP hD hS => ?_)
  have hP : va_P D classes ([(v, .inr (4, [.ref q8, .ref q16, .null, .null, .int 0, .int 0, .int 0, .int 0])), (q8, .inl ((ka 0), 256, .inr (.inl (fun _ => 0)))), (q16, .inl ((ka 3), 64, .inr (.inr (.inr (.inr (fun _ => none))))))]) H := hP
  have hD : va_D A ([(v, .inr (4, [.ref q8, .ref q16, .null, .null, .int 0, .int 0, .int 0, .int 0])), (q8, .inl ((ka 0), 256, .inr (.inl (fun _ => 0)))), (q16, .inl ((ka 3), 64, .inr (.inr (.inr (.inr (fun _ => none))))))]) := hD
  refine lv_aload_n hx hb d_Vb_init_22 rfl (lv_at hl 0 rfl) ?_
  refine va_new (ci := 2) (fs := [.null, .int 0]) (C := "VersionedBlock$Weave") (T := T_We) (N := 2) hx hb hts (fun w h => List.mem_cons_of_mem _ (il_We w h)) t_We t_We_ok hown (hts _ (List.mem_cons_of_mem _ mw_1_20)) (hts _ (List.mem_cons_of_mem _ mw_1_21)) (hts _ (List.mem_cons_of_mem _ mw_1_2)) hK hP hD hS hA rfl fs_We (Nat.le_of_ble_eq_true rfl) (Nat.le_of_ble_eq_true rfl) d_Vb_init_23 (fun q23 H hP hD hS => ?_)
  have hP : va_P D classes ([(v, .inr (4, [.ref q8, .ref q16, .null, .null, .int 0, .int 0, .int 0, .int 0])), (q8, .inl ((ka 0), 256, .inr (.inl (fun _ => 0)))), (q16, .inl ((ka 3), 64, .inr (.inr (.inr (.inr (fun _ => none)))))), (q23, .inr (2, [.null, .int 0]))]) H := hP
  have hD : va_D A ([(v, .inr (4, [.ref q8, .ref q16, .null, .null, .int 0, .int 0, .int 0, .int 0])), (q8, .inl ((ka 0), 256, .inr (.inl (fun _ => 0)))), (q16, .inl ((ka 3), 64, .inr (.inr (.inr (.inr (fun _ => none)))))), (q23, .inr (2, [.null, .int 0]))]) := hD
  refine W.widen (k := 3) (n := 322) (by omega) (by omega) ?_
  refine lv_dup hx hb d_Vb_init_26 rfl ?_
  have hPc := hP.sub (ws' := [(q23, .inr (2, [.null, .int 0]))]) [3] rfl
  have hDc := hD.sub (ws' := [(q23, .inr (2, [.null, .int 0]))]) [3] (by decide) rfl
  have hFc := va_free (wc := [(q23, .inr (2, [.null, .int 0]))]) hD hS hA [3] rfl
  refine va_callv (va_runIN (As := []) (rest := [.ref q23, .ref v]) ⟨hx, hb, hml, hown, hts⟩ (c_We_init l D ka H.size q23 ) ⟨va_cnB (host := "VersionedBlock") 0 hts (gd_tb mw_1_24) rfl rfl rfl (kN_0 hN) (hts _ (List.mem_cons_of_mem _ mw_1_2)) (by decide +kernel) ⟨Nat.le_of_ble_eq_true rfl, Nat.le_of_ble_eq_true rfl⟩, rfl, (hts _ (List.mem_cons_of_mem _ mw_1_23))⟩ ⟨pW_blind, pW_pre hK hN hPc hDc⟩ rfl rfl hl.1 rfl (lv_room (Nat.le_of_ble_eq_true rfl)) d_Vb_init_27 ⟨Nat.le_of_ble_eq_true rfl, Nat.le_of_ble_eq_true rfl⟩) hS (fun q _ h => hFc q h) hFc (fun u9 t9 H1 locs ht hvm hr_27 hB hz1 hk1 hS => ?_)
  obtain ⟨wd, hrel_27, hP1, hD1⟩ := hB
  rw [ht] at hP1
  obtain ⟨hP, hD⟩ := va_join (wr := [(v, .inr (4, [.ref q8, .ref q16, .null, .null, .int 0, .int 0, .int 0, .int 0])), (q8, .inl ((ka 0), 256, .inr (.inl (fun _ => 0)))), (q16, .inl ((ka 3), 64, .inr (.inr (.inr (.inr (fun _ => none))))))]) (w1 := [(q23, .inr (2, [.ref wd, .int (nI 0)])), (wd, .inl ((ka 0), 8, .inr (.inl (fun _ => 0))))]) hP hD [3] [0, 1, 2] rfl rfl (by decide) (by decide) hk1 hFc hP1 hD1
  generalize H1 = H at hP hS ⊢
  refine W.widen (k := 4) (n := 330) (by omega) (by omega) ?_
  have hP : va_P D classes ([(v, .inr (4, [.ref q8, .ref q16, .null, .null, .int 0, .int 0, .int 0, .int 0])), (q8, .inl ((ka 0), 256, .inr (.inl (fun _ => 0)))), (q16, .inl ((ka 3), 64, .inr (.inr (.inr (.inr (fun _ => none)))))), (q23, .inr (2, [.ref wd, .int (nI 0)])), (wd, .inl ((ka 0), 8, .inr (.inl (fun _ => 0))))]) H := hP
  have hD : va_D A ([(v, .inr (4, [.ref q8, .ref q16, .null, .null, .int 0, .int 0, .int 0, .int 0])), (q8, .inl ((ka 0), 256, .inr (.inl (fun _ => 0)))), (q16, .inl ((ka 3), 64, .inr (.inr (.inr (.inr (fun _ => none)))))), (q23, .inr (2, [.ref wd, .int (nI 0)])), (wd, .inl ((ka 0), 8, .inr (.inl (fun _ => 0))))]) := hD
  refine va_putF (D := D) (ci := 4) (v := .ref q23) (ty := .object "VersionedBlock$Weave") (C := "VersionedBlock") (T := T_Vb) (N := 8) hx hb hts (fun w h => List.mem_cons_of_mem _ (il_Vb w h)) t_Vb t_Vb_ok n_Vb hown hK hP hD hS 0 rfl rfl 3 (by decide) (hts _ (List.mem_cons_of_mem _ mw_1_45)) (fun _ h9 => h9) rfl hin rfl (by decide +kernel) rfl rfl (Nat.le_of_ble_eq_true rfl) d_Vb_init_30 (fun H locs hP hD hS => ?_)
  have hP : va_P D classes ([(v, .inr (4, [.ref q8, .ref q16, .null, .ref q23, .int 0, .int 0, .int 0, .int 0])), (q8, .inl ((ka 0), 256, .inr (.inl (fun _ => 0)))), (q16, .inl ((ka 3), 64, .inr (.inr (.inr (.inr (fun _ => none)))))), (q23, .inr (2, [.ref wd, .int (nI 0)])), (wd, .inl ((ka 0), 8, .inr (.inl (fun _ => 0))))]) H := hP
  have hD : va_D A ([(v, .inr (4, [.ref q8, .ref q16, .null, .ref q23, .int 0, .int 0, .int 0, .int 0])), (q8, .inl ((ka 0), 256, .inr (.inl (fun _ => 0)))), (q16, .inl ((ka 3), 64, .inr (.inr (.inr (.inr (fun _ => none)))))), (q23, .inr (2, [.ref wd, .int (nI 0)])), (wd, .inl ((ka 0), 8, .inr (.inl (fun _ => 0))))]) := hD
  refine lv_aload_n hx hb d_Vb_init_33 rfl (lv_at hl 0 rfl) ?_
  refine lv_iconst (v := 1) hx hb d_Vb_init_34 (by decide) ?_
  refine lv_bipush (v := 16) hx hb d_Vb_init_35 (by decide) ?_
  refine lv_iload_n hx hb d_Vb_init_37 rfl (lv_at hl 1 rfl) ?_
  refine va_mmin hx hb (hml.trans hl.1.symm) hown (hts _ (List.mem_cons_of_mem _ mw_1_34)) (hts _ (List.mem_cons_of_mem _ mw_1_35)) (hts _ (List.mem_cons_of_mem _ mw_1_3)) (hts _ (List.mem_cons_of_mem _ mw_1_36)) (Nat.le_of_ble_eq_true rfl) (Nat.le_of_ble_eq_true rfl) (Nat.le_of_ble_eq_true rfl) (Nat.le_of_ble_eq_true rfl) d_Vb_init_38 ?_
  refine va_mmax hx hb (hml.trans hl.1.symm) hown (hts _ (List.mem_cons_of_mem _ mw_1_37)) (hts _ (List.mem_cons_of_mem _ mw_1_38)) (hts _ (List.mem_cons_of_mem _ mw_1_3)) (hts _ (List.mem_cons_of_mem _ mw_1_39)) (Nat.le_of_ble_eq_true rfl) (Nat.le_of_ble_eq_true rfl) (Nat.le_of_ble_eq_true rfl) (Nat.le_of_ble_eq_true rfl) d_Vb_init_41 ?_
  refine lv_topi (fun v_9 ev_9 => ?_)
  obtain ⟨m, hm1, hm2, hmx⟩ := wk_cnt x
  obtain rfl : v_9 = nI m := ev_9.trans hmx
  refine my_newq (C := "VersionedBlock$Worker") hx hb hown (hts _ (List.mem_cons_of_mem _ mw_1_40)) (va_AO.use (kN_aW hN)) hK 4 (cA0 := ka 4) rfl hP hD hS hA (k := m) (by omega) (by omega) (Nat.le_of_ble_eq_true rfl) (by show 330 + m ≤ 346; omega) d_Vb_init_44 (fun q44 H hP hD hS => ?_)
  have hP : va_P D classes ([(v, .inr (4, [.ref q8, .ref q16, .null, .ref q23, .int 0, .int 0, .int 0, .int 0])), (q8, .inl ((ka 0), 256, .inr (.inl (fun _ => 0)))), (q16, .inl ((ka 3), 64, .inr (.inr (.inr (.inr (fun _ => none)))))), (q23, .inr (2, [.ref wd, .int (nI 0)])), (wd, .inl ((ka 0), 8, .inr (.inl (fun _ => 0)))), (q44, .inl ((ka 4), m, .inr (.inr (.inr (.inr (fun _ => none))))))]) H := hP
  have hD : va_D A ([(v, .inr (4, [.ref q8, .ref q16, .null, .ref q23, .int 0, .int 0, .int 0, .int 0])), (q8, .inl ((ka 0), 256, .inr (.inl (fun _ => 0)))), (q16, .inl ((ka 3), 64, .inr (.inr (.inr (.inr (fun _ => none)))))), (q23, .inr (2, [.ref wd, .int (nI 0)])), (wd, .inl ((ka 0), 8, .inr (.inl (fun _ => 0)))), (q44, .inl ((ka 4), m, .inr (.inr (.inr (.inr (fun _ => none))))))]) := hD
  refine W.widen (k := 5) (n := 346) (by omega) (by omega) ?_
  refine va_putF (D := D) (ci := 4) (v := .ref q44) (ty := .array (.object "VersionedBlock$Worker")) (C := "VersionedBlock") (T := T_Vb) (N := 8) hx hb hts (fun w h => List.mem_cons_of_mem _ (il_Vb w h)) t_Vb t_Vb_ok n_Vb hown hK hP hD hS 0 rfl rfl 2 (by decide) (hts _ (List.mem_cons_of_mem _ mw_1_44)) (fun _ h9 => h9) rfl hin rfl (by decide +kernel) rfl rfl (Nat.le_of_ble_eq_true rfl) d_Vb_init_47 (fun H locs hP hD hS => ?_)
  have hP : va_P D classes ([(v, .inr (4, [.ref q8, .ref q16, .ref q44, .ref q23, .int 0, .int 0, .int 0, .int 0])), (q8, .inl ((ka 0), 256, .inr (.inl (fun _ => 0)))), (q16, .inl ((ka 3), 64, .inr (.inr (.inr (.inr (fun _ => none)))))), (q23, .inr (2, [.ref wd, .int (nI 0)])), (wd, .inl ((ka 0), 8, .inr (.inl (fun _ => 0)))), (q44, .inl ((ka 4), m, .inr (.inr (.inr (.inr (fun _ => none))))))]) H := hP
  have hD : va_D A ([(v, .inr (4, [.ref q8, .ref q16, .ref q44, .ref q23, .int 0, .int 0, .int 0, .int 0])), (q8, .inl ((ka 0), 256, .inr (.inl (fun _ => 0)))), (q16, .inl ((ka 3), 64, .inr (.inr (.inr (.inr (fun _ => none)))))), (q23, .inr (2, [.ref wd, .int (nI 0)])), (wd, .inl ((ka 0), 8, .inr (.inl (fun _ => 0)))), (q44, .inl ((ka 4), m, .inr (.inr (.inr (.inr (fun _ => none))))))]) := hD
  have hP9 := hP.sub (ws' := [(v, .inr (4, [.ref q8, .ref q16, .ref q44, .ref q23, .int (nI 0), .int (nI 0), .int (nI 0), .int (nI 0)])), (q8, .inl ((ka 0), 256, .inr (.inl (fun _ => 0)))), (q16, .inl ((ka 3), 64, .inr (.inr (.inr (.inr (fun _ => none)))))), (q44, .inl ((ka 4), m, .inr (.inr (.inr (.inr (fun _ => none)))))), (q23, .inr (2, [.ref wd, .int (nI 0)])), (wd, .inl ((ka 0), 8, .inr (.inl (fun _ => 0))))]) [0, 1, 2, 5, 3, 4] rfl
  have hD9 := hD.sub (ws' := [(v, .inr (4, [.ref q8, .ref q16, .ref q44, .ref q23, .int (nI 0), .int (nI 0), .int (nI 0), .int (nI 0)])), (q8, .inl ((ka 0), 256, .inr (.inl (fun _ => 0)))), (q16, .inl ((ka 3), 64, .inr (.inr (.inr (.inr (fun _ => none)))))), (q44, .inl ((ka 4), m, .inr (.inr (.inr (.inr (fun _ => none)))))), (q23, .inr (2, [.ref wd, .int (nI 0)])), (wd, .inl ((ka 0), 8, .inr (.inl (fun _ => 0))))]) [0, 1, 2, 5, 3, 4] (by decide) rfl
  exact W.vret hx hb hr (fun t9 ht hW => ⟨⟨(), rfl, trivial, q8, q16, q44, q23, wd, m, ⟨hm1, hm2⟩, by rw [ht]; exact hP9, hD9⟩, hS.F ht⟩) hS.2.2 d_Vb_init_50
