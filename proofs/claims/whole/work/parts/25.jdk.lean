set_option maxHeartbeats 4000000 in
set_option maxRecDepth 100000 in
theorem c_fmII (l : Launch) (x : Int32) (m : Nat) (hm : 0 < m) (hm2 : m < 2 ^ 31) : Met l y_Ma_floorMod_II w_Ma_floorMod_II ({ frames := 0, cells := 0, slots := 0, locals := 0 }) (pE [.int x, .int (nI m)]) (vp_Si (fun r => r = (nI (x.toInt % (m : Int)).toNat))) 0 0 (fun _ => False) := by
  refine my_ofWF (cc := b_Ma_floorMod_II) (maxL := 3) (ret := (some .int)) (by decide +kernel) rfl ?_
  intro pP eE sS mM args below meth cC s1 B hml hv
  obtain ⟨rfl, hN⟩ := hv
  have hx := B.exec
  have hb := B.bytes
  have hr := B.returns
  have hts := atoms_spec (ws := w_Ma_floorMod_II) B.pre
  have hown : sS.vm.findClass "java/lang/Math" = some mM.cls := findClass_of_methodNamed B.named
  have hlocks := B.notSynchronized
  have hl := lv_entry ([.int x, .int (nI m)]) (n := 3) (Nat.le_of_ble_eq_true rfl)
  rw [lg_entry_eq]
  generalize (lg_sl ([.int x, .int (nI m)]) ++ List.replicate (3 - (lg_sl ([.int x, .int (nI m)])).length) Slot.unset).toArray = ls at hl ⊢
  have hl : lv_has ls 3 [(0, .int x), (1, .int (nI m))] := hl
  refine lv_iload_n hx hb d_Ma_floorMod_II_0 rfl (lv_at hl 0 rfl) ?_
  refine lv_iload_n hx hb d_Ma_floorMod_II_1 rfl (lv_at hl 1 rfl) ?_
  refine lv_irem hx hb d_Ma_floorMod_II_2 (nI_ne0 hm hm2) ?_
  refine lv_istore_n (lv' := [(2, .int (x - x / (nI m) * (nI m))), (0, .int x), (1, .int (nI m))]) hx hb d_Ma_floorMod_II_3 rfl hl (by decide) rfl (fun ls hl => ?_)
  refine lv_iload_n hx hb d_Ma_floorMod_II_4 rfl (lv_at hl 1 rfl) ?_
  refine lv_iload_n hx hb d_Ma_floorMod_II_5 rfl (lv_at hl 2 rfl) ?_
  refine lv_ixor hx hb d_Ma_floorMod_II_6 ?_
  refine lv_if_ge (tgt := 18) hx hb d_Ma_floorMod_II_7 (by decide) (fun c_7 => ?_) (fun c_7 => ?_)
  · refine lv_iload_n hx hb d_Ma_floorMod_II_18 rfl (lv_at hl 0 rfl) ?_
    exact W.iret (v := (x - x / (nI m) * (nI m))) hx hb hr (fun t9 ht hW => ⟨(x - x / (nI m) * (nI m)), rfl, (fm_a hm hm2 c_7), ht⟩) (fun _ h => by cases h) d_Ma_floorMod_II_19
  · refine lv_iload_n hx hb d_Ma_floorMod_II_10 rfl (lv_at hl 0 rfl) ?_
    refine lv_if_eq (tgt := 18) hx hb d_Ma_floorMod_II_11 (by decide) (fun c_11 => ?_) (fun c_11 => ?_)
    · refine lv_iload_n hx hb d_Ma_floorMod_II_18 rfl (lv_at hl 0 rfl) ?_
      exact W.iret (v := (x - x / (nI m) * (nI m))) hx hb hr (fun t9 ht hW => ⟨(x - x / (nI m) * (nI m)), rfl, (fm_b hm hm2 c_11), ht⟩) (fun _ h => by cases h) d_Ma_floorMod_II_19
    · refine lv_iload_n hx hb d_Ma_floorMod_II_14 rfl (lv_at hl 0 rfl) ?_
      refine lv_iload_n hx hb d_Ma_floorMod_II_15 rfl (lv_at hl 2 rfl) ?_
      refine lv_iadd hx hb d_Ma_floorMod_II_16 ?_
      exact W.iret (v := ((x - x / (nI m) * (nI m)) + (nI m))) hx hb hr (fun t9 ht hW => ⟨((x - x / (nI m) * (nI m)) + (nI m)), rfl, (fm_c hm hm2 c_7 c_11), ht⟩) (fun _ h => by cases h) d_Ma_floorMod_II_17
set_option maxHeartbeats 4000000 in
set_option maxRecDepth 100000 in
theorem c_fmJJ (l : Launch) (x : Int64) (m : Nat) (hm : 0 < m) (hm2 : m < 2 ^ 31) : Met l y_Ma_floorMod_JJ w_Ma_floorMod_JJ ({ frames := 0, cells := 0, slots := 0, locals := 0 }) (pE [.long x, .long (lN m)]) (vp_Sl (fun r => r = (lN (x.toInt % (m : Int)).toNat))) 0 0 (fun _ => False) := by
  refine my_ofWF (cc := b_Ma_floorMod_JJ) (maxL := 6) (ret := (some .long)) (by decide +kernel) rfl ?_
  intro pP eE sS mM args below meth cC s1 B hml hv
  obtain ⟨rfl, hN⟩ := hv
  have hx := B.exec
  have hb := B.bytes
  have hr := B.returns
  have hts := atoms_spec (ws := w_Ma_floorMod_JJ) B.pre
  have hown : sS.vm.findClass "java/lang/Math" = some mM.cls := findClass_of_methodNamed B.named
  have hlocks := B.notSynchronized
  have hl := lv_entry ([.long x, .long (lN m)]) (n := 6) (Nat.le_of_ble_eq_true rfl)
  rw [lg_entry_eq]
  generalize (lg_sl ([.long x, .long (lN m)]) ++ List.replicate (6 - (lg_sl ([.long x, .long (lN m)])).length) Slot.unset).toArray = ls at hl ⊢
  have hl : lv_has ls 6 [(0, .long x), (2, .long (lN m))] := hl
  refine lv_lload_n hx hb d_Ma_floorMod_JJ_0 rfl (lv_at hl 0 rfl) ?_
  refine lv_lload_n hx hb d_Ma_floorMod_JJ_1 rfl (lv_at hl 1 rfl) ?_
  refine lv_lrem hx hb d_Ma_floorMod_JJ_2 (lN_ne0 hm hm2) ?_
  refine lv_lstore (lv' := [(4, .long (x - x / (lN m) * (lN m))), (0, .long x), (2, .long (lN m))]) hx hb d_Ma_floorMod_JJ_3 hl (by decide) rfl (fun ls hl => ?_)
  refine lv_lload_n hx hb d_Ma_floorMod_JJ_5 rfl (lv_at hl 1 rfl) ?_
  refine lv_lload_n hx hb d_Ma_floorMod_JJ_6 rfl (lv_at hl 2 rfl) ?_
  refine lv_lxor hx hb d_Ma_floorMod_JJ_7 ?_
  refine lv_lconst (v := 0) hx hb d_Ma_floorMod_JJ_8 (by decide) ?_
  refine W.lcmp hx hb d_Ma_floorMod_JJ_9 ?_
  refine lv_if_ge (tgt := 25) hx hb d_Ma_floorMod_JJ_10 (by decide) (fun c_10 => ?_) (fun c_10 => ?_)
  · refine lv_lload hx hb d_Ma_floorMod_JJ_25 (lv_at hl 0 rfl) ?_
    exact W.lret (v := (x - x / (lN m) * (lN m))) hx hb hr (fun t9 ht hW => ⟨(x - x / (lN m) * (lN m)), rfl, (fl_a hm hm2 ((lg_cmp_ge _ _).mp c_10)), ht⟩) (fun _ h => by cases h) d_Ma_floorMod_JJ_27
  · refine lv_lload hx hb d_Ma_floorMod_JJ_13 (lv_at hl 0 rfl) ?_
    refine lv_lconst (v := 0) hx hb d_Ma_floorMod_JJ_15 (by decide) ?_
    refine W.lcmp hx hb d_Ma_floorMod_JJ_16 ?_
    refine lv_if_eq (tgt := 25) hx hb d_Ma_floorMod_JJ_17 (by decide) (fun c_17 => ?_) (fun c_17 => ?_)
    · refine lv_lload hx hb d_Ma_floorMod_JJ_25 (lv_at hl 0 rfl) ?_
      exact W.lret (v := (x - x / (lN m) * (lN m))) hx hb hr (fun t9 ht hW => ⟨(x - x / (lN m) * (lN m)), rfl, (fl_b hm hm2 ((lg_cmp_eq _ _).mp c_17)), ht⟩) (fun _ h => by cases h) d_Ma_floorMod_JJ_27
    · refine lv_lload hx hb d_Ma_floorMod_JJ_20 (lv_at hl 0 rfl) ?_
      refine lv_lload_n hx hb d_Ma_floorMod_JJ_22 rfl (lv_at hl 2 rfl) ?_
      refine lv_ladd hx hb d_Ma_floorMod_JJ_23 ?_
      exact W.lret (v := ((x - x / (lN m) * (lN m)) + (lN m))) hx hb hr (fun t9 ht hW => ⟨((x - x / (lN m) * (lN m)) + (lN m)), rfl, (fl_c hm hm2 (fun q => c_10 ((lg_cmp_ge _ _).mpr q)) (fun q => c_17 ((lg_cmp_eq _ _).mpr q))), ht⟩) (fun _ h => by cases h) d_Ma_floorMod_JJ_24
set_option maxHeartbeats 4000000 in
set_option maxRecDepth 100000 in
theorem c_copyOf (l : Launch) (D : va_G) (ka : Nat → ClassId) (sz : Nat) (a n n2 : Nat) (f : Nat → Int64) (hn : n < n2) (hn2 : n2 ≤ 4096) : Met l y_Ar_copyOf w_Ar_copyOf ({ frames := 1, cells := 1, slots := 4096, locals := 60 }) (pW classes (tyS ka) D [.ref a, .int (nI n2)] ([(a, .inl ((ka 0), n, .inr (.inl f)))]) sz) (va_Qr (fun _ : Unit => True) (fun (_ : Unit) (ra : Nat) t9 => ∃ (g : Nat → Int64), (True) ∧ va_P D classes ([(a, .inl ((ka 0), n, .inr (.inl f))), (ra, .inl ((ka 0), n2, .inr (.inl g)))]) t9.heap ∧ va_D (va_A ([(a, .inl ((ka 0), n, .inr (.inl f)))]) sz) ([(a, .inl ((ka 0), n, .inr (.inl f))), (ra, .inl ((ka 0), n2, .inr (.inl g)))])) (va_A ([(a, .inl ((ka 0), n, .inr (.inl f)))]) sz)) 1 4096 (va_A ([(a, .inl ((ka 0), n, .inr (.inl f)))]) sz) := by
  refine Met.ofW (cc := b_Ar_copyOf) (maxL := 3) (ret := (some (.array .long))) (by decide) rfl ?_
  intro pP eE sS mM args below meth cC s1 B hml hv
  obtain ⟨rfl, hsz, hP, hK, hN, hD0⟩ := hv
  have hx := B.exec
  have hb := B.bytes
  have hr := B.returns
  have hts := atoms_spec (ws := w_Ar_copyOf) B.pre
  have hown : sS.vm.findClass "java/util/Arrays" = some mM.cls := findClass_of_methodNamed B.named
  have hlocks := B.notSynchronized
  subst hsz
  have hD := hD0.self (sz := sS.heap.size)
  generalize hAe : va_A ([(a, .inl ((ka 0), n, .inr (.inl f)))]) sS.heap.size = A at hD ⊢
  have hA : ∀ q : Nat, sS.heap.size ≤ q → A q := fun q h => by rw [← hAe]; exact Or.inr h
  have hS : va_S A sS.heap sS.heap [] := va_S.rf
  have hl := lv_entry ([.ref a, .int (nI n2)]) (n := 3) (Nat.le_of_ble_eq_true rfl)
  rw [lg_entry_eq]
  generalize (lg_sl ([.ref a, .int (nI n2)]) ++ List.replicate (3 - (lg_sl ([.ref a, .int (nI n2)])).length) Slot.unset).toArray = ls at hl ⊢
  have hl : lv_has ls 3 [(0, .ref a), (1, .int (nI n2))] := hl
  refine lv_iload_n hx hb d_Ar_copyOf_0 rfl (lv_at hl 1 rfl) ?_
  refine lv_aload_n hx hb d_Ar_copyOf_1 rfl (lv_at hl 0 rfl) ?_
  refine va_alen (v := nI n) hx hb hK hP 0 0 rfl rfl rfl d_Ar_copyOf_2 ?_
  refine lv_icmp_ne (tgt := 14) hx hb d_Ar_copyOf_3 (by decide) (fun c_3 => ?_) (fun c_3 => absurd c_3 (fun q => by have := (nI_eq (by omega) (by omega)).mp q; omega))
  refine lv_iload_n hx hb d_Ar_copyOf_14 rfl (lv_at hl 1 rfl) ?_
  refine my_newa (ty := .long) (a0 := (n2, .inr (.inl (fun _ => 0)))) hx hb (hts _ (List.mem_cons_of_mem _ mw_1_33)) rfl hK 0 (cA0 := ka 0) rfl hP hD hS hA (fun _ => rfl) (k := n2) (by omega) (by show n2 * 8 ≤ _; omega) (Nat.le_of_ble_eq_true rfl) (by show 0 + n2 ≤ 4096; omega) d_Ar_copyOf_15 (fun q15 H hP hD hS => ?_)
  have hP : va_P D classes ([(a, .inl ((ka 0), n, .inr (.inl f))), (q15, .inl ((ka 0), n2, .inr (.inl (fun _ => 0))))]) H := hP
  have hD : va_D A ([(a, .inl ((ka 0), n, .inr (.inl f))), (q15, .inl ((ka 0), n2, .inr (.inl (fun _ => 0))))]) := hD
  refine W.widen (k := 1) (n := 4096) (by omega) (by omega) ?_
  refine lv_astore_n (lv' := [(2, .ref q15), (0, .ref a), (1, .int (nI n2))]) hx hb d_Ar_copyOf_17 rfl hl (by decide) rfl (fun ls hl => ?_)
  refine lv_aload_n hx hb d_Ar_copyOf_18 rfl (lv_at hl 1 rfl) ?_
  refine lv_iconst (v := 0) hx hb d_Ar_copyOf_19 (by decide) ?_
  refine lv_aload_n hx hb d_Ar_copyOf_20 rfl (lv_at hl 0 rfl) ?_
  refine lv_iconst (v := 0) hx hb d_Ar_copyOf_21 (by decide) ?_
  refine lv_aload_n hx hb d_Ar_copyOf_22 rfl (lv_at hl 1 rfl) ?_
  refine va_alen (v := nI n) hx hb hK hP 0 0 rfl rfl rfl d_Ar_copyOf_23 ?_
  refine lv_iload_n hx hb d_Ar_copyOf_24 rfl (lv_at hl 2 rfl) ?_
  refine va_mmin hx hb (hml.trans hl.1.symm) hown (hts _ (List.mem_cons_of_mem _ mw_1_158)) (hts _ (List.mem_cons_of_mem _ mw_1_35)) (hts _ (List.mem_cons_of_mem _ mw_1_3)) (hts _ (List.mem_cons_of_mem _ mw_1_36)) (Nat.le_of_ble_eq_true rfl) (Nat.le_of_ble_eq_true rfl) (Nat.le_of_ble_eq_true rfl) (Nat.le_of_ble_eq_true rfl) d_Ar_copyOf_25 ?_
  refine lv_topi (fun v_9 ev_9 => ?_)
  obtain rfl : v_9 = nI n := ev_9.trans (if_neg (nI_nlt (by omega) (by omega)))
  refine va_copyl hx hb (hml.trans hl.1.symm) hown (hts _ (List.mem_cons_of_mem _ mw_1_159)) (hts _ (List.mem_cons_of_mem _ mw_1_161)) (hts _ (List.mem_cons_of_mem _ mw_1_160)) (hts _ (List.mem_cons_of_mem _ mw_1_7)) hK hP hD hS 0 1 0 0 rfl rfl rfl rfl rfl (by decide) (by decide) (nI_pos (by omega)) (by rw [sb_cl0, nI_clamp (by omega)]; omega) (by rw [sb_cl0, nI_clamp (by omega)]; omega) (fun _ _ => rfl) (Nat.le_of_ble_eq_true rfl) (by decide) d_Ar_copyOf_28 (fun H locs hP hD hS => ?_)
  have hP : va_P D classes ([(a, .inl ((ka 0), n, .inr (.inl f))), (q15, .inl ((ka 0), n2, .inr (.inl (va_cpy f (fun _ => 0) (0 : Int32).toNatClampNeg (0 : Int32).toNatClampNeg ((nI n)).toNatClampNeg))))]) H := hP
  have hD : va_D A ([(a, .inl ((ka 0), n, .inr (.inl f))), (q15, .inl ((ka 0), n2, .inr (.inl (va_cpy f (fun _ => 0) (0 : Int32).toNatClampNeg (0 : Int32).toNatClampNeg ((nI n)).toNatClampNeg))))]) := hD
  refine lv_aload_n hx hb d_Ar_copyOf_31 rfl (lv_at hl 0 rfl) ?_
  have hP9 := hP.sub (ws' := [(a, .inl ((ka 0), n, .inr (.inl f))), (q15, .inl ((ka 0), n2, .inr (.inl (va_cpy f (fun _ => 0) (0 : Int32).toNatClampNeg (0 : Int32).toNatClampNeg (nI n).toNatClampNeg))))]) [0, 1] rfl
  have hD9 := hD.sub (ws' := [(a, .inl ((ka 0), n, .inr (.inl f))), (q15, .inl ((ka 0), n2, .inr (.inl (va_cpy f (fun _ => 0) (0 : Int32).toNatClampNeg (0 : Int32).toNatClampNeg (nI n).toNatClampNeg))))]) [0, 1] (by decide) rfl
  exact W.aret (v := .ref q15) hx hb hr (Or.inr ⟨_, rfl⟩) (Or.inr ⟨_, rfl⟩) (fun t9 ht hW => ⟨⟨(), q15, rfl, trivial, (va_cpy f (fun _ => 0) (0 : Int32).toNatClampNeg (0 : Int32).toNatClampNeg (nI n).toNatClampNeg), trivial, by rw [ht]; exact hP9, hD9⟩, hS.F ht⟩) hS.2.2 d_Ar_copyOf_32
