set_option maxHeartbeats 16000000 in
set_option maxRecDepth 100000 in
theorem whole_start {pP : Program} {eE : Env} {sS : State} {mM : MethodId} {below : List Frame} {meth : Method} {cC : Code} (l : Launch) {b L : Nat} {xs : Nat → Int32} (hL : L ≤ 2561) (C0 : lw_At pP sS mM meth cC b L xs) : W pP l eE room_1 sS mM #[Value.ref b] below meth cC sS.heap [] 0 0 (lw_Z below #[Value.ref b] sS) (entryFrame mM ([Value.ref b] : List Value).toArray 4) := by
  obtain ⟨hx, hb, hr, hml, hown, hts, hX, hbl, hlocks, hgv⟩ := id C0
  have hN : kN sS := kN_lw hts
  obtain ⟨A, hAd⟩ : ∃ A : Nat → Prop, ∀ q, A q ↔ sS.heap.size ≤ q := ⟨fun q => sS.heap.size ≤ q, fun _ => Iff.rfl⟩
  have hA : ∀ q, sS.heap.size ≤ q → A q := fun q => (hAd q).mpr
  have hAs : ∀ q, A q → sS.heap.size ≤ q := fun q => (hAd q).mp
  have hbA : ¬ A b := fun z => absurd (hAs b z) (Nat.not_le.mpr hbl)
  obtain ⟨ka, hka⟩ := ar_all hts
  obtain ⟨c0, i0, hK0⟩ := u_known (C := "VersionedBlock$Draft") (T := T_Dr) (N := 4) (n := 4) hts (fun w h => tb_of (il_Dr w h)) (hts _ (tb_of mw_1_203))
  obtain ⟨c1, i1, hK1⟩ := u_known (C := "VersionedBlock$Transaction") (T := T_Tr) (N := 10) (n := 10) hts (fun w h => tb_of (il_Tr w h)) (hts _ (tb_of mw_1_86))
  obtain ⟨c2, i2, hK2⟩ := u_known (C := "VersionedBlock$Weave") (T := T_We) (N := 2) (n := 2) hts (fun w h => tb_of (il_We w h)) (hts _ (tb_of mw_1_21))
  obtain ⟨c3, i3, hK3⟩ := u_known (C := "VersionedBlock$Worker") (T := T_Wk) (N := 9) (n := 9) hts (fun w h => tb_of (il_Wk w h)) (hts _ (tb_of mw_1_197))
  obtain ⟨c4, i4, hK4⟩ := u_known (C := "VersionedBlock") (T := T_Vb) (N := 8) (n := 8) hts (fun w h => tb_of (il_Vb w h)) (hts _ (tb_of mw_1_11))
  obtain ⟨c5, i5, hK5⟩ := u_known (C := "VersionedBlockModel") (T := T_Mo) (N := 15) (n := 15) hts (fun w h => tb_of (il_Mo w h)) (hts _ (tb_of mw_2_140))
  obtain ⟨D, hKc⟩ : ∃ D : va_G, ∀ (k : Nat) (q : vw_C), classes[k]? = some q → u_Kn sS q.1 q.2.1 q.2.2 (D.1 k) (D.2 k) := by
    refine ⟨(fun k => if k = 0 then c0 else if k = 1 then c1 else if k = 2 then c2 else if k = 3 then c3 else if k = 4 then c4 else c5, fun k => if k = 0 then i0 else if k = 1 then i1 else if k = 2 then i2 else if k = 3 then i3 else if k = 4 then i4 else i5), ?_⟩
    intro k q hq
    match k, hq with
    | 0, hq => cases hq; exact hK0
    | 1, hq => cases hq; exact hK1
    | 2, hq => cases hq; exact hK2
    | 3, hq => cases hq; exact hK3
    | 4, hq => cases hq; exact hK4
    | 5, hq => cases hq; exact hK5
    | k + 6, hq => simp [classes] at hq
  have hK : va_K D classes (tyS ka) sS := ⟨hKc, hka⟩
  have hP : va_P D classes [] sS.heap := fun k q h => by simp at h
  have hD : va_D A [] := ⟨fun i j p q h => by simp at h, fun k q h => by simp at h⟩
  have hS : va_S A sS.heap sS.heap [] := va_S.rf
  have hl := lv_entry ([.ref b]) (n := 4) (Nat.le_of_ble_eq_true rfl)
  rw [lg_entry_eq]
  generalize (lg_sl ([.ref b]) ++ List.replicate (4 - (lg_sl ([.ref b])).length) Slot.unset).toArray = ls at hl ⊢
  have hl : lv_has ls 4 [(0, .ref b)] := hl
  refine va_new (ci := 4) (fs := [.null, .null, .null, .null, .int 0, .int 0, .int 0, .int 0]) (C := "VersionedBlock") (T := T_Vb) (N := 8) hx hb hts (fun w h => tb_of (il_Vb w h)) t_Vb t_Vb_ok hown (hts _ (tb_of mw_1_10)) (hts _ (tb_of mw_1_11)) (hts _ (tb_of mw_1_1)) hK hP hD hS hA rfl fs_Vb (Nat.le_of_ble_eq_true rfl) (Nat.le_of_ble_eq_true rfl) d_La_law_0 (fun q0 H hP hD hS => ?_)
  have hP : va_P D classes ([(q0, .inr (4, [.null, .null, .null, .null, .int 0, .int 0, .int 0, .int 0]))]) H := hP
  have hD : va_D A ([(q0, .inr (4, [.null, .null, .null, .null, .int 0, .int 0, .int 0, .int 0]))]) := hD
  refine W.widen (k := 1) (n := 8) (by omega) (by omega) ?_
  refine lv_dup hx hb d_La_law_3 rfl ?_
  refine lv_aload_n hx hb d_La_law_4 rfl (lv_at hl 0 rfl) ?_
  refine lv_iconst (v := 0) hx hb d_La_law_5 (by decide) ?_
  have hXn : va_X b L xs sS H := hX.kept (hS.2.1 b hbl hbA)
  refine vp_callSi (run_of (va_runS (As := [.ref b, .int 0]) (rest := [.ref q0, .ref q0]) ⟨hx, hb, hml, hown, hts⟩ (c_cell l b L xs hL) ⟨callB_of 2 hts (gd_lw mw_2_138) rfl rfl rfl (hts _ (tb_of mw_1_0)) (hts _ (tb_of mw_2_136)) (by decide +kernel) ⟨Nat.le_of_ble_eq_true rfl, Nat.le_of_ble_eq_true rfl⟩, (hts _ (tb_of mw_2_137))⟩ ⟨pC_blind, pC_pre hXn⟩ rfl rfl hl.1 rfl (lv_room (Nat.le_of_ble_eq_true rfl)) d_La_law_6 ⟨Nat.le_of_ble_eq_true rfl, Nat.le_of_ble_eq_true rfl⟩)) (fun r_6 hr_6 => ?_)
  have hPc := hP.sub (ws' := [(q0, .inr (4, [.null, .null, .null, .null, .int 0, .int 0, .int 0, .int 0]))]) [0] rfl
  have hDc := hD.sub (ws' := [(q0, .inr (4, [.null, .null, .null, .null, .int 0, .int 0, .int 0, .int 0]))]) [0] (by decide) rfl
  have hFc := va_free (wc := [(q0, .inr (4, [.null, .null, .null, .null, .int 0, .int 0, .int 0, .int 0]))]) hD hS hA [0] rfl
  refine va_callv (va_runI (As := [.int r_6]) (rest := [.ref q0]) ⟨hx, hb, hml, hown, hts⟩ (c_Vb_init l D ka H.size q0 r_6 ) ⟨callB_of 1 hts (gd_lw mw_1_14) rfl rfl rfl (hts _ (tb_of mw_1_1)) (hts _ (tb_of mw_1_12)) (by decide +kernel) ⟨Nat.le_of_ble_eq_true rfl, Nat.le_of_ble_eq_true rfl⟩, rfl, (hts _ (tb_of mw_1_13))⟩ ⟨pW_blind, pW_pre hK hN hPc hDc⟩ rfl rfl hl.1 rfl (lv_room (Nat.le_of_ble_eq_true rfl)) d_La_law_9 ⟨Nat.le_of_ble_eq_true rfl, Nat.le_of_ble_eq_true rfl⟩) hS (fun q _ h => hFc q h) hFc (fun u9 t9 H1 locs ht hvm hr_9 hB hz1 hk1 hS => ?_)
  obtain ⟨pa, ta, te, wv, wd, m, hrel_9, hP1, hD1⟩ := hB
  rw [ht] at hP1
  obtain ⟨hP, hD⟩ := va_join (wr := []) (w1 := [(q0, .inr (4, [.ref pa, .ref ta, .ref te, .ref wv, .int (nI 0), .int (nI 0), .int (nI 0), .int (nI 0)])), (pa, .inl ((ka 0), 256, .inr (.inl (fun _ => 0)))), (ta, .inl ((ka 3), 64, .inr (.inr (.inr (.inr (fun _ => none)))))), (te, .inl ((ka 4), m, .inr (.inr (.inr (.inr (fun _ => none)))))), (wv, .inr (2, [.ref wd, .int (nI 0)])), (wd, .inl ((ka 0), 8, .inr (.inl (fun _ => 0))))]) hP hD [0] [] rfl rfl (by decide) (by decide) hk1 hFc hP1 hD1
  generalize H1 = H at hP hS ⊢
  refine W.widen (k := 6) (n := 354) (by omega) (by omega) ?_
  have hP : va_P D classes ([(q0, .inr (4, [.ref pa, .ref ta, .ref te, .ref wv, .int (nI 0), .int (nI 0), .int (nI 0), .int (nI 0)])), (pa, .inl ((ka 0), 256, .inr (.inl (fun _ => 0)))), (ta, .inl ((ka 3), 64, .inr (.inr (.inr (.inr (fun _ => none)))))), (te, .inl ((ka 4), m, .inr (.inr (.inr (.inr (fun _ => none)))))), (wv, .inr (2, [.ref wd, .int (nI 0)])), (wd, .inl ((ka 0), 8, .inr (.inl (fun _ => 0))))]) H := hP
  have hD : va_D A ([(q0, .inr (4, [.ref pa, .ref ta, .ref te, .ref wv, .int (nI 0), .int (nI 0), .int (nI 0), .int (nI 0)])), (pa, .inl ((ka 0), 256, .inr (.inl (fun _ => 0)))), (ta, .inl ((ka 3), 64, .inr (.inr (.inr (.inr (fun _ => none)))))), (te, .inl ((ka 4), m, .inr (.inr (.inr (.inr (fun _ => none)))))), (wv, .inr (2, [.ref wd, .int (nI 0)])), (wd, .inl ((ka 0), 8, .inr (.inl (fun _ => 0))))]) := hD
  refine lv_astore_n (lv' := [(1, .ref q0), (0, .ref b)]) hx hb d_La_law_12 rfl hl (by decide) rfl (fun ls hl => ?_)
  refine va_new (ci := 5) (fs := [.null, .null, .null, .int 0, .null, .null, .null, .null, .int 0, .null, .int 0, .null, .null, .null, .int 0]) (C := "VersionedBlockModel") (T := T_Mo) (N := 15) hx hb hts (fun w h => tb_of (il_Mo w h)) t_Mo t_Mo_ok hown (hts _ (tb_of mw_2_139)) (hts _ (tb_of mw_2_140)) (hts _ (tb_of mw_1_4)) hK hP hD hS hA rfl fs_Mo (Nat.le_of_ble_eq_true rfl) (Nat.le_of_ble_eq_true rfl) d_La_law_13 (fun q13 H hP hD hS => ?_)
  have hP : va_P D classes ([(q0, .inr (4, [.ref pa, .ref ta, .ref te, .ref wv, .int (nI 0), .int (nI 0), .int (nI 0), .int (nI 0)])), (pa, .inl ((ka 0), 256, .inr (.inl (fun _ => 0)))), (ta, .inl ((ka 3), 64, .inr (.inr (.inr (.inr (fun _ => none)))))), (te, .inl ((ka 4), m, .inr (.inr (.inr (.inr (fun _ => none)))))), (wv, .inr (2, [.ref wd, .int (nI 0)])), (wd, .inl ((ka 0), 8, .inr (.inl (fun _ => 0)))), (q13, .inr (5, [.null, .null, .null, .int 0, .null, .null, .null, .null, .int 0, .null, .int 0, .null, .null, .null, .int 0]))]) H := hP
  have hD : va_D A ([(q0, .inr (4, [.ref pa, .ref ta, .ref te, .ref wv, .int (nI 0), .int (nI 0), .int (nI 0), .int (nI 0)])), (pa, .inl ((ka 0), 256, .inr (.inl (fun _ => 0)))), (ta, .inl ((ka 3), 64, .inr (.inr (.inr (.inr (fun _ => none)))))), (te, .inl ((ka 4), m, .inr (.inr (.inr (.inr (fun _ => none)))))), (wv, .inr (2, [.ref wd, .int (nI 0)])), (wd, .inl ((ka 0), 8, .inr (.inl (fun _ => 0)))), (q13, .inr (5, [.null, .null, .null, .int 0, .null, .null, .null, .null, .int 0, .null, .int 0, .null, .null, .null, .int 0]))]) := hD
  refine W.widen (k := 7) (n := 369) (by omega) (by omega) ?_
  refine lv_dup hx hb d_La_law_16 rfl ?_
  refine lv_aload_n hx hb d_La_law_17 rfl (lv_at hl 1 rfl) ?_
  refine lv_iconst (v := 0) hx hb d_La_law_18 (by decide) ?_
  have hXn : va_X b L xs sS H := hX.kept (hS.2.1 b hbl hbA)
  refine vp_callSi (run_of (va_runS (As := [.ref b, .int 0]) (rest := [.ref q13, .ref q13]) ⟨hx, hb, hml, hown, hts⟩ (c_cell l b L xs hL) ⟨callB_of 2 hts (gd_lw mw_2_138) rfl rfl rfl (hts _ (tb_of mw_1_0)) (hts _ (tb_of mw_2_136)) (by decide +kernel) ⟨Nat.le_of_ble_eq_true rfl, Nat.le_of_ble_eq_true rfl⟩, (hts _ (tb_of mw_2_137))⟩ ⟨pC_blind, pC_pre hXn⟩ rfl rfl hl.1 rfl (lv_room (Nat.le_of_ble_eq_true rfl)) d_La_law_19 ⟨Nat.le_of_ble_eq_true rfl, Nat.le_of_ble_eq_true rfl⟩)) (fun r_19 hr_19 => ?_)
  have hPc := hP.sub (ws' := [(q13, .inr (5, [.null, .null, .null, .int 0, .null, .null, .null, .null, .int 0, .null, .int 0, .null, .null, .null, .int 0]))]) [6] rfl
  have hDc := hD.sub (ws' := [(q13, .inr (5, [.null, .null, .null, .int 0, .null, .null, .null, .null, .int 0, .null, .int 0, .null, .null, .null, .int 0]))]) [6] (by decide) rfl
  have hFc := va_free (wc := [(q13, .inr (5, [.null, .null, .null, .int 0, .null, .null, .null, .null, .int 0, .null, .int 0, .null, .null, .null, .int 0]))]) hD hS hA [6] rfl
  refine va_callv (va_runI (As := [.int r_19]) (rest := [.ref q13]) ⟨hx, hb, hml, hown, hts⟩ (c_Mo_init l D ka H.size q13 r_19 ) ⟨callB_of 1 hts (gd_lw mw_2_143) rfl rfl rfl (hts _ (tb_of mw_1_4)) (hts _ (tb_of mw_2_141)) (by decide +kernel) ⟨Nat.le_of_ble_eq_true rfl, Nat.le_of_ble_eq_true rfl⟩, rfl, (hts _ (tb_of mw_2_142))⟩ ⟨pW_blind, pW_pre hK hN hPc hDc⟩ rfl rfl hl.1 rfl (lv_room (Nat.le_of_ble_eq_true rfl)) d_La_law_22 ⟨Nat.le_of_ble_eq_true rfl, Nat.le_of_ble_eq_true rfl⟩) hS (fun q _ h => hFc q h) hFc (fun u9 t9 H1 locs ht hvm hr_22 hB hz1 hk1 hS => ?_)
  obtain ⟨a1, a2, a3, a4, a5, a6, a7, a8, a9, b1, b2, hrel_22, hP1, hD1⟩ := hB
  rw [ht] at hP1
  obtain ⟨hP, hD⟩ := va_join (wr := [(q0, .inr (4, [.ref pa, .ref ta, .ref te, .ref wv, .int (nI 0), .int (nI 0), .int (nI 0), .int (nI 0)])), (pa, .inl ((ka 0), 256, .inr (.inl (fun _ => 0)))), (ta, .inl ((ka 3), 64, .inr (.inr (.inr (.inr (fun _ => none)))))), (te, .inl ((ka 4), m, .inr (.inr (.inr (.inr (fun _ => none)))))), (wv, .inr (2, [.ref wd, .int (nI 0)])), (wd, .inl ((ka 0), 8, .inr (.inl (fun _ => 0))))]) (w1 := [(q13, .inr (5, [.ref a1, .ref a2, .ref a3, .int (nI 0), .ref a4, .ref a5, .ref a6, .ref a7, .int (nI 0), .ref a8, .int 0, .ref a9, .ref b1, .ref b2, .int 0])), (a1, .inl ((ka 0), 256, .inr (.inl (fun _ => 0)))), (a2, .inl ((ka 0), 256, .inr (.inl (fun _ => 0)))), (a3, .inl ((ka 2), 256, .inl (fun _ => 0))), (a4, .inl ((ka 1), 64, .inl (fun _ => 0))), (a5, .inl ((ka 5), 2048, .inl (fun _ => 0))), (a6, .inl ((ka 1), 2048, .inl (fun _ => 0))), (a7, .inl ((ka 0), 2048, .inr (.inl (fun _ => 0)))), (a8, .inl ((ka 0), 8, .inr (.inl (fun _ => 0)))), (a9, .inl ((ka 2), 64, .inl (fun _ => 0))), (b1, .inl ((ka 1), 256, .inl (fun _ => 0))), (b2, .inl ((ka 0), 64, .inr (.inl (fun _ => 0))))]) hP hD [6] [0, 1, 2, 3, 4, 5] rfl rfl (by decide) (by decide) hk1 hFc hP1 hD1
  generalize H1 = H at hP hS ⊢
  refine W.widen (k := 18) (n := 7737) (by omega) (by omega) ?_
  have hP : va_P D classes ([(q0, .inr (4, [.ref pa, .ref ta, .ref te, .ref wv, .int (nI 0), .int (nI 0), .int (nI 0), .int (nI 0)])), (pa, .inl ((ka 0), 256, .inr (.inl (fun _ => 0)))), (ta, .inl ((ka 3), 64, .inr (.inr (.inr (.inr (fun _ => none)))))), (te, .inl ((ka 4), m, .inr (.inr (.inr (.inr (fun _ => none)))))), (wv, .inr (2, [.ref wd, .int (nI 0)])), (wd, .inl ((ka 0), 8, .inr (.inl (fun _ => 0)))), (q13, .inr (5, [.ref a1, .ref a2, .ref a3, .int (nI 0), .ref a4, .ref a5, .ref a6, .ref a7, .int (nI 0), .ref a8, .int 0, .ref a9, .ref b1, .ref b2, .int 0])), (a1, .inl ((ka 0), 256, .inr (.inl (fun _ => 0)))), (a2, .inl ((ka 0), 256, .inr (.inl (fun _ => 0)))), (a3, .inl ((ka 2), 256, .inl (fun _ => 0))), (a4, .inl ((ka 1), 64, .inl (fun _ => 0))), (a5, .inl ((ka 5), 2048, .inl (fun _ => 0))), (a6, .inl ((ka 1), 2048, .inl (fun _ => 0))), (a7, .inl ((ka 0), 2048, .inr (.inl (fun _ => 0)))), (a8, .inl ((ka 0), 8, .inr (.inl (fun _ => 0)))), (a9, .inl ((ka 2), 64, .inl (fun _ => 0))), (b1, .inl ((ka 1), 256, .inl (fun _ => 0))), (b2, .inl ((ka 0), 64, .inr (.inl (fun _ => 0))))]) H := hP
  have hD : va_D A ([(q0, .inr (4, [.ref pa, .ref ta, .ref te, .ref wv, .int (nI 0), .int (nI 0), .int (nI 0), .int (nI 0)])), (pa, .inl ((ka 0), 256, .inr (.inl (fun _ => 0)))), (ta, .inl ((ka 3), 64, .inr (.inr (.inr (.inr (fun _ => none)))))), (te, .inl ((ka 4), m, .inr (.inr (.inr (.inr (fun _ => none)))))), (wv, .inr (2, [.ref wd, .int (nI 0)])), (wd, .inl ((ka 0), 8, .inr (.inl (fun _ => 0)))), (q13, .inr (5, [.ref a1, .ref a2, .ref a3, .int (nI 0), .ref a4, .ref a5, .ref a6, .ref a7, .int (nI 0), .ref a8, .int 0, .ref a9, .ref b1, .ref b2, .int 0])), (a1, .inl ((ka 0), 256, .inr (.inl (fun _ => 0)))), (a2, .inl ((ka 0), 256, .inr (.inl (fun _ => 0)))), (a3, .inl ((ka 2), 256, .inl (fun _ => 0))), (a4, .inl ((ka 1), 64, .inl (fun _ => 0))), (a5, .inl ((ka 5), 2048, .inl (fun _ => 0))), (a6, .inl ((ka 1), 2048, .inl (fun _ => 0))), (a7, .inl ((ka 0), 2048, .inr (.inl (fun _ => 0)))), (a8, .inl ((ka 0), 8, .inr (.inl (fun _ => 0)))), (a9, .inl ((ka 2), 64, .inl (fun _ => 0))), (b1, .inl ((ka 1), 256, .inl (fun _ => 0))), (b2, .inl ((ka 0), 64, .inr (.inl (fun _ => 0))))]) := hD
  refine lv_astore_n (lv' := [(2, .ref q13), (1, .ref q0), (0, .ref b)]) hx hb d_La_law_25 rfl hl (by decide) rfl (fun ls hl => ?_)
  refine lv_iconst (v := (nI 1)) hx hb d_La_law_26 (by decide) ?_
  refine lv_istore_n (lv' := [(3, .int (nI 1)), (2, .ref q13), (1, .ref q0), (0, .ref b)]) hx hb d_La_law_27 rfl hl (by decide) rfl (fun ls hl => ?_)
  exact law_loop hL C0 A hA hAs hK q0 pa ta te wv q13 a1 a2 a3 a4 a5 a6 a7 a8 a9 b1 b2 m (L + 5 - 5 * 0 + 1) 0 wd 0 0 0 0 0 0 8 18 7737 (fun _ => 0) (fun _ => 0) (fun _ => none) (fun _ => none) [] (fun _ => none) (fun _ => []) (fun _ => none) (fun _ => 0) (fun _ => 0) (fun _ => 0) (fun _ => 0) (fun _ => 0) (fun _ => 0) (fun _ => 0) (fun _ => 0) (fun _ => 0) (fun _ => 0) 0 0 (Nat.zero_le _) (vbT_0 ka hrel_9.1 hrel_9.2) (fun _ _ => rfl) ⟨by decide, by decide, by decide⟩ kOK_0 (fun t ht => absurd ht (Nat.not_lt_zero _)) (by omega) (by omega) (Nat.lt_succ_self _) _ _ (hP.sub [0, 1, 2, 3, 4, 5, 6, 7, 8, 9, 10, 11, 12, 13, 14, 15, 16, 17] rfl) (hD.sub [0, 1, 2, 3, 4, 5, 6, 7, 8, 9, 10, 11, 12, 13, 14, 15, 16, 17] (by decide) rfl) hS ls (lv_sub hl [0, 2, 1, 3] rfl)
set_option maxHeartbeats 4000000 in
theorem lw_walk (l : Launch) (b : Addr) (xs : List Int32) : MetFree l x (headSpec (Jvm.Cond.code x code maxLocals ret :: tables_1) room_1) (lw_P b xs) (fun _ _ _ _ _ => True) lw_Q := by
  refine MetFree.of_bodyS (code := code) (maxLocals := maxLocals) (ret := ret) (by decide) ?_ ?_
  · intro args s m h hn
    obtain ⟨meth, c, h1, h2, h3, h4, h5, h6, -, -⟩ := Cond.code_spec hn (atoms_spec (ws := Jvm.Cond.code x code maxLocals ret :: tables_1) h _ List.mem_cons_self)
    exact ⟨meth, c, h1, h2, h3, h4, h5, h6⟩
  · intro p e s m args below meth c s₁ B hml0 hP _
    obtain ⟨rfl, hx, hbd, hgv⟩ := hP
    obtain ⟨scr, harrAt, hlist, hof, hsmall⟩ := hx
    obtain ⟨hcb, hkn, -, -⟩ := State.arrayAt?_spec harrAt
    have hown : s.vm.findClass R_law = some m.cls := findClass_of_methodNamed B.named
    have hts0 : ∀ c ∈ (Jvm.Cond.code x code maxLocals ret :: tables_1), c.before #[Value.ref b] s = true := atoms_spec (ws := Jvm.Cond.code x code maxLocals ret :: tables_1) B.pre
    have hts : ∀ w ∈ lw_tbl, w.before #[Value.ref b] s = true := k2_hts_sels lw_privs (fun w hw => hts0 w (List.mem_cons_of_mem _ hw)) lw_privs_ok
    have hml : c.maxLocals = 4 := B.maxLocals_eq (hts0 _ List.mem_cons_self)
    have X₀ : Stand p l e room_1 s m #[Value.ref b] below meth c s₁ [] 0 0 := Stand.of_body B
    have hh0 : s₁.heap = s.heap := by rw [B.state]; rfl
    have hsz : scr.slots.size = xs.length := by rw [← Array.length_toList, hlist, List.length_map]
    have hval : ∀ j : Nat, j < xs.length → scr.slots[j]? = some (.int (xs.getD j 0)) := fun j hj => by
      rw [← Array.getElem?_toList, hlist]
      simp [hj]
    have hbl : b < s.heap.size := (Array.getElem?_eq_some_iff.mp hcb).1
    have hX : va_X b xs.length (fun j => xs.getD j 0) s s.heap := ⟨scr, hcb, hof, hkn, hsz, hval⟩
    have K : W p l e room_1 s m #[Value.ref b] below meth c s₁.heap [] 0 0 (lw_Z below #[Value.ref b] s) (entryFrame m ([Value.ref b] : List Value).toArray 4) := by
      rw [hh0]
      exact whole_start l hbd ⟨B.exec, B.bytes, B.returns, hml, hown, hts, hX, hbl, B.notSynchronized, hgv⟩
    obtain ⟨t, a1, o, b1, b2, b3⟩ := K s₁ rfl X₀
    exact ⟨t, o, a1, b1, b2, b3⟩
theorem lw_pre_spec {args : Array Value} {s : State} (h : (Jvm.Cond.and given_1 narrow_1).before args s = true) (hr : rest_1_c.before args s = true) : ∃ (b : Addr) (xs : List Int32), lw_P b xs args s := by
  have hs := flat_of_before _ h
  have hq := flat_of_before _ hr
  have hc : (Cond.count 1).before args s = true := hs _ (by decide +kernel)
  have harr : (Cond.arrayOf (.arg 0) .int).before args s = true := hs _ (by decide +kernel)
  have hle : (Cond.le (.length (.arg 0)) (.int 2561)).before args s = true := hs _ (by decide +kernel)
  have hlen : (Cond.isInt (.length (.arg 0))).before args s = true := hq _ (by decide +kernel)
  have hall : (Cond.all (.arg 0) (.isInt (.elem (.arg 0) (.index 0)))).before args s = true := hq _ (by decide +kernel)
  obtain ⟨b, xs, hb, hx⟩ := State.ints_of_pre rfl harr hlen hall
  have hsm : xs.length < 2 ^ 31 := hx.choose_spec.2.2.2
  have hev : (Term.length (.arg 0)).eval args s none [] s = some (.int xs.length.toInt32) := hx.length_eval hb
  have hv := Cond.le_ints hev (show (Term.int 2561).eval args s none [] s = some (.int 2561) from rfl)
  have hd : xs.length.toInt32 ≤ 2561 := by
    simpa [Cond.before, Cond.holds, hv] using hle
  have hN : xs.length ≤ 2561 := (Int32.ofNat_le_ofNat hsm (by decide)).mp (show Int32.ofNat xs.length ≤ Int32.ofNat 2561 from hd)
  exact ⟨b, xs, Cond.one_arg hc (show args[0]? = some (.ref b) from hb), hx, hN, h⟩
theorem lw_comes (l : Launch) : Comes l x (Jvm.Cond.code x code maxLocals ret :: tables_1) room_1 (fun tb e args s => Calls_1 tb e args s ∧ rest_1 tb e args s ∧ Pre_1 tb e args s)
    (fun _ _ args s o t => lw_Q args s o t) := by
  intro p e ha hc hk s m args below hf hfit hheap happ hpre
  obtain ⟨b, xs, hP⟩ := lw_pre_spec hpre.2.2 hpre.2.1
  obtain ⟨k, o, h1, h2, h3, hQ⟩ := lw_walk l b xs p e ha hc hk s m args below hf ((Spec.applies_iff_loose hf).mp happ).1 hP trivial
  exact ⟨k, o, h1, h2, h3, hQ⟩
theorem lw_frame {s t : State} {o : Outcome} {args : Array Value} (h : Framed s o t [] 295586 8215492) :
    Framed s o t (fieldLocs frame_1_writes args s ++ arrayLocs frame_1_arrays args s ++ staticLocs frame_1_statics s) 295586 8215492 := h
theorem lw_limb (L : Cond) (hL : ∀ (args : Array Value) (s t : State), L.after args s (.returned (some (.int 1))) t = true) :
    ArmFor flags0 classFile x code maxLocals ret World_1 tables_1 room_1 Calls_1 rest_1 Pre_1
      (fun tb e a s o t => postC L tb e a s o t ∧ Framed s o t (fieldLocs frame_1_writes a s ++ arrayLocs frame_1_arrays a s ++ staticLocs frame_1_statics s) 295586 8215492) := by
  intro l _ _ _ p e ha hc hk s m args below hf hfit hheap happ hpre
  obtain ⟨k, o, h1, h2, h3, rfl, hF⟩ := lw_comes l p e ha hc hk s m args below hf hfit hheap happ hpre
  exact ⟨k, _, h1, h2, h3, hL args s _, lw_frame hF⟩
theorem i_vc : Claimed_1_1 ∧ Claimed_1_2 := ⟨lw_limb limb_1_1 (fun args s t => by simp [limb_1_1, Cond.after, Cond.holds, Cond.value]), lw_limb limb_1_2 (fun args s t => Cond.after_iff.mpr (by
  first | (rw [show limb_1_2 = Cond.eq .result (.int 1) from rfl, Cond.eq_ints (x := 1) (y := 1) rfl rfl]; simp; done) | (simp [limb_1_2, Cond.value, Term.eval]; done)))⟩
