set_option maxHeartbeats 64000000 in
set_option maxRecDepth 100000 in
theorem law_loop {pP : Program} {l : Launch} {eE : Env} {sS : State} {mM : MethodId} {below : List Frame} {meth : Method} {cC : Code} {D : va_G} {ka : Nat → ClassId} {b L : Nat} {xs : Nat → Int32} (hL : L ≤ 2561) (C0 : lw_At pP sS mM meth cC b L xs) (A : Nat → Prop) (hA : ∀ q, sS.heap.size ≤ q → A q) (hAs : ∀ q, A q → sS.heap.size ≤ q) (hK : va_K D classes (tyS ka) sS) (v pa ta te wv mo a1 a2 a3 a4 a5 a6 a7 a8 a9 b1 b2 m : Nat) : ∀ (fuel : Nat) (q : Nat) (wd n nT tk sl hz wl K cN sN : Nat) (P wo : Nat → Int64) (tf wf : Nat → Option Nat) (tl : va_W) (wk : Wk) (pgs : Nat → Pg) (td : Nat → Option Td) (sv ss rg rv : Nat → Int64) (si zs os fs it tv : Nat → Int32) (nxm ldm : Int32), (5 * q ≤ L) → (vbT ka n nT m tf wf pgs td wk tl) → (∀ w, w < m → wk w = none) → (wl ≤ 65536 ∧ wl % 16 = 0 ∧ wl ≤ 16 * K) → (kOK K) → (∀ t, t < n → zs t = nI (pgs t).length ∧ pgR (pgs t) (fun j => os (32 * t + j)) (fun j => fs (32 * t + j)) (fun j => ss (32 * t + j)) ∧ tdMo it tv rv t (td t)) → (cN ≤ 18 + 4 * q + 10 * mkC wf m) → (sN ≤ 7737 + 4096 * q + 1561 * mkC wf m) → (L + 5 - 5 * q) < fuel → ∀ (H : Heap) (locs : List Loc), va_P D classes ([(v, .inr (4, [.ref pa, .ref ta, .ref te, .ref wv, .int (nI n), .int (nI tk), .int (nI sl), .int (nI hz)])), (pa, .inl ((ka 0), 256, .inr (.inl P))), (ta, .inl ((ka 3), 64, .inr (.inr (.inr (.inr tf))))), (te, .inl ((ka 4), m, .inr (.inr (.inr (.inr wf))))), (wv, .inr (2, [.ref wd, .int (nI wl)])), (wd, .inl ((ka 0), K, .inr (.inl wo))), (mo, .inr (5, [.ref a1, .ref a2, .ref a3, .int (nI n), .ref a4, .ref a5, .ref a6, .ref a7, .int (nI wl), .ref a8, .int nxm, .ref a9, .ref b1, .ref b2, .int ldm])), (a1, .inl ((ka 0), 256, .inr (.inl P))), (a2, .inl ((ka 0), 256, .inr (.inl sv))), (a3, .inl ((ka 2), 256, .inl si)), (a4, .inl ((ka 1), 64, .inl zs)), (a5, .inl ((ka 5), 2048, .inl os)), (a6, .inl ((ka 1), 2048, .inl fs)), (a7, .inl ((ka 0), 2048, .inr (.inl ss))), (a8, .inl ((ka 0), 8, .inr (.inl rg))), (a9, .inl ((ka 2), 64, .inl it)), (b1, .inl ((ka 1), 256, .inl tv)), (b2, .inl ((ka 0), 64, .inr (.inl rv)))] ++ tl) H → va_D A ([(v, .inr (4, [.ref pa, .ref ta, .ref te, .ref wv, .int (nI n), .int (nI tk), .int (nI sl), .int (nI hz)])), (pa, .inl ((ka 0), 256, .inr (.inl P))), (ta, .inl ((ka 3), 64, .inr (.inr (.inr (.inr tf))))), (te, .inl ((ka 4), m, .inr (.inr (.inr (.inr wf))))), (wv, .inr (2, [.ref wd, .int (nI wl)])), (wd, .inl ((ka 0), K, .inr (.inl wo))), (mo, .inr (5, [.ref a1, .ref a2, .ref a3, .int (nI n), .ref a4, .ref a5, .ref a6, .ref a7, .int (nI wl), .ref a8, .int nxm, .ref a9, .ref b1, .ref b2, .int ldm])), (a1, .inl ((ka 0), 256, .inr (.inl P))), (a2, .inl ((ka 0), 256, .inr (.inl sv))), (a3, .inl ((ka 2), 256, .inl si)), (a4, .inl ((ka 1), 64, .inl zs)), (a5, .inl ((ka 5), 2048, .inl os)), (a6, .inl ((ka 1), 2048, .inl fs)), (a7, .inl ((ka 0), 2048, .inr (.inl ss))), (a8, .inl ((ka 0), 8, .inr (.inl rg))), (a9, .inl ((ka 2), 64, .inl it)), (b1, .inl ((ka 1), 256, .inl tv)), (b2, .inl ((ka 0), 64, .inr (.inl rv)))] ++ tl) → va_S A sS.heap H locs → ∀ (ls : Array Slot), lv_has ls 4 [(3, .int (nI (5 * q + 1))), (1, .ref v), (2, .ref mo), (0, .ref b)] → W pP l eE room_1 sS mM #[Value.ref b] below meth cC H locs (cN) (sN) (lw_Z below #[Value.ref b] sS) (F0 mM 28 ls []) := by
  obtain ⟨hx, hb, hr, hml, hown, hts, hX, hbl, hlocks, hgv⟩ := C0
  have hbA : ¬ A b := fun z => absurd (hAs b z) (Nat.not_le.mpr hbl)
  have hN : kN sS := kN_lw hts
  intro fuel
  induction fuel with
  | zero => intro q wd n nT tk sl hz wl K cN sN P wo tf wf tl wk pgs td sv ss rg rv si zs os fs it tv nxm ldm hq hT hfr hW hKK hM hcc hss hfu; exact absurd hfu (Nat.not_lt_zero _)
  | succ fuel ih =>
    intro q wd n nT tk sl hz wl K cN sN P wo tf wf tl wk pgs td sv ss rg rv si zs os fs it tv nxm ldm hq hT hfr hW hKK hM hcc hss hfu H locs hP hD hS ls hl
    have hmk := mkC_le wf m
    have hn1 := hT.1
    have hn2 := hT.2.1
    have hn64 : n ≤ 64 := by omega
    have hm16 := hT.2.2.2.1
    refine lv_iload_n hx hb d_La_law_28 rfl (lv_at hl 0 rfl) ?_
    refine lv_aload_n hx hb d_La_law_29 rfl (lv_at hl 3 rfl) ?_
    refine va_slen hx hb hX hbl hbA hS d_La_law_30 ?_
    refine lv_iconst (v := (nI 5)) hx hb d_La_law_31 (by decide) ?_
    refine lv_isub hx hb d_La_law_32 ?_
    refine lv_icmp_gt (tgt := 441) hx hb d_La_law_33 (by decide) (fun c_33 => ?_) (fun c_33 => ?_)
    · refine lv_iconst (v := 1) hx hb d_La_law_441 (by decide) ?_
      refine va_forget (fun z hz0 => hAs _ (hS.2.2 z hz0)) ?_
      refine W.widen (k := 295586) (n := 8215492) (by omega) (by omega) ?_
      exact lw_ret hx hb hr hlocks d_La_law_442
    · have hin : 5 * q + 1 + 5 ≤ L := law_in hL (by omega) c_33
      refine lv_aload_n hx hb d_La_law_36 rfl (lv_at hl 3 rfl) ?_
      refine lv_iload_n hx hb d_La_law_37 rfl (lv_at hl 0 rfl) ?_
      refine my_sld (k := (5 * q + 1)) hx hb hX hbl hbA hS (by omega) (by omega) d_La_law_38 ?_
      refine lv_bipush (v := 15) hx hb d_La_law_39 (by decide) ?_
      obtain ⟨c9, hc9, hc9e⟩ := wv_num (xs (5 * q + 1))
      refine lv_iand hx hb d_La_law_41 ?_
      refine lv_topi (fun v_41 ev_41 => ?_)
      obtain rfl : v_41 = nI c9 := ev_41.trans hc9e
      have hcs : c9 = 0 ∨ c9 = 1 ∨ c9 = 2 ∨ c9 = 3 ∨ c9 = 4 ∨ c9 = 5 ∨ c9 = 6 ∨ c9 = 7 ∨ c9 = 8 ∨ c9 = 9 ∨ c9 = 10 ∨ 11 ≤ c9 := by omega
      rcases hcs with rfl | rfl | rfl | rfl | rfl | rfl | rfl | rfl | rfl | rfl | rfl | hbig
      · skip
        refine lv_tableIn (off := 58) (tgt := 100) hx hb d_La_law_42 (by decide) (by decide) (by decide) (by decide) ?_
        by_cases hp0 : 0 ≤ (xs (5 * q + 2)).toInt ∧ (xs (5 * q + 2)).toInt < 256
        · obtain ⟨p, hp, hpe⟩ := pl_in hp0
          refine lv_aload_n hx hb d_La_law_100 rfl (lv_at hl 1 rfl) ?_
          refine lv_aload_n hx hb d_La_law_101 rfl (lv_at hl 3 rfl) ?_
          refine lv_iload_n hx hb d_La_law_102 rfl (lv_at hl 0 rfl) ?_
          refine lv_iconst (v := (nI 1)) hx hb d_La_law_103 (by decide) ?_
          refine lv_iadd hx hb d_La_law_104 ?_
          refine lv_topi (fun v_104 ev_104 => ?_)
          obtain rfl : v_104 = nI (5 * q + 2) := ev_104.trans (nI_add _ _)
          refine my_sld (k := (5 * q + 2)) hx hb hX hbl hbA hS (by omega) (by omega) d_La_law_105 ?_
          refine lv_topi (fun v_105 ev_105 => ?_)
          obtain rfl : v_105 = nI p := ev_105.trans hpe
          refine lv_aload_n hx hb d_La_law_106 rfl (lv_at hl 3 rfl) ?_
          refine lv_iload_n hx hb d_La_law_107 rfl (lv_at hl 0 rfl) ?_
          refine lv_iconst (v := (nI 2)) hx hb d_La_law_108 (by decide) ?_
          refine lv_iadd hx hb d_La_law_109 ?_
          refine lv_topi (fun v_109 ev_109 => ?_)
          obtain rfl : v_109 = nI (5 * q + 3) := ev_109.trans (nI_add _ _)
          refine my_sld (k := (5 * q + 3)) hx hb hX hbl hbA hS (by omega) (by omega) d_La_law_110 ?_
          refine lv_i2l (v := (xs (5 * q + 3)).toInt64) hx hb d_La_law_111 rfl ?_
          refine lv_bipush (v := 32) hx hb d_La_law_112 (by decide) ?_
          refine lv_lshl (v := (xs (5 * q + 3)).toInt64 <<< ((32 : Int32).toInt64 &&& 63)) hx hb d_La_law_114 rfl ?_
          refine lv_aload_n hx hb d_La_law_115 rfl (lv_at hl 3 rfl) ?_
          refine lv_iload_n hx hb d_La_law_116 rfl (lv_at hl 0 rfl) ?_
          refine lv_iconst (v := (nI 3)) hx hb d_La_law_117 (by decide) ?_
          refine lv_iadd hx hb d_La_law_118 ?_
          refine lv_topi (fun v_118 ev_118 => ?_)
          obtain rfl : v_118 = nI (5 * q + 4) := ev_118.trans (nI_add _ _)
          refine my_sld (k := (5 * q + 4)) hx hb hX hbl hbA hS (by omega) (by omega) d_La_law_119 ?_
          refine lv_i2l (v := (xs (5 * q + 4)).toInt64) hx hb d_La_law_120 rfl ?_
          refine lv_ldc2 (own := "VersionedBlockLaw") (index := 21) (v := 4294967295) hx hb hown (hts _ (tb_of mw_3_18)) d_La_law_121 ?_
          refine lv_land hx hb d_La_law_124 ?_
          refine lv_lor hx hb d_La_law_125 ?_
          refine lv_topl (fun v_125 ev_125 => ?_)
          obtain rfl : v_125 = lw (xs (5 * q + 3)) (xs (5 * q + 4)) := ev_125.trans rfl
          have hPc := hP.sub (ws' := [(v, .inr (4, [.ref pa, .ref ta, .ref te, .ref wv, .int (nI n), .int (nI tk), .int (nI sl), .int (nI hz)])), (pa, .inl ((ka 0), 256, .inr (.inl P)))]) [0, 1] rfl
          have hDc := hD.sub (ws' := [(v, .inr (4, [.ref pa, .ref ta, .ref te, .ref wv, .int (nI n), .int (nI tk), .int (nI sl), .int (nI hz)])), (pa, .inl ((ka 0), 256, .inr (.inl P)))]) [0, 1] (by decide) rfl
          have hFc := va_free (wc := [(v, .inr (4, [.ref pa, .ref ta, .ref te, .ref wv, .int (nI n), .int (nI tk), .int (nI sl), .int (nI hz)])), (pa, .inl ((ka 0), 256, .inr (.inl P)))]) hD hS hA [0, 1] rfl
          refine va_calli (va_runV (As := [.int (nI p), .long (lw (xs (5 * q + 3)) (xs (5 * q + 4)))]) (rest := []) ⟨hx, hb, hml, hown, hts⟩ (c_Vb_put l D ka H.size v pa ta te wv (nI n) (nI tk) (nI sl) (nI hz) p (lw (xs (5 * q + 3)) (xs (5 * q + 4))) P hp) ⟨callB_of 2 hts (gd_lw mw_1_70) rfl rfl rfl (hts _ (tb_of mw_1_1)) (hts _ (tb_of mw_1_67)) (by decide +kernel) ⟨Nat.le_of_ble_eq_true rfl, Nat.le_of_ble_eq_true rfl⟩, (hts _ (tb_of mw_1_68)), (hts _ (tb_of mw_1_69))⟩ ⟨pW_blind, va_recv hK hPc (ci := 4) (q0 := 0) rfl rfl, pW_pre hK hN hPc hDc⟩ rfl rfl hl.1 rfl (lv_room (Nat.le_of_ble_eq_true rfl)) d_La_law_126 ⟨by show cN + 0 ≤ 295586; omega, by show sN + 0 ≤ 8215492; omega⟩) hS (fun q _ h => hFc q h) hFc (fun r_126 u9 t9 H1 locs ht hvm hr_126 hB hz1 hk1 hS => ?_)
          obtain ⟨hrel_126, hP1, hD1⟩ := hB
          rw [ht] at hP1
          obtain ⟨hP, hD⟩ := va_joinQ (wr := [(ta, .inl ((ka 3), 64, .inr (.inr (.inr (.inr tf))))), (te, .inl ((ka 4), m, .inr (.inr (.inr (.inr wf))))), (wv, .inr (2, [.ref wd, .int (nI wl)])), (wd, .inl ((ka 0), K, .inr (.inl wo))), (mo, .inr (5, [.ref a1, .ref a2, .ref a3, .int (nI n), .ref a4, .ref a5, .ref a6, .ref a7, .int (nI wl), .ref a8, .int nxm, .ref a9, .ref b1, .ref b2, .int ldm])), (a1, .inl ((ka 0), 256, .inr (.inl P))), (a2, .inl ((ka 0), 256, .inr (.inl sv))), (a3, .inl ((ka 2), 256, .inl si)), (a4, .inl ((ka 1), 64, .inl zs)), (a5, .inl ((ka 5), 2048, .inl os)), (a6, .inl ((ka 1), 2048, .inl fs)), (a7, .inl ((ka 0), 2048, .inr (.inl ss))), (a8, .inl ((ka 0), 8, .inr (.inl rg))), (a9, .inl ((ka 2), 64, .inl it)), (b1, .inl ((ka 1), 256, .inl tv)), (b2, .inl ((ka 0), 64, .inr (.inl rv)))]) (w1 := [(v, .inr (4, [.ref pa, .ref ta, .ref te, .ref wv, .int (nI n), .int (nI tk), .int (nI sl), .int (nI hz)])), (pa, .inl ((ka 0), 256, .inr (.inl (vp_updL P p (lw (xs (5 * q + 3)) (xs (5 * q + 4)))))))]) hP hD [0, 1] [2, 3, 4, 5, 6, 7, 8, 9, 10, 11, 12, 13, 14, 15, 16, 17] rfl rfl (by decide) (by decide) hk1 hFc hP1 hD1
          generalize H1 = H at hP hS ⊢
          have hP : va_P D classes ([(ta, .inl ((ka 3), 64, .inr (.inr (.inr (.inr tf))))), (te, .inl ((ka 4), m, .inr (.inr (.inr (.inr wf))))), (wv, .inr (2, [.ref wd, .int (nI wl)])), (wd, .inl ((ka 0), K, .inr (.inl wo))), (mo, .inr (5, [.ref a1, .ref a2, .ref a3, .int (nI n), .ref a4, .ref a5, .ref a6, .ref a7, .int (nI wl), .ref a8, .int nxm, .ref a9, .ref b1, .ref b2, .int ldm])), (a1, .inl ((ka 0), 256, .inr (.inl P))), (a2, .inl ((ka 0), 256, .inr (.inl sv))), (a3, .inl ((ka 2), 256, .inl si)), (a4, .inl ((ka 1), 64, .inl zs)), (a5, .inl ((ka 5), 2048, .inl os)), (a6, .inl ((ka 1), 2048, .inl fs)), (a7, .inl ((ka 0), 2048, .inr (.inl ss))), (a8, .inl ((ka 0), 8, .inr (.inl rg))), (a9, .inl ((ka 2), 64, .inl it)), (b1, .inl ((ka 1), 256, .inl tv)), (b2, .inl ((ka 0), 64, .inr (.inl rv))), (v, .inr (4, [.ref pa, .ref ta, .ref te, .ref wv, .int (nI n), .int (nI tk), .int (nI sl), .int (nI hz)])), (pa, .inl ((ka 0), 256, .inr (.inl (vp_updL P p (lw (xs (5 * q + 3)) (xs (5 * q + 4)))))))] ++ tl) H := hP
          have hD : va_D A ([(ta, .inl ((ka 3), 64, .inr (.inr (.inr (.inr tf))))), (te, .inl ((ka 4), m, .inr (.inr (.inr (.inr wf))))), (wv, .inr (2, [.ref wd, .int (nI wl)])), (wd, .inl ((ka 0), K, .inr (.inl wo))), (mo, .inr (5, [.ref a1, .ref a2, .ref a3, .int (nI n), .ref a4, .ref a5, .ref a6, .ref a7, .int (nI wl), .ref a8, .int nxm, .ref a9, .ref b1, .ref b2, .int ldm])), (a1, .inl ((ka 0), 256, .inr (.inl P))), (a2, .inl ((ka 0), 256, .inr (.inl sv))), (a3, .inl ((ka 2), 256, .inl si)), (a4, .inl ((ka 1), 64, .inl zs)), (a5, .inl ((ka 5), 2048, .inl os)), (a6, .inl ((ka 1), 2048, .inl fs)), (a7, .inl ((ka 0), 2048, .inr (.inl ss))), (a8, .inl ((ka 0), 8, .inr (.inl rg))), (a9, .inl ((ka 2), 64, .inl it)), (b1, .inl ((ka 1), 256, .inl tv)), (b2, .inl ((ka 0), 64, .inr (.inl rv))), (v, .inr (4, [.ref pa, .ref ta, .ref te, .ref wv, .int (nI n), .int (nI tk), .int (nI sl), .int (nI hz)])), (pa, .inl ((ka 0), 256, .inr (.inl (vp_updL P p (lw (xs (5 * q + 3)) (xs (5 * q + 4)))))))] ++ tl) := hD
          obtain rfl : r_126 = 1 := hr_126
          refine lv_aload_n hx hb d_La_law_129 rfl (lv_at hl 2 rfl) ?_
          refine lv_aload_n hx hb d_La_law_130 rfl (lv_at hl 3 rfl) ?_
          refine lv_iload_n hx hb d_La_law_131 rfl (lv_at hl 0 rfl) ?_
          refine lv_iconst (v := (nI 1)) hx hb d_La_law_132 (by decide) ?_
          refine lv_iadd hx hb d_La_law_133 ?_
          refine lv_topi (fun v_133 ev_133 => ?_)
          obtain rfl : v_133 = nI (5 * q + 2) := ev_133.trans (nI_add _ _)
          refine my_sld (k := (5 * q + 2)) hx hb hX hbl hbA hS (by omega) (by omega) d_La_law_134 ?_
          refine lv_topi (fun v_134 ev_134 => ?_)
          obtain rfl : v_134 = nI p := ev_134.trans hpe
          refine lv_aload_n hx hb d_La_law_135 rfl (lv_at hl 3 rfl) ?_
          refine lv_iload_n hx hb d_La_law_136 rfl (lv_at hl 0 rfl) ?_
          refine lv_iconst (v := (nI 2)) hx hb d_La_law_137 (by decide) ?_
          refine lv_iadd hx hb d_La_law_138 ?_
          refine lv_topi (fun v_138 ev_138 => ?_)
          obtain rfl : v_138 = nI (5 * q + 3) := ev_138.trans (nI_add _ _)
          refine my_sld (k := (5 * q + 3)) hx hb hX hbl hbA hS (by omega) (by omega) d_La_law_139 ?_
          refine lv_i2l (v := (xs (5 * q + 3)).toInt64) hx hb d_La_law_140 rfl ?_
          refine lv_bipush (v := 32) hx hb d_La_law_141 (by decide) ?_
          refine lv_lshl (v := (xs (5 * q + 3)).toInt64 <<< ((32 : Int32).toInt64 &&& 63)) hx hb d_La_law_143 rfl ?_
          refine lv_aload_n hx hb d_La_law_144 rfl (lv_at hl 3 rfl) ?_
          refine lv_iload_n hx hb d_La_law_145 rfl (lv_at hl 0 rfl) ?_
          refine lv_iconst (v := (nI 3)) hx hb d_La_law_146 (by decide) ?_
          refine lv_iadd hx hb d_La_law_147 ?_
          refine lv_topi (fun v_147 ev_147 => ?_)
          obtain rfl : v_147 = nI (5 * q + 4) := ev_147.trans (nI_add _ _)
          refine my_sld (k := (5 * q + 4)) hx hb hX hbl hbA hS (by omega) (by omega) d_La_law_148 ?_
          refine lv_i2l (v := (xs (5 * q + 4)).toInt64) hx hb d_La_law_149 rfl ?_
          refine lv_ldc2 (own := "VersionedBlockLaw") (index := 21) (v := 4294967295) hx hb hown (hts _ (tb_of mw_3_18)) d_La_law_150 ?_
          refine lv_land hx hb d_La_law_153 ?_
          refine lv_lor hx hb d_La_law_154 ?_
          refine lv_topl (fun v_154 ev_154 => ?_)
          obtain rfl : v_154 = lw (xs (5 * q + 3)) (xs (5 * q + 4)) := ev_154.trans rfl
          have hPc := hP.sub (ws' := [(mo, .inr (5, [.ref a1, .ref a2, .ref a3, .int (nI n), .ref a4, .ref a5, .ref a6, .ref a7, .int (nI wl), .ref a8, .int nxm, .ref a9, .ref b1, .ref b2, .int ldm])), (a1, .inl ((ka 0), 256, .inr (.inl P)))]) [4, 5] rfl
          have hDc := hD.sub (ws' := [(mo, .inr (5, [.ref a1, .ref a2, .ref a3, .int (nI n), .ref a4, .ref a5, .ref a6, .ref a7, .int (nI wl), .ref a8, .int nxm, .ref a9, .ref b1, .ref b2, .int ldm])), (a1, .inl ((ka 0), 256, .inr (.inl P)))]) [4, 5] (by decide) rfl
          have hFc := va_free (wc := [(mo, .inr (5, [.ref a1, .ref a2, .ref a3, .int (nI n), .ref a4, .ref a5, .ref a6, .ref a7, .int (nI wl), .ref a8, .int nxm, .ref a9, .ref b1, .ref b2, .int ldm])), (a1, .inl ((ka 0), 256, .inr (.inl P)))]) hD hS hA [4, 5] rfl
          refine va_calli (va_runV (As := [.int (nI p), .long (lw (xs (5 * q + 3)) (xs (5 * q + 4)))]) (rest := [.int 1]) ⟨hx, hb, hml, hown, hts⟩ (c_Mo_put l D ka H.size mo a1 a2 a3 a4 a5 a6 a7 a8 a9 b1 b2 (nI n) (nI wl) nxm ldm p (lw (xs (5 * q + 3)) (xs (5 * q + 4))) P hp) ⟨callB_of 2 hts (gd_lw mw_2_195) rfl rfl rfl (hts _ (tb_of mw_1_4)) (hts _ (tb_of mw_2_192)) (by decide +kernel) ⟨Nat.le_of_ble_eq_true rfl, Nat.le_of_ble_eq_true rfl⟩, (hts _ (tb_of mw_2_193)), (hts _ (tb_of mw_2_194))⟩ ⟨pW_blind, va_recv hK hPc (ci := 5) (q0 := 0) rfl rfl, pW_pre hK hN hPc hDc⟩ rfl rfl hl.1 rfl (lv_room (Nat.le_of_ble_eq_true rfl)) d_La_law_155 ⟨by show cN + 0 ≤ 295586; omega, by show sN + 0 ≤ 8215492; omega⟩) hS (fun q _ h => hFc q h) hFc (fun r_155 u9 t9 H1 locs ht hvm hr_155 hB hz1 hk1 hS => ?_)
          obtain ⟨hrel_155, hP1, hD1⟩ := hB
          rw [ht] at hP1
          obtain ⟨hP, hD⟩ := va_joinQ (wr := [(ta, .inl ((ka 3), 64, .inr (.inr (.inr (.inr tf))))), (te, .inl ((ka 4), m, .inr (.inr (.inr (.inr wf))))), (wv, .inr (2, [.ref wd, .int (nI wl)])), (wd, .inl ((ka 0), K, .inr (.inl wo))), (a2, .inl ((ka 0), 256, .inr (.inl sv))), (a3, .inl ((ka 2), 256, .inl si)), (a4, .inl ((ka 1), 64, .inl zs)), (a5, .inl ((ka 5), 2048, .inl os)), (a6, .inl ((ka 1), 2048, .inl fs)), (a7, .inl ((ka 0), 2048, .inr (.inl ss))), (a8, .inl ((ka 0), 8, .inr (.inl rg))), (a9, .inl ((ka 2), 64, .inl it)), (b1, .inl ((ka 1), 256, .inl tv)), (b2, .inl ((ka 0), 64, .inr (.inl rv))), (v, .inr (4, [.ref pa, .ref ta, .ref te, .ref wv, .int (nI n), .int (nI tk), .int (nI sl), .int (nI hz)])), (pa, .inl ((ka 0), 256, .inr (.inl (vp_updL P p (lw (xs (5 * q + 3)) (xs (5 * q + 4)))))))]) (w1 := [(mo, .inr (5, [.ref a1, .ref a2, .ref a3, .int (nI n), .ref a4, .ref a5, .ref a6, .ref a7, .int (nI wl), .ref a8, .int nxm, .ref a9, .ref b1, .ref b2, .int ldm])), (a1, .inl ((ka 0), 256, .inr (.inl (vp_updL P p (lw (xs (5 * q + 3)) (xs (5 * q + 4)))))))]) hP hD [4, 5] [0, 1, 2, 3, 6, 7, 8, 9, 10, 11, 12, 13, 14, 15, 16, 17] rfl rfl (by decide) (by decide) hk1 hFc hP1 hD1
          generalize H1 = H at hP hS ⊢
          have hP : va_P D classes ([(ta, .inl ((ka 3), 64, .inr (.inr (.inr (.inr tf))))), (te, .inl ((ka 4), m, .inr (.inr (.inr (.inr wf))))), (wv, .inr (2, [.ref wd, .int (nI wl)])), (wd, .inl ((ka 0), K, .inr (.inl wo))), (a2, .inl ((ka 0), 256, .inr (.inl sv))), (a3, .inl ((ka 2), 256, .inl si)), (a4, .inl ((ka 1), 64, .inl zs)), (a5, .inl ((ka 5), 2048, .inl os)), (a6, .inl ((ka 1), 2048, .inl fs)), (a7, .inl ((ka 0), 2048, .inr (.inl ss))), (a8, .inl ((ka 0), 8, .inr (.inl rg))), (a9, .inl ((ka 2), 64, .inl it)), (b1, .inl ((ka 1), 256, .inl tv)), (b2, .inl ((ka 0), 64, .inr (.inl rv))), (v, .inr (4, [.ref pa, .ref ta, .ref te, .ref wv, .int (nI n), .int (nI tk), .int (nI sl), .int (nI hz)])), (pa, .inl ((ka 0), 256, .inr (.inl (vp_updL P p (lw (xs (5 * q + 3)) (xs (5 * q + 4))))))), (mo, .inr (5, [.ref a1, .ref a2, .ref a3, .int (nI n), .ref a4, .ref a5, .ref a6, .ref a7, .int (nI wl), .ref a8, .int nxm, .ref a9, .ref b1, .ref b2, .int ldm])), (a1, .inl ((ka 0), 256, .inr (.inl (vp_updL P p (lw (xs (5 * q + 3)) (xs (5 * q + 4)))))))] ++ tl) H := hP
          have hD : va_D A ([(ta, .inl ((ka 3), 64, .inr (.inr (.inr (.inr tf))))), (te, .inl ((ka 4), m, .inr (.inr (.inr (.inr wf))))), (wv, .inr (2, [.ref wd, .int (nI wl)])), (wd, .inl ((ka 0), K, .inr (.inl wo))), (a2, .inl ((ka 0), 256, .inr (.inl sv))), (a3, .inl ((ka 2), 256, .inl si)), (a4, .inl ((ka 1), 64, .inl zs)), (a5, .inl ((ka 5), 2048, .inl os)), (a6, .inl ((ka 1), 2048, .inl fs)), (a7, .inl ((ka 0), 2048, .inr (.inl ss))), (a8, .inl ((ka 0), 8, .inr (.inl rg))), (a9, .inl ((ka 2), 64, .inl it)), (b1, .inl ((ka 1), 256, .inl tv)), (b2, .inl ((ka 0), 64, .inr (.inl rv))), (v, .inr (4, [.ref pa, .ref ta, .ref te, .ref wv, .int (nI n), .int (nI tk), .int (nI sl), .int (nI hz)])), (pa, .inl ((ka 0), 256, .inr (.inl (vp_updL P p (lw (xs (5 * q + 3)) (xs (5 * q + 4))))))), (mo, .inr (5, [.ref a1, .ref a2, .ref a3, .int (nI n), .ref a4, .ref a5, .ref a6, .ref a7, .int (nI wl), .ref a8, .int nxm, .ref a9, .ref b1, .ref b2, .int ldm])), (a1, .inl ((ka 0), 256, .inr (.inl (vp_updL P p (lw (xs (5 * q + 3)) (xs (5 * q + 4)))))))] ++ tl) := hD
          obtain rfl : r_155 = 1 := hr_155
          refine lv_icmp_eq (tgt := 435) hx hb d_La_law_158 (by decide) (fun c_158 => ?_) (fun c_158 => absurd rfl c_158)
          refine lv_iinc (v := nI (5 * (q + 1) + 1)) (lv' := [(3, .int (nI (5 * (q + 1) + 1))), (1, .ref v), (2, .ref mo), (0, .ref b)]) hx hb d_La_law_435 hl (k := 0) rfl (law_i5 q) (by decide) rfl (fun ls hl => ?_)
          refine lv_goto (tgt := 28) hx hb d_La_law_438 (by decide) ?_
          exact ih (q + 1) wd n nT tk sl hz wl K cN sN (vp_updL P p (lw (xs (5 * q + 3)) (xs (5 * q + 4)))) wo tf wf tl wk pgs td sv ss rg rv si zs os fs it tv nxm ldm (by omega) hT hfr hW hKK hM (by omega) (by omega) (by omega) _ _ (hP.part [14, 15, 0, 1, 2, 3, 16, 17, 4, 5, 6, 7, 8, 9, 10, 11, 12, 13] rfl) (hD.part [14, 15, 0, 1, 2, 3, 16, 17, 4, 5, 6, 7, 8, 9, 10, 11, 12, 13] (by decide) rfl) hS ls (lv_sub hl [0, 1, 2, 3] rfl)
        · refine lv_aload_n hx hb d_La_law_100 rfl (lv_at hl 1 rfl) ?_
          refine lv_aload_n hx hb d_La_law_101 rfl (lv_at hl 3 rfl) ?_
          refine lv_iload_n hx hb d_La_law_102 rfl (lv_at hl 0 rfl) ?_
          refine lv_iconst (v := (nI 1)) hx hb d_La_law_103 (by decide) ?_
          refine lv_iadd hx hb d_La_law_104 ?_
          refine lv_topi (fun v_104 ev_104 => ?_)
          obtain rfl : v_104 = nI (5 * q + 2) := ev_104.trans (nI_add _ _)
          refine my_sld (k := (5 * q + 2)) hx hb hX hbl hbA hS (by omega) (by omega) d_La_law_105 ?_
          refine lv_aload_n hx hb d_La_law_106 rfl (lv_at hl 3 rfl) ?_
          refine lv_iload_n hx hb d_La_law_107 rfl (lv_at hl 0 rfl) ?_
          refine lv_iconst (v := (nI 2)) hx hb d_La_law_108 (by decide) ?_
          refine lv_iadd hx hb d_La_law_109 ?_
          refine lv_topi (fun v_109 ev_109 => ?_)
          obtain rfl : v_109 = nI (5 * q + 3) := ev_109.trans (nI_add _ _)
          refine my_sld (k := (5 * q + 3)) hx hb hX hbl hbA hS (by omega) (by omega) d_La_law_110 ?_
          refine lv_i2l (v := (xs (5 * q + 3)).toInt64) hx hb d_La_law_111 rfl ?_
          refine lv_bipush (v := 32) hx hb d_La_law_112 (by decide) ?_
          refine lv_lshl (v := (xs (5 * q + 3)).toInt64 <<< ((32 : Int32).toInt64 &&& 63)) hx hb d_La_law_114 rfl ?_
          refine lv_aload_n hx hb d_La_law_115 rfl (lv_at hl 3 rfl) ?_
          refine lv_iload_n hx hb d_La_law_116 rfl (lv_at hl 0 rfl) ?_
          refine lv_iconst (v := (nI 3)) hx hb d_La_law_117 (by decide) ?_
          refine lv_iadd hx hb d_La_law_118 ?_
          refine lv_topi (fun v_118 ev_118 => ?_)
          obtain rfl : v_118 = nI (5 * q + 4) := ev_118.trans (nI_add _ _)
          refine my_sld (k := (5 * q + 4)) hx hb hX hbl hbA hS (by omega) (by omega) d_La_law_119 ?_
          refine lv_i2l (v := (xs (5 * q + 4)).toInt64) hx hb d_La_law_120 rfl ?_
          refine lv_ldc2 (own := "VersionedBlockLaw") (index := 21) (v := 4294967295) hx hb hown (hts _ (tb_of mw_3_18)) d_La_law_121 ?_
          refine lv_land hx hb d_La_law_124 ?_
          refine lv_lor hx hb d_La_law_125 ?_
          refine lv_topl (fun v_125 ev_125 => ?_)
          obtain rfl : v_125 = lw (xs (5 * q + 3)) (xs (5 * q + 4)) := ev_125.trans rfl
          have hPc := hP.sub (ws' := [(v, .inr (4, [.ref pa, .ref ta, .ref te, .ref wv, .int (nI n), .int (nI tk), .int (nI sl), .int (nI hz)]))]) [0] rfl
          refine vp_callSi (run_of (va_runV (As := [.int (xs (5 * q + 2)), .long (lw (xs (5 * q + 3)) (xs (5 * q + 4)))]) (rest := []) ⟨hx, hb, hml, hown, hts⟩ (c_Vb_put_no l D ka v pa ta te wv (nI n) (nI tk) (nI sl) (nI hz) (xs (5 * q + 2)) (lw (xs (5 * q + 3)) (xs (5 * q + 4))) hp0) ⟨callB_of 2 hts (gd_lw mw_1_70) rfl rfl rfl (hts _ (tb_of mw_1_1)) (hts _ (tb_of mw_1_67)) (by decide +kernel) ⟨Nat.le_of_ble_eq_true rfl, Nat.le_of_ble_eq_true rfl⟩, (hts _ (tb_of mw_1_68)), (hts _ (tb_of mw_1_69))⟩ ⟨pR_blind, va_recv hK hPc (ci := 4) (q0 := 0) rfl rfl, pR_pre hK hN hPc⟩ rfl rfl hl.1 rfl (lv_room (Nat.le_of_ble_eq_true rfl)) d_La_law_126 ⟨by show cN + 0 ≤ 295586; omega, by show sN + 0 ≤ 8215492; omega⟩)) (fun r_126 hr_126 => ?_)
          obtain rfl : r_126 = 0 := hr_126
          refine lv_aload_n hx hb d_La_law_129 rfl (lv_at hl 2 rfl) ?_
          refine lv_aload_n hx hb d_La_law_130 rfl (lv_at hl 3 rfl) ?_
          refine lv_iload_n hx hb d_La_law_131 rfl (lv_at hl 0 rfl) ?_
          refine lv_iconst (v := (nI 1)) hx hb d_La_law_132 (by decide) ?_
          refine lv_iadd hx hb d_La_law_133 ?_
          refine lv_topi (fun v_133 ev_133 => ?_)
          obtain rfl : v_133 = nI (5 * q + 2) := ev_133.trans (nI_add _ _)
          refine my_sld (k := (5 * q + 2)) hx hb hX hbl hbA hS (by omega) (by omega) d_La_law_134 ?_
          refine lv_aload_n hx hb d_La_law_135 rfl (lv_at hl 3 rfl) ?_
          refine lv_iload_n hx hb d_La_law_136 rfl (lv_at hl 0 rfl) ?_
          refine lv_iconst (v := (nI 2)) hx hb d_La_law_137 (by decide) ?_
          refine lv_iadd hx hb d_La_law_138 ?_
          refine lv_topi (fun v_138 ev_138 => ?_)
          obtain rfl : v_138 = nI (5 * q + 3) := ev_138.trans (nI_add _ _)
          refine my_sld (k := (5 * q + 3)) hx hb hX hbl hbA hS (by omega) (by omega) d_La_law_139 ?_
          refine lv_i2l (v := (xs (5 * q + 3)).toInt64) hx hb d_La_law_140 rfl ?_
          refine lv_bipush (v := 32) hx hb d_La_law_141 (by decide) ?_
          refine lv_lshl (v := (xs (5 * q + 3)).toInt64 <<< ((32 : Int32).toInt64 &&& 63)) hx hb d_La_law_143 rfl ?_
          refine lv_aload_n hx hb d_La_law_144 rfl (lv_at hl 3 rfl) ?_
          refine lv_iload_n hx hb d_La_law_145 rfl (lv_at hl 0 rfl) ?_
          refine lv_iconst (v := (nI 3)) hx hb d_La_law_146 (by decide) ?_
          refine lv_iadd hx hb d_La_law_147 ?_
          refine lv_topi (fun v_147 ev_147 => ?_)
          obtain rfl : v_147 = nI (5 * q + 4) := ev_147.trans (nI_add _ _)
          refine my_sld (k := (5 * q + 4)) hx hb hX hbl hbA hS (by omega) (by omega) d_La_law_148 ?_
          refine lv_i2l (v := (xs (5 * q + 4)).toInt64) hx hb d_La_law_149 rfl ?_
          refine lv_ldc2 (own := "VersionedBlockLaw") (index := 21) (v := 4294967295) hx hb hown (hts _ (tb_of mw_3_18)) d_La_law_150 ?_
          refine lv_land hx hb d_La_law_153 ?_
          refine lv_lor hx hb d_La_law_154 ?_
          refine lv_topl (fun v_154 ev_154 => ?_)
          obtain rfl : v_154 = lw (xs (5 * q + 3)) (xs (5 * q + 4)) := ev_154.trans rfl
          have hPc := hP.sub (ws' := [(mo, .inr (5, [.ref a1, .ref a2, .ref a3, .int (nI n), .ref a4, .ref a5, .ref a6, .ref a7, .int (nI wl), .ref a8, .int nxm, .ref a9, .ref b1, .ref b2, .int ldm]))]) [6] rfl
          refine vp_callSi (run_of (va_runV (As := [.int (xs (5 * q + 2)), .long (lw (xs (5 * q + 3)) (xs (5 * q + 4)))]) (rest := [.int 0]) ⟨hx, hb, hml, hown, hts⟩ (c_Mo_put_no l D ka mo a1 a2 a3 a4 a5 a6 a7 a8 a9 b1 b2 (nI n) (nI wl) nxm ldm (xs (5 * q + 2)) (lw (xs (5 * q + 3)) (xs (5 * q + 4))) hp0) ⟨callB_of 2 hts (gd_lw mw_2_195) rfl rfl rfl (hts _ (tb_of mw_1_4)) (hts _ (tb_of mw_2_192)) (by decide +kernel) ⟨Nat.le_of_ble_eq_true rfl, Nat.le_of_ble_eq_true rfl⟩, (hts _ (tb_of mw_2_193)), (hts _ (tb_of mw_2_194))⟩ ⟨pR_blind, va_recv hK hPc (ci := 5) (q0 := 0) rfl rfl, pR_pre hK hN hPc⟩ rfl rfl hl.1 rfl (lv_room (Nat.le_of_ble_eq_true rfl)) d_La_law_155 ⟨by show cN + 0 ≤ 295586; omega, by show sN + 0 ≤ 8215492; omega⟩)) (fun r_155 hr_155 => ?_)
          obtain rfl : r_155 = 0 := hr_155
          refine lv_icmp_eq (tgt := 435) hx hb d_La_law_158 (by decide) (fun c_158 => ?_) (fun c_158 => absurd rfl c_158)
          refine lv_iinc (v := nI (5 * (q + 1) + 1)) (lv' := [(3, .int (nI (5 * (q + 1) + 1))), (1, .ref v), (2, .ref mo), (0, .ref b)]) hx hb d_La_law_435 hl (k := 0) rfl (law_i5 q) (by decide) rfl (fun ls hl => ?_)
          refine lv_goto (tgt := 28) hx hb d_La_law_438 (by decide) ?_
          exact ih (q + 1) wd n nT tk sl hz wl K cN sN P wo tf wf tl wk pgs td sv ss rg rv si zs os fs it tv nxm ldm (by omega) hT hfr hW hKK hM (by omega) (by omega) (by omega) _ _ hP hD hS ls (lv_sub hl [0, 1, 2, 3] rfl)
      · skip
        refine lv_tableIn (off := 121) (tgt := 163) hx hb d_La_law_42 (by decide) (by decide) (by decide) (by decide) ?_
        by_cases hp0 : 0 ≤ (xs (5 * q + 2)).toInt ∧ (xs (5 * q + 2)).toInt < 256
        · obtain ⟨p, hp, hpe⟩ := pl_in hp0
          refine lv_aload_n hx hb d_La_law_163 rfl (lv_at hl 1 rfl) ?_
          refine lv_aload_n hx hb d_La_law_164 rfl (lv_at hl 3 rfl) ?_
          refine lv_iload_n hx hb d_La_law_165 rfl (lv_at hl 0 rfl) ?_
          refine lv_iconst (v := (nI 1)) hx hb d_La_law_166 (by decide) ?_
          refine lv_iadd hx hb d_La_law_167 ?_
          refine lv_topi (fun v_167 ev_167 => ?_)
          obtain rfl : v_167 = nI (5 * q + 2) := ev_167.trans (nI_add _ _)
          refine my_sld (k := (5 * q + 2)) hx hb hX hbl hbA hS (by omega) (by omega) d_La_law_168 ?_
          refine lv_topi (fun v_168 ev_168 => ?_)
          obtain rfl : v_168 = nI p := ev_168.trans hpe
          have hPc := hP.sub (ws' := [(v, .inr (4, [.ref pa, .ref ta, .ref te, .ref wv, .int (nI n), .int (nI tk), .int (nI sl), .int (nI hz)])), (pa, .inl ((ka 0), 256, .inr (.inl P)))]) [0, 1] rfl
          refine vp_callSl (run_of (va_runV (As := [.int (nI p)]) (rest := []) ⟨hx, hb, hml, hown, hts⟩ (c_Vb_get l D ka v pa ta te wv (nI n) (nI tk) (nI sl) (nI hz) p P hp) ⟨callB_of 1 hts (gd_lw mw_1_77) rfl rfl rfl (hts _ (tb_of mw_1_1)) (hts _ (tb_of mw_1_74)) (by decide +kernel) ⟨Nat.le_of_ble_eq_true rfl, Nat.le_of_ble_eq_true rfl⟩, (hts _ (tb_of mw_1_75)), (hts _ (tb_of mw_1_76))⟩ ⟨pR_blind, va_recv hK hPc (ci := 4) (q0 := 0) rfl rfl, pR_pre hK hN hPc⟩ rfl rfl hl.1 rfl (lv_room (Nat.le_of_ble_eq_true rfl)) d_La_law_169 ⟨by show cN + 0 ≤ 295586; omega, by show sN + 0 ≤ 8215492; omega⟩)) (fun r_169 hr_169 => ?_)
          obtain rfl : r_169 = (P p) := hr_169
          refine lv_aload_n hx hb d_La_law_172 rfl (lv_at hl 2 rfl) ?_
          refine lv_aload_n hx hb d_La_law_173 rfl (lv_at hl 3 rfl) ?_
          refine lv_iload_n hx hb d_La_law_174 rfl (lv_at hl 0 rfl) ?_
          refine lv_iconst (v := (nI 1)) hx hb d_La_law_175 (by decide) ?_
          refine lv_iadd hx hb d_La_law_176 ?_
          refine lv_topi (fun v_176 ev_176 => ?_)
          obtain rfl : v_176 = nI (5 * q + 2) := ev_176.trans (nI_add _ _)
          refine my_sld (k := (5 * q + 2)) hx hb hX hbl hbA hS (by omega) (by omega) d_La_law_177 ?_
          refine lv_topi (fun v_177 ev_177 => ?_)
          obtain rfl : v_177 = nI p := ev_177.trans hpe
          have hPc := hP.sub (ws' := [(mo, .inr (5, [.ref a1, .ref a2, .ref a3, .int (nI n), .ref a4, .ref a5, .ref a6, .ref a7, .int (nI wl), .ref a8, .int nxm, .ref a9, .ref b1, .ref b2, .int ldm])), (a1, .inl ((ka 0), 256, .inr (.inl P)))]) [6, 7] rfl
          refine vp_callSl (run_of (va_runV (As := [.int (nI p)]) (rest := [.long (P p)]) ⟨hx, hb, hml, hown, hts⟩ (c_Mo_get l D ka mo a1 a2 a3 a4 a5 a6 a7 a8 a9 b1 b2 (nI n) (nI wl) nxm ldm p P hp) ⟨callB_of 1 hts (gd_lw mw_2_202) rfl rfl rfl (hts _ (tb_of mw_1_4)) (hts _ (tb_of mw_2_199)) (by decide +kernel) ⟨Nat.le_of_ble_eq_true rfl, Nat.le_of_ble_eq_true rfl⟩, (hts _ (tb_of mw_2_200)), (hts _ (tb_of mw_2_201))⟩ ⟨pR_blind, va_recv hK hPc (ci := 5) (q0 := 0) rfl rfl, pR_pre hK hN hPc⟩ rfl rfl hl.1 rfl (lv_room (Nat.le_of_ble_eq_true rfl)) d_La_law_178 ⟨by show cN + 0 ≤ 295586; omega, by show sN + 0 ≤ 8215492; omega⟩)) (fun r_178 hr_178 => ?_)
          obtain rfl : r_178 = (P p) := hr_178
          refine W.lcmp hx hb d_La_law_181 ?_
          refine lv_if_eq (tgt := 435) hx hb d_La_law_182 (by decide) (fun c_182 => ?_) (fun c_182 => absurd ((lg_cmp_eq _ _).mpr rfl) c_182)
          refine lv_iinc (v := nI (5 * (q + 1) + 1)) (lv' := [(3, .int (nI (5 * (q + 1) + 1))), (1, .ref v), (2, .ref mo), (0, .ref b)]) hx hb d_La_law_435 hl (k := 0) rfl (law_i5 q) (by decide) rfl (fun ls hl => ?_)
          refine lv_goto (tgt := 28) hx hb d_La_law_438 (by decide) ?_
          exact ih (q + 1) wd n nT tk sl hz wl K cN sN P wo tf wf tl wk pgs td sv ss rg rv si zs os fs it tv nxm ldm (by omega) hT hfr hW hKK hM (by omega) (by omega) (by omega) _ _ hP hD hS ls (lv_sub hl [0, 1, 2, 3] rfl)
        · refine lv_aload_n hx hb d_La_law_163 rfl (lv_at hl 1 rfl) ?_
          refine lv_aload_n hx hb d_La_law_164 rfl (lv_at hl 3 rfl) ?_
          refine lv_iload_n hx hb d_La_law_165 rfl (lv_at hl 0 rfl) ?_
          refine lv_iconst (v := (nI 1)) hx hb d_La_law_166 (by decide) ?_
          refine lv_iadd hx hb d_La_law_167 ?_
          refine lv_topi (fun v_167 ev_167 => ?_)
          obtain rfl : v_167 = nI (5 * q + 2) := ev_167.trans (nI_add _ _)
          refine my_sld (k := (5 * q + 2)) hx hb hX hbl hbA hS (by omega) (by omega) d_La_law_168 ?_
          have hPc := hP.sub (ws' := [(v, .inr (4, [.ref pa, .ref ta, .ref te, .ref wv, .int (nI n), .int (nI tk), .int (nI sl), .int (nI hz)]))]) [0] rfl
          refine vp_callSl (run_of (va_runV (As := [.int (xs (5 * q + 2))]) (rest := []) ⟨hx, hb, hml, hown, hts⟩ (c_Vb_get_no l D ka v pa ta te wv (nI n) (nI tk) (nI sl) (nI hz) (xs (5 * q + 2)) hp0) ⟨callB_of 1 hts (gd_lw mw_1_77) rfl rfl rfl (hts _ (tb_of mw_1_1)) (hts _ (tb_of mw_1_74)) (by decide +kernel) ⟨Nat.le_of_ble_eq_true rfl, Nat.le_of_ble_eq_true rfl⟩, (hts _ (tb_of mw_1_75)), (hts _ (tb_of mw_1_76))⟩ ⟨pR_blind, va_recv hK hPc (ci := 4) (q0 := 0) rfl rfl, pR_pre hK hN hPc⟩ rfl rfl hl.1 rfl (lv_room (Nat.le_of_ble_eq_true rfl)) d_La_law_169 ⟨by show cN + 0 ≤ 295586; omega, by show sN + 0 ≤ 8215492; omega⟩)) (fun r_169 hr_169 => ?_)
          obtain rfl : r_169 = 0 := hr_169
          refine lv_aload_n hx hb d_La_law_172 rfl (lv_at hl 2 rfl) ?_
          refine lv_aload_n hx hb d_La_law_173 rfl (lv_at hl 3 rfl) ?_
          refine lv_iload_n hx hb d_La_law_174 rfl (lv_at hl 0 rfl) ?_
          refine lv_iconst (v := (nI 1)) hx hb d_La_law_175 (by decide) ?_
          refine lv_iadd hx hb d_La_law_176 ?_
          refine lv_topi (fun v_176 ev_176 => ?_)
          obtain rfl : v_176 = nI (5 * q + 2) := ev_176.trans (nI_add _ _)
          refine my_sld (k := (5 * q + 2)) hx hb hX hbl hbA hS (by omega) (by omega) d_La_law_177 ?_
          have hPc := hP.sub (ws' := [(mo, .inr (5, [.ref a1, .ref a2, .ref a3, .int (nI n), .ref a4, .ref a5, .ref a6, .ref a7, .int (nI wl), .ref a8, .int nxm, .ref a9, .ref b1, .ref b2, .int ldm]))]) [6] rfl
          refine vp_callSl (run_of (va_runV (As := [.int (xs (5 * q + 2))]) (rest := [.long 0]) ⟨hx, hb, hml, hown, hts⟩ (c_Mo_get_no l D ka mo a1 a2 a3 a4 a5 a6 a7 a8 a9 b1 b2 (nI n) (nI wl) nxm ldm (xs (5 * q + 2)) hp0) ⟨callB_of 1 hts (gd_lw mw_2_202) rfl rfl rfl (hts _ (tb_of mw_1_4)) (hts _ (tb_of mw_2_199)) (by decide +kernel) ⟨Nat.le_of_ble_eq_true rfl, Nat.le_of_ble_eq_true rfl⟩, (hts _ (tb_of mw_2_200)), (hts _ (tb_of mw_2_201))⟩ ⟨pR_blind, va_recv hK hPc (ci := 5) (q0 := 0) rfl rfl, pR_pre hK hN hPc⟩ rfl rfl hl.1 rfl (lv_room (Nat.le_of_ble_eq_true rfl)) d_La_law_178 ⟨by show cN + 0 ≤ 295586; omega, by show sN + 0 ≤ 8215492; omega⟩)) (fun r_178 hr_178 => ?_)
          obtain rfl : r_178 = 0 := hr_178
          refine W.lcmp hx hb d_La_law_181 ?_
          refine lv_if_eq (tgt := 435) hx hb d_La_law_182 (by decide) (fun c_182 => ?_) (fun c_182 => absurd ((lg_cmp_eq _ _).mpr rfl) c_182)
          refine lv_iinc (v := nI (5 * (q + 1) + 1)) (lv' := [(3, .int (nI (5 * (q + 1) + 1))), (1, .ref v), (2, .ref mo), (0, .ref b)]) hx hb d_La_law_435 hl (k := 0) rfl (law_i5 q) (by decide) rfl (fun ls hl => ?_)
          refine lv_goto (tgt := 28) hx hb d_La_law_438 (by decide) ?_
          exact ih (q + 1) wd n nT tk sl hz wl K cN sN P wo tf wf tl wk pgs td sv ss rg rv si zs os fs it tv nxm ldm (by omega) hT hfr hW hKK hM (by omega) (by omega) (by omega) _ _ hP hD hS ls (lv_sub hl [0, 1, 2, 3] rfl)
      · skip
        refine lv_tableIn (off := 145) (tgt := 187) hx hb d_La_law_42 (by decide) (by decide) (by decide) (by decide) ?_
        refine lv_aload_n hx hb d_La_law_187 rfl (lv_at hl 1 rfl) ?_
        have hPc := hP.sub (ws' := [(v, .inr (4, [.ref pa, .ref ta, .ref te, .ref wv, .int (nI n), .int (nI tk), .int (nI sl), .int (nI hz)]))]) [0] rfl
        have hDc := hD.sub (ws' := [(v, .inr (4, [.ref pa, .ref ta, .ref te, .ref wv, .int (nI n), .int (nI tk), .int (nI sl), .int (nI hz)]))]) [0] (by decide) rfl
        have hFc := va_free (wc := [(v, .inr (4, [.ref pa, .ref ta, .ref te, .ref wv, .int (nI n), .int (nI tk), .int (nI sl), .int (nI hz)]))]) hD hS hA [0] rfl
        refine va_calli (va_runV (As := []) (rest := []) ⟨hx, hb, hml, hown, hts⟩ (c_Vb_begin l D ka H.size v pa ta te wv (nI n) (nI tk) (nI sl) (nI hz) ) ⟨callB_of 0 hts (gd_lw mw_1_81) rfl rfl rfl (hts _ (tb_of mw_1_1)) (hts _ (tb_of mw_1_78)) (by decide +kernel) ⟨Nat.le_of_ble_eq_true rfl, Nat.le_of_ble_eq_true rfl⟩, (hts _ (tb_of mw_1_79)), (hts _ (tb_of mw_1_80))⟩ ⟨pW_blind, va_recv hK hPc (ci := 4) (q0 := 0) rfl rfl, pW_pre hK hN hPc hDc⟩ rfl rfl hl.1 rfl (lv_room (Nat.le_of_ble_eq_true rfl)) d_La_law_188 ⟨by show cN + 0 ≤ 295586; omega, by show sN + 0 ≤ 8215492; omega⟩) hS (fun q _ h => hFc q h) hFc (fun r_188 u9 t9 H1 locs ht hvm hr_188 hB hz1 hk1 hS => ?_)
        obtain ⟨hrel_188, hP1, hD1⟩ := hB
        rw [ht] at hP1
        obtain ⟨hP, hD⟩ := va_joinQ (wr := [(pa, .inl ((ka 0), 256, .inr (.inl P))), (ta, .inl ((ka 3), 64, .inr (.inr (.inr (.inr tf))))), (te, .inl ((ka 4), m, .inr (.inr (.inr (.inr wf))))), (wv, .inr (2, [.ref wd, .int (nI wl)])), (wd, .inl ((ka 0), K, .inr (.inl wo))), (mo, .inr (5, [.ref a1, .ref a2, .ref a3, .int (nI n), .ref a4, .ref a5, .ref a6, .ref a7, .int (nI wl), .ref a8, .int nxm, .ref a9, .ref b1, .ref b2, .int ldm])), (a1, .inl ((ka 0), 256, .inr (.inl P))), (a2, .inl ((ka 0), 256, .inr (.inl sv))), (a3, .inl ((ka 2), 256, .inl si)), (a4, .inl ((ka 1), 64, .inl zs)), (a5, .inl ((ka 5), 2048, .inl os)), (a6, .inl ((ka 1), 2048, .inl fs)), (a7, .inl ((ka 0), 2048, .inr (.inl ss))), (a8, .inl ((ka 0), 8, .inr (.inl rg))), (a9, .inl ((ka 2), 64, .inl it)), (b1, .inl ((ka 1), 256, .inl tv)), (b2, .inl ((ka 0), 64, .inr (.inl rv)))]) (w1 := [(v, .inr (4, [.ref pa, .ref ta, .ref te, .ref wv, .int (nI 0), .int (nI tk), .int (nI sl), .int (nI hz)]))]) hP hD [0] [1, 2, 3, 4, 5, 6, 7, 8, 9, 10, 11, 12, 13, 14, 15, 16, 17] rfl rfl (by decide) (by decide) hk1 hFc hP1 hD1
        generalize H1 = H at hP hS ⊢
        have hP : va_P D classes ([(pa, .inl ((ka 0), 256, .inr (.inl P))), (ta, .inl ((ka 3), 64, .inr (.inr (.inr (.inr tf))))), (te, .inl ((ka 4), m, .inr (.inr (.inr (.inr wf))))), (wv, .inr (2, [.ref wd, .int (nI wl)])), (wd, .inl ((ka 0), K, .inr (.inl wo))), (mo, .inr (5, [.ref a1, .ref a2, .ref a3, .int (nI n), .ref a4, .ref a5, .ref a6, .ref a7, .int (nI wl), .ref a8, .int nxm, .ref a9, .ref b1, .ref b2, .int ldm])), (a1, .inl ((ka 0), 256, .inr (.inl P))), (a2, .inl ((ka 0), 256, .inr (.inl sv))), (a3, .inl ((ka 2), 256, .inl si)), (a4, .inl ((ka 1), 64, .inl zs)), (a5, .inl ((ka 5), 2048, .inl os)), (a6, .inl ((ka 1), 2048, .inl fs)), (a7, .inl ((ka 0), 2048, .inr (.inl ss))), (a8, .inl ((ka 0), 8, .inr (.inl rg))), (a9, .inl ((ka 2), 64, .inl it)), (b1, .inl ((ka 1), 256, .inl tv)), (b2, .inl ((ka 0), 64, .inr (.inl rv))), (v, .inr (4, [.ref pa, .ref ta, .ref te, .ref wv, .int (nI 0), .int (nI tk), .int (nI sl), .int (nI hz)]))] ++ tl) H := hP
        have hD : va_D A ([(pa, .inl ((ka 0), 256, .inr (.inl P))), (ta, .inl ((ka 3), 64, .inr (.inr (.inr (.inr tf))))), (te, .inl ((ka 4), m, .inr (.inr (.inr (.inr wf))))), (wv, .inr (2, [.ref wd, .int (nI wl)])), (wd, .inl ((ka 0), K, .inr (.inl wo))), (mo, .inr (5, [.ref a1, .ref a2, .ref a3, .int (nI n), .ref a4, .ref a5, .ref a6, .ref a7, .int (nI wl), .ref a8, .int nxm, .ref a9, .ref b1, .ref b2, .int ldm])), (a1, .inl ((ka 0), 256, .inr (.inl P))), (a2, .inl ((ka 0), 256, .inr (.inl sv))), (a3, .inl ((ka 2), 256, .inl si)), (a4, .inl ((ka 1), 64, .inl zs)), (a5, .inl ((ka 5), 2048, .inl os)), (a6, .inl ((ka 1), 2048, .inl fs)), (a7, .inl ((ka 0), 2048, .inr (.inl ss))), (a8, .inl ((ka 0), 8, .inr (.inl rg))), (a9, .inl ((ka 2), 64, .inl it)), (b1, .inl ((ka 1), 256, .inl tv)), (b2, .inl ((ka 0), 64, .inr (.inl rv))), (v, .inr (4, [.ref pa, .ref ta, .ref te, .ref wv, .int (nI 0), .int (nI tk), .int (nI sl), .int (nI hz)]))] ++ tl) := hD
        obtain rfl : r_188 = (nI n) := hr_188
        refine lv_aload_n hx hb d_La_law_191 rfl (lv_at hl 2 rfl) ?_
        have hPc := hP.sub (ws' := [(mo, .inr (5, [.ref a1, .ref a2, .ref a3, .int (nI n), .ref a4, .ref a5, .ref a6, .ref a7, .int (nI wl), .ref a8, .int nxm, .ref a9, .ref b1, .ref b2, .int ldm]))]) [5] rfl
        have hDc := hD.sub (ws' := [(mo, .inr (5, [.ref a1, .ref a2, .ref a3, .int (nI n), .ref a4, .ref a5, .ref a6, .ref a7, .int (nI wl), .ref a8, .int nxm, .ref a9, .ref b1, .ref b2, .int ldm]))]) [5] (by decide) rfl
        have hFc := va_free (wc := [(mo, .inr (5, [.ref a1, .ref a2, .ref a3, .int (nI n), .ref a4, .ref a5, .ref a6, .ref a7, .int (nI wl), .ref a8, .int nxm, .ref a9, .ref b1, .ref b2, .int ldm]))]) hD hS hA [5] rfl
        refine va_calli (va_runV (As := []) (rest := [.int (nI n)]) ⟨hx, hb, hml, hown, hts⟩ (c_Mo_begin l D ka H.size mo a1 a2 a3 a4 a5 a6 a7 a8 a9 b1 b2 (nI n) (nI wl) nxm ldm ) ⟨callB_of 0 hts (gd_lw mw_2_206) rfl rfl rfl (hts _ (tb_of mw_1_4)) (hts _ (tb_of mw_2_203)) (by decide +kernel) ⟨Nat.le_of_ble_eq_true rfl, Nat.le_of_ble_eq_true rfl⟩, (hts _ (tb_of mw_2_204)), (hts _ (tb_of mw_2_205))⟩ ⟨pW_blind, va_recv hK hPc (ci := 5) (q0 := 0) rfl rfl, pW_pre hK hN hPc hDc⟩ rfl rfl hl.1 rfl (lv_room (Nat.le_of_ble_eq_true rfl)) d_La_law_192 ⟨by show cN + 0 ≤ 295586; omega, by show sN + 0 ≤ 8215492; omega⟩) hS (fun q _ h => hFc q h) hFc (fun r_192 u9 t9 H1 locs ht hvm hr_192 hB hz1 hk1 hS => ?_)
        obtain ⟨hrel_192, hP1, hD1⟩ := hB
        rw [ht] at hP1
        obtain ⟨hP, hD⟩ := va_joinQ (wr := [(pa, .inl ((ka 0), 256, .inr (.inl P))), (ta, .inl ((ka 3), 64, .inr (.inr (.inr (.inr tf))))), (te, .inl ((ka 4), m, .inr (.inr (.inr (.inr wf))))), (wv, .inr (2, [.ref wd, .int (nI wl)])), (wd, .inl ((ka 0), K, .inr (.inl wo))), (a1, .inl ((ka 0), 256, .inr (.inl P))), (a2, .inl ((ka 0), 256, .inr (.inl sv))), (a3, .inl ((ka 2), 256, .inl si)), (a4, .inl ((ka 1), 64, .inl zs)), (a5, .inl ((ka 5), 2048, .inl os)), (a6, .inl ((ka 1), 2048, .inl fs)), (a7, .inl ((ka 0), 2048, .inr (.inl ss))), (a8, .inl ((ka 0), 8, .inr (.inl rg))), (a9, .inl ((ka 2), 64, .inl it)), (b1, .inl ((ka 1), 256, .inl tv)), (b2, .inl ((ka 0), 64, .inr (.inl rv))), (v, .inr (4, [.ref pa, .ref ta, .ref te, .ref wv, .int (nI 0), .int (nI tk), .int (nI sl), .int (nI hz)]))]) (w1 := [(mo, .inr (5, [.ref a1, .ref a2, .ref a3, .int (nI 0), .ref a4, .ref a5, .ref a6, .ref a7, .int (nI wl), .ref a8, .int nxm, .ref a9, .ref b1, .ref b2, .int ldm]))]) hP hD [5] [0, 1, 2, 3, 4, 6, 7, 8, 9, 10, 11, 12, 13, 14, 15, 16, 17] rfl rfl (by decide) (by decide) hk1 hFc hP1 hD1
        generalize H1 = H at hP hS ⊢
        have hP : va_P D classes ([(pa, .inl ((ka 0), 256, .inr (.inl P))), (ta, .inl ((ka 3), 64, .inr (.inr (.inr (.inr tf))))), (te, .inl ((ka 4), m, .inr (.inr (.inr (.inr wf))))), (wv, .inr (2, [.ref wd, .int (nI wl)])), (wd, .inl ((ka 0), K, .inr (.inl wo))), (a1, .inl ((ka 0), 256, .inr (.inl P))), (a2, .inl ((ka 0), 256, .inr (.inl sv))), (a3, .inl ((ka 2), 256, .inl si)), (a4, .inl ((ka 1), 64, .inl zs)), (a5, .inl ((ka 5), 2048, .inl os)), (a6, .inl ((ka 1), 2048, .inl fs)), (a7, .inl ((ka 0), 2048, .inr (.inl ss))), (a8, .inl ((ka 0), 8, .inr (.inl rg))), (a9, .inl ((ka 2), 64, .inl it)), (b1, .inl ((ka 1), 256, .inl tv)), (b2, .inl ((ka 0), 64, .inr (.inl rv))), (v, .inr (4, [.ref pa, .ref ta, .ref te, .ref wv, .int (nI 0), .int (nI tk), .int (nI sl), .int (nI hz)])), (mo, .inr (5, [.ref a1, .ref a2, .ref a3, .int (nI 0), .ref a4, .ref a5, .ref a6, .ref a7, .int (nI wl), .ref a8, .int nxm, .ref a9, .ref b1, .ref b2, .int ldm]))] ++ tl) H := hP
        have hD : va_D A ([(pa, .inl ((ka 0), 256, .inr (.inl P))), (ta, .inl ((ka 3), 64, .inr (.inr (.inr (.inr tf))))), (te, .inl ((ka 4), m, .inr (.inr (.inr (.inr wf))))), (wv, .inr (2, [.ref wd, .int (nI wl)])), (wd, .inl ((ka 0), K, .inr (.inl wo))), (a1, .inl ((ka 0), 256, .inr (.inl P))), (a2, .inl ((ka 0), 256, .inr (.inl sv))), (a3, .inl ((ka 2), 256, .inl si)), (a4, .inl ((ka 1), 64, .inl zs)), (a5, .inl ((ka 5), 2048, .inl os)), (a6, .inl ((ka 1), 2048, .inl fs)), (a7, .inl ((ka 0), 2048, .inr (.inl ss))), (a8, .inl ((ka 0), 8, .inr (.inl rg))), (a9, .inl ((ka 2), 64, .inl it)), (b1, .inl ((ka 1), 256, .inl tv)), (b2, .inl ((ka 0), 64, .inr (.inl rv))), (v, .inr (4, [.ref pa, .ref ta, .ref te, .ref wv, .int (nI 0), .int (nI tk), .int (nI sl), .int (nI hz)])), (mo, .inr (5, [.ref a1, .ref a2, .ref a3, .int (nI 0), .ref a4, .ref a5, .ref a6, .ref a7, .int (nI wl), .ref a8, .int nxm, .ref a9, .ref b1, .ref b2, .int ldm]))] ++ tl) := hD
        obtain rfl : r_192 = (nI n) := hr_192
        refine lv_icmp_eq (tgt := 435) hx hb d_La_law_195 (by decide) (fun c_195 => ?_) (fun c_195 => absurd rfl c_195)
        refine lv_iinc (v := nI (5 * (q + 1) + 1)) (lv' := [(3, .int (nI (5 * (q + 1) + 1))), (1, .ref v), (2, .ref mo), (0, .ref b)]) hx hb d_La_law_435 hl (k := 0) rfl (law_i5 q) (by decide) rfl (fun ls hl => ?_)
        refine lv_goto (tgt := 28) hx hb d_La_law_438 (by decide) ?_
        exact ih (q + 1) wd 0 nT tk sl hz wl K cN sN P wo tf wf tl wk pgs td sv ss rg rv si zs os fs it tv nxm ldm (by omega) (vbT_n hT (Nat.zero_le _)) hfr hW hKK (fun t ht => absurd ht (Nat.not_lt_zero _)) (by omega) (by omega) (by omega) _ _ (hP.part [16, 0, 1, 2, 3, 4, 17, 5, 6, 7, 8, 9, 10, 11, 12, 13, 14, 15] rfl) (hD.part [16, 0, 1, 2, 3, 4, 17, 5, 6, 7, 8, 9, 10, 11, 12, 13, 14, 15] (by decide) rfl) hS ls (lv_sub hl [0, 1, 2, 3] rfl)
      · skip
        refine lv_tableIn (off := 158) (tgt := 200) hx hb d_La_law_42 (by decide) (by decide) (by decide) (by decide) ?_
        rcases (show n = 64 ∨ (n < nT ∧ n < 64) ∨ (n = nT ∧ n < 64) by omega) with hfull | hold | hnew
        · subst hfull
          refine lv_aload_n hx hb d_La_law_200 rfl (lv_at hl 1 rfl) ?_
          have hPc := hP.sub (ws' := [(v, .inr (4, [.ref pa, .ref ta, .ref te, .ref wv, .int (nI 64), .int (nI tk), .int (nI sl), .int (nI hz)]))]) [0] rfl
          refine vp_callSi (run_of (va_runV (As := []) (rest := []) ⟨hx, hb, hml, hown, hts⟩ (c_Vb_tr_full l D ka v pa ta te wv (nI tk) (nI sl) (nI hz) ) ⟨callB_of 0 hts (gd_lw mw_1_85) rfl rfl rfl (hts _ (tb_of mw_1_1)) (hts _ (tb_of mw_1_82)) (by decide +kernel) ⟨Nat.le_of_ble_eq_true rfl, Nat.le_of_ble_eq_true rfl⟩, (hts _ (tb_of mw_1_83)), (hts _ (tb_of mw_1_84))⟩ ⟨pR_blind, va_recv hK hPc (ci := 4) (q0 := 0) rfl rfl, pR_pre hK hN hPc⟩ rfl rfl hl.1 rfl (lv_room (Nat.le_of_ble_eq_true rfl)) d_La_law_201 ⟨by show cN + 0 ≤ 295586; omega, by show sN + 0 ≤ 8215492; omega⟩)) (fun r_201 hr_201 => ?_)
          obtain rfl : r_201 = (-3) := hr_201
          refine lv_aload_n hx hb d_La_law_204 rfl (lv_at hl 2 rfl) ?_
          have hPc := hP.sub (ws' := [(mo, .inr (5, [.ref a1, .ref a2, .ref a3, .int (nI 64), .ref a4, .ref a5, .ref a6, .ref a7, .int (nI wl), .ref a8, .int nxm, .ref a9, .ref b1, .ref b2, .int ldm]))]) [6] rfl
          refine vp_callSi (run_of (va_runV (As := []) (rest := [.int (-3)]) ⟨hx, hb, hml, hown, hts⟩ (c_Mo_tr_full l D ka mo a1 a2 a3 a4 a5 a6 a7 a8 a9 b1 b2 (nI wl) nxm ldm ) ⟨callB_of 0 hts (gd_lw mw_2_210) rfl rfl rfl (hts _ (tb_of mw_1_4)) (hts _ (tb_of mw_2_207)) (by decide +kernel) ⟨Nat.le_of_ble_eq_true rfl, Nat.le_of_ble_eq_true rfl⟩, (hts _ (tb_of mw_2_208)), (hts _ (tb_of mw_2_209))⟩ ⟨pR_blind, va_recv hK hPc (ci := 5) (q0 := 0) rfl rfl, pR_pre hK hN hPc⟩ rfl rfl hl.1 rfl (lv_room (Nat.le_of_ble_eq_true rfl)) d_La_law_205 ⟨by show cN + 0 ≤ 295586; omega, by show sN + 0 ≤ 8215492; omega⟩)) (fun r_205 hr_205 => ?_)
          obtain rfl : r_205 = (-3) := hr_205
          refine lv_icmp_eq (tgt := 435) hx hb d_La_law_208 (by decide) (fun c_208 => ?_) (fun c_208 => absurd rfl c_208)
          refine lv_iinc (v := nI (5 * (q + 1) + 1)) (lv' := [(3, .int (nI (5 * (q + 1) + 1))), (1, .ref v), (2, .ref mo), (0, .ref b)]) hx hb d_La_law_435 hl (k := 0) rfl (law_i5 q) (by decide) rfl (fun ls hl => ?_)
          refine lv_goto (tgt := 28) hx hb d_La_law_438 (by decide) ?_
          exact ih (q + 1) wd 64 nT tk sl hz wl K cN sN P wo tf wf tl wk pgs td sv ss rg rv si zs os fs it tv nxm ldm (by omega) hT hfr hW hKK hM (by omega) (by omega) (by omega) _ _ hP hD hS ls (lv_sub hl [0, 1, 2, 3] rfl)
        · refine lv_aload_n hx hb d_La_law_200 rfl (lv_at hl 1 rfl) ?_
          have hPc := hP.part (cx := [(v, .inr (4, [.ref pa, .ref ta, .ref te, .ref wv, .int (nI n), .int (nI tk), .int (nI sl), .int (nI hz)])), (pa, .inl ((ka 0), 256, .inr (.inl P))), (ta, .inl ((ka 3), 64, .inr (.inr (.inr (.inr tf))))), (te, .inl ((ka 4), m, .inr (.inr (.inr (.inr wf))))), (wv, .inr (2, [.ref wd, .int (nI wl)])), (wd, .inl ((ka 0), K, .inr (.inl wo)))]) [0, 1, 2, 3, 4, 5] rfl
          have hDc := hD.part (cx := [(v, .inr (4, [.ref pa, .ref ta, .ref te, .ref wv, .int (nI n), .int (nI tk), .int (nI sl), .int (nI hz)])), (pa, .inl ((ka 0), 256, .inr (.inl P))), (ta, .inl ((ka 3), 64, .inr (.inr (.inr (.inr tf))))), (te, .inl ((ka 4), m, .inr (.inr (.inr (.inr wf))))), (wv, .inr (2, [.ref wd, .int (nI wl)])), (wd, .inl ((ka 0), K, .inr (.inl wo)))]) [0, 1, 2, 3, 4, 5] (by decide) rfl
          have hFc := va_freeP (cx := [(v, .inr (4, [.ref pa, .ref ta, .ref te, .ref wv, .int (nI n), .int (nI tk), .int (nI sl), .int (nI hz)])), (pa, .inl ((ka 0), 256, .inr (.inl P))), (ta, .inl ((ka 3), 64, .inr (.inr (.inr (.inr tf))))), (te, .inl ((ka 4), m, .inr (.inr (.inr (.inr wf))))), (wv, .inr (2, [.ref wd, .int (nI wl)])), (wd, .inl ((ka 0), K, .inr (.inl wo)))]) hD hS hA [0, 1, 2, 3, 4, 5] rfl
          refine va_calli (va_runV (As := []) (rest := []) ⟨hx, hb, hml, hown, hts⟩ (c_A_trold l D ka H.size v pa ta te wv wd n nT m tk sl hz wl K P wo tf wf tl pgs td wk hT hfr hold.1) ⟨callB_of 0 hts (gd_lw mw_1_85) rfl rfl rfl (hts _ (tb_of mw_1_1)) (hts _ (tb_of mw_1_82)) (by decide +kernel) ⟨Nat.le_of_ble_eq_true rfl, Nat.le_of_ble_eq_true rfl⟩, (hts _ (tb_of mw_1_83)), (hts _ (tb_of mw_1_84))⟩ ⟨pW_blind, va_recv hK hPc (ci := 4) (q0 := 0) rfl rfl, pW_pre hK hN hPc hDc⟩ rfl rfl hl.1 rfl (lv_room (Nat.le_of_ble_eq_true rfl)) d_La_law_201 ⟨by show cN + 0 ≤ 295586; omega, by show sN + 0 ≤ 8215492; omega⟩) hS (fun q _ h => hFc q h) hFc (fun r_201 u9 t9 H1 locs ht hvm hr_201 hB hz1 hk1 hS => ?_)
          obtain ⟨tl2, hrel_201, hP1, hD1⟩ := hB
          rw [ht] at hP1
          obtain ⟨hP, hD⟩ := va_joinP (wr := [(mo, .inr (5, [.ref a1, .ref a2, .ref a3, .int (nI n), .ref a4, .ref a5, .ref a6, .ref a7, .int (nI wl), .ref a8, .int nxm, .ref a9, .ref b1, .ref b2, .int ldm])), (a1, .inl ((ka 0), 256, .inr (.inl P))), (a2, .inl ((ka 0), 256, .inr (.inl sv))), (a3, .inl ((ka 2), 256, .inl si)), (a4, .inl ((ka 1), 64, .inl zs)), (a5, .inl ((ka 5), 2048, .inl os)), (a6, .inl ((ka 1), 2048, .inl fs)), (a7, .inl ((ka 0), 2048, .inr (.inl ss))), (a8, .inl ((ka 0), 8, .inr (.inl rg))), (a9, .inl ((ka 2), 64, .inl it)), (b1, .inl ((ka 1), 256, .inl tv)), (b2, .inl ((ka 0), 64, .inr (.inl rv)))]) (rx := [(v, .inr (4, [.ref pa, .ref ta, .ref te, .ref wv, .int (nI (n + 1)), .int (nI tk), .int (nI sl), .int (nI hz)])), (pa, .inl ((ka 0), 256, .inr (.inl P))), (ta, .inl ((ka 3), 64, .inr (.inr (.inr (.inr tf))))), (te, .inl ((ka 4), m, .inr (.inr (.inr (.inr wf))))), (wv, .inr (2, [.ref wd, .int (nI wl)])), (wd, .inl ((ka 0), K, .inr (.inl wo)))]) (pl1 := tl2) hP hD [0, 1, 2, 3, 4, 5] [6, 7, 8, 9, 10, 11, 12, 13, 14, 15, 16, 17] rfl rfl (by decide) (by decide) hk1 hFc hP1 hD1
          generalize H1 = H at hP hS ⊢
          have hP : va_P D classes ([(mo, .inr (5, [.ref a1, .ref a2, .ref a3, .int (nI n), .ref a4, .ref a5, .ref a6, .ref a7, .int (nI wl), .ref a8, .int nxm, .ref a9, .ref b1, .ref b2, .int ldm])), (a1, .inl ((ka 0), 256, .inr (.inl P))), (a2, .inl ((ka 0), 256, .inr (.inl sv))), (a3, .inl ((ka 2), 256, .inl si)), (a4, .inl ((ka 1), 64, .inl zs)), (a5, .inl ((ka 5), 2048, .inl os)), (a6, .inl ((ka 1), 2048, .inl fs)), (a7, .inl ((ka 0), 2048, .inr (.inl ss))), (a8, .inl ((ka 0), 8, .inr (.inl rg))), (a9, .inl ((ka 2), 64, .inl it)), (b1, .inl ((ka 1), 256, .inl tv)), (b2, .inl ((ka 0), 64, .inr (.inl rv))), (v, .inr (4, [.ref pa, .ref ta, .ref te, .ref wv, .int (nI (n + 1)), .int (nI tk), .int (nI sl), .int (nI hz)])), (pa, .inl ((ka 0), 256, .inr (.inl P))), (ta, .inl ((ka 3), 64, .inr (.inr (.inr (.inr tf))))), (te, .inl ((ka 4), m, .inr (.inr (.inr (.inr wf))))), (wv, .inr (2, [.ref wd, .int (nI wl)])), (wd, .inl ((ka 0), K, .inr (.inl wo)))] ++ tl2) H := hP
          have hD : va_D A ([(mo, .inr (5, [.ref a1, .ref a2, .ref a3, .int (nI n), .ref a4, .ref a5, .ref a6, .ref a7, .int (nI wl), .ref a8, .int nxm, .ref a9, .ref b1, .ref b2, .int ldm])), (a1, .inl ((ka 0), 256, .inr (.inl P))), (a2, .inl ((ka 0), 256, .inr (.inl sv))), (a3, .inl ((ka 2), 256, .inl si)), (a4, .inl ((ka 1), 64, .inl zs)), (a5, .inl ((ka 5), 2048, .inl os)), (a6, .inl ((ka 1), 2048, .inl fs)), (a7, .inl ((ka 0), 2048, .inr (.inl ss))), (a8, .inl ((ka 0), 8, .inr (.inl rg))), (a9, .inl ((ka 2), 64, .inl it)), (b1, .inl ((ka 1), 256, .inl tv)), (b2, .inl ((ka 0), 64, .inr (.inl rv))), (v, .inr (4, [.ref pa, .ref ta, .ref te, .ref wv, .int (nI (n + 1)), .int (nI tk), .int (nI sl), .int (nI hz)])), (pa, .inl ((ka 0), 256, .inr (.inl P))), (ta, .inl ((ka 3), 64, .inr (.inr (.inr (.inr tf))))), (te, .inl ((ka 4), m, .inr (.inr (.inr (.inr wf))))), (wv, .inr (2, [.ref wd, .int (nI wl)])), (wd, .inl ((ka 0), K, .inr (.inl wo)))] ++ tl2) := hD
          obtain rfl : r_201 = (nI n) := hr_201
          refine lv_aload_n hx hb d_La_law_204 rfl (lv_at hl 2 rfl) ?_
          have hPc := hP.sub (ws' := [(mo, .inr (5, [.ref a1, .ref a2, .ref a3, .int (nI n), .ref a4, .ref a5, .ref a6, .ref a7, .int (nI wl), .ref a8, .int nxm, .ref a9, .ref b1, .ref b2, .int ldm])), (a4, .inl ((ka 1), 64, .inl zs)), (a9, .inl ((ka 2), 64, .inl it))]) [0, 4, 9] rfl
          have hDc := hD.sub (ws' := [(mo, .inr (5, [.ref a1, .ref a2, .ref a3, .int (nI n), .ref a4, .ref a5, .ref a6, .ref a7, .int (nI wl), .ref a8, .int nxm, .ref a9, .ref b1, .ref b2, .int ldm])), (a4, .inl ((ka 1), 64, .inl zs)), (a9, .inl ((ka 2), 64, .inl it))]) [0, 4, 9] (by decide) rfl
          have hFc := va_free (wc := [(mo, .inr (5, [.ref a1, .ref a2, .ref a3, .int (nI n), .ref a4, .ref a5, .ref a6, .ref a7, .int (nI wl), .ref a8, .int nxm, .ref a9, .ref b1, .ref b2, .int ldm])), (a4, .inl ((ka 1), 64, .inl zs)), (a9, .inl ((ka 2), 64, .inl it))]) hD hS hA [0, 4, 9] rfl
          refine va_calli (va_runV (As := []) (rest := [.int (nI n)]) ⟨hx, hb, hml, hown, hts⟩ (c_Mo_tr l D ka H.size mo a1 a2 a3 a4 a5 a6 a7 a8 a9 b1 b2 n (nI wl) nxm ldm zs it hold.2) ⟨callB_of 0 hts (gd_lw mw_2_210) rfl rfl rfl (hts _ (tb_of mw_1_4)) (hts _ (tb_of mw_2_207)) (by decide +kernel) ⟨Nat.le_of_ble_eq_true rfl, Nat.le_of_ble_eq_true rfl⟩, (hts _ (tb_of mw_2_208)), (hts _ (tb_of mw_2_209))⟩ ⟨pW_blind, va_recv hK hPc (ci := 5) (q0 := 0) rfl rfl, pW_pre hK hN hPc hDc⟩ rfl rfl hl.1 rfl (lv_room (Nat.le_of_ble_eq_true rfl)) d_La_law_205 ⟨by show cN + 0 ≤ 295586; omega, by show sN + 0 ≤ 8215492; omega⟩) hS (fun q _ h => hFc q h) hFc (fun r_205 u9 t9 H1 locs ht hvm hr_205 hB hz1 hk1 hS => ?_)
          obtain ⟨hrel_205, hP1, hD1⟩ := hB
          rw [ht] at hP1
          obtain ⟨hP, hD⟩ := va_joinQ (wr := [(a1, .inl ((ka 0), 256, .inr (.inl P))), (a2, .inl ((ka 0), 256, .inr (.inl sv))), (a3, .inl ((ka 2), 256, .inl si)), (a5, .inl ((ka 5), 2048, .inl os)), (a6, .inl ((ka 1), 2048, .inl fs)), (a7, .inl ((ka 0), 2048, .inr (.inl ss))), (a8, .inl ((ka 0), 8, .inr (.inl rg))), (b1, .inl ((ka 1), 256, .inl tv)), (b2, .inl ((ka 0), 64, .inr (.inl rv))), (v, .inr (4, [.ref pa, .ref ta, .ref te, .ref wv, .int (nI (n + 1)), .int (nI tk), .int (nI sl), .int (nI hz)])), (pa, .inl ((ka 0), 256, .inr (.inl P))), (ta, .inl ((ka 3), 64, .inr (.inr (.inr (.inr tf))))), (te, .inl ((ka 4), m, .inr (.inr (.inr (.inr wf))))), (wv, .inr (2, [.ref wd, .int (nI wl)])), (wd, .inl ((ka 0), K, .inr (.inl wo)))]) (w1 := [(mo, .inr (5, [.ref a1, .ref a2, .ref a3, .int (nI (n + 1)), .ref a4, .ref a5, .ref a6, .ref a7, .int (nI wl), .ref a8, .int nxm, .ref a9, .ref b1, .ref b2, .int ldm])), (a4, .inl ((ka 1), 64, .inl (upd zs n (nI 0)))), (a9, .inl ((ka 2), 64, .inl (upd it n 0)))]) hP hD [0, 4, 9] [1, 2, 3, 5, 6, 7, 8, 10, 11, 12, 13, 14, 15, 16, 17] rfl rfl (by decide) (by decide) hk1 hFc hP1 hD1
          generalize H1 = H at hP hS ⊢
          have hP : va_P D classes ([(a1, .inl ((ka 0), 256, .inr (.inl P))), (a2, .inl ((ka 0), 256, .inr (.inl sv))), (a3, .inl ((ka 2), 256, .inl si)), (a5, .inl ((ka 5), 2048, .inl os)), (a6, .inl ((ka 1), 2048, .inl fs)), (a7, .inl ((ka 0), 2048, .inr (.inl ss))), (a8, .inl ((ka 0), 8, .inr (.inl rg))), (b1, .inl ((ka 1), 256, .inl tv)), (b2, .inl ((ka 0), 64, .inr (.inl rv))), (v, .inr (4, [.ref pa, .ref ta, .ref te, .ref wv, .int (nI (n + 1)), .int (nI tk), .int (nI sl), .int (nI hz)])), (pa, .inl ((ka 0), 256, .inr (.inl P))), (ta, .inl ((ka 3), 64, .inr (.inr (.inr (.inr tf))))), (te, .inl ((ka 4), m, .inr (.inr (.inr (.inr wf))))), (wv, .inr (2, [.ref wd, .int (nI wl)])), (wd, .inl ((ka 0), K, .inr (.inl wo))), (mo, .inr (5, [.ref a1, .ref a2, .ref a3, .int (nI (n + 1)), .ref a4, .ref a5, .ref a6, .ref a7, .int (nI wl), .ref a8, .int nxm, .ref a9, .ref b1, .ref b2, .int ldm])), (a4, .inl ((ka 1), 64, .inl (upd zs n (nI 0)))), (a9, .inl ((ka 2), 64, .inl (upd it n 0)))] ++ tl2) H := hP
          have hD : va_D A ([(a1, .inl ((ka 0), 256, .inr (.inl P))), (a2, .inl ((ka 0), 256, .inr (.inl sv))), (a3, .inl ((ka 2), 256, .inl si)), (a5, .inl ((ka 5), 2048, .inl os)), (a6, .inl ((ka 1), 2048, .inl fs)), (a7, .inl ((ka 0), 2048, .inr (.inl ss))), (a8, .inl ((ka 0), 8, .inr (.inl rg))), (b1, .inl ((ka 1), 256, .inl tv)), (b2, .inl ((ka 0), 64, .inr (.inl rv))), (v, .inr (4, [.ref pa, .ref ta, .ref te, .ref wv, .int (nI (n + 1)), .int (nI tk), .int (nI sl), .int (nI hz)])), (pa, .inl ((ka 0), 256, .inr (.inl P))), (ta, .inl ((ka 3), 64, .inr (.inr (.inr (.inr tf))))), (te, .inl ((ka 4), m, .inr (.inr (.inr (.inr wf))))), (wv, .inr (2, [.ref wd, .int (nI wl)])), (wd, .inl ((ka 0), K, .inr (.inl wo))), (mo, .inr (5, [.ref a1, .ref a2, .ref a3, .int (nI (n + 1)), .ref a4, .ref a5, .ref a6, .ref a7, .int (nI wl), .ref a8, .int nxm, .ref a9, .ref b1, .ref b2, .int ldm])), (a4, .inl ((ka 1), 64, .inl (upd zs n (nI 0)))), (a9, .inl ((ka 2), 64, .inl (upd it n 0)))] ++ tl2) := hD
          obtain rfl : r_205 = (nI n) := hr_205
          refine lv_icmp_eq (tgt := 435) hx hb d_La_law_208 (by decide) (fun c_208 => ?_) (fun c_208 => absurd rfl c_208)
          refine lv_iinc (v := nI (5 * (q + 1) + 1)) (lv' := [(3, .int (nI (5 * (q + 1) + 1))), (1, .ref v), (2, .ref mo), (0, .ref b)]) hx hb d_La_law_435 hl (k := 0) rfl (law_i5 q) (by decide) rfl (fun ls hl => ?_)
          refine lv_goto (tgt := 28) hx hb d_La_law_438 (by decide) ?_
          exact ih (q + 1) wd (n + 1) nT tk sl hz wl K cN sN P wo tf wf tl2 wk (va_up pgs n []) (va_up td n none) sv ss rg rv si (upd zs n (nI 0)) os fs (upd it n 0) tv nxm ldm (by omega) hrel_201 hfr hW hKK (mS_tr hM) (by omega) (by omega) (by omega) _ _ (hP.part [9, 10, 11, 12, 13, 14, 15, 0, 1, 2, 16, 3, 4, 5, 6, 17, 7, 8] rfl) (hD.part [9, 10, 11, 12, 13, 14, 15, 0, 1, 2, 16, 3, 4, 5, 6, 17, 7, 8] (by decide) rfl) hS ls (lv_sub hl [0, 1, 2, 3] rfl)
        · refine lv_aload_n hx hb d_La_law_200 rfl (lv_at hl 1 rfl) ?_
          have hPc := hP.part (cx := [(v, .inr (4, [.ref pa, .ref ta, .ref te, .ref wv, .int (nI n), .int (nI tk), .int (nI sl), .int (nI hz)])), (pa, .inl ((ka 0), 256, .inr (.inl P))), (ta, .inl ((ka 3), 64, .inr (.inr (.inr (.inr tf))))), (te, .inl ((ka 4), m, .inr (.inr (.inr (.inr wf))))), (wv, .inr (2, [.ref wd, .int (nI wl)])), (wd, .inl ((ka 0), K, .inr (.inl wo)))]) [0, 1, 2, 3, 4, 5] rfl
          have hDc := hD.part (cx := [(v, .inr (4, [.ref pa, .ref ta, .ref te, .ref wv, .int (nI n), .int (nI tk), .int (nI sl), .int (nI hz)])), (pa, .inl ((ka 0), 256, .inr (.inl P))), (ta, .inl ((ka 3), 64, .inr (.inr (.inr (.inr tf))))), (te, .inl ((ka 4), m, .inr (.inr (.inr (.inr wf))))), (wv, .inr (2, [.ref wd, .int (nI wl)])), (wd, .inl ((ka 0), K, .inr (.inl wo)))]) [0, 1, 2, 3, 4, 5] (by decide) rfl
          have hFc := va_freeP (cx := [(v, .inr (4, [.ref pa, .ref ta, .ref te, .ref wv, .int (nI n), .int (nI tk), .int (nI sl), .int (nI hz)])), (pa, .inl ((ka 0), 256, .inr (.inl P))), (ta, .inl ((ka 3), 64, .inr (.inr (.inr (.inr tf))))), (te, .inl ((ka 4), m, .inr (.inr (.inr (.inr wf))))), (wv, .inr (2, [.ref wd, .int (nI wl)])), (wd, .inl ((ka 0), K, .inr (.inl wo)))]) hD hS hA [0, 1, 2, 3, 4, 5] rfl
          refine va_calli (va_runV (As := []) (rest := []) ⟨hx, hb, hml, hown, hts⟩ (c_A_trnew l D ka H.size v pa ta te wv wd n nT m tk sl hz wl K P wo tf wf tl pgs td wk hT hfr hnew.1 hnew.2) ⟨callB_of 0 hts (gd_lw mw_1_85) rfl rfl rfl (hts _ (tb_of mw_1_1)) (hts _ (tb_of mw_1_82)) (by decide +kernel) ⟨Nat.le_of_ble_eq_true rfl, Nat.le_of_ble_eq_true rfl⟩, (hts _ (tb_of mw_1_83)), (hts _ (tb_of mw_1_84))⟩ ⟨pW_blind, va_recv hK hPc (ci := 4) (q0 := 0) rfl rfl, pW_pre hK hN hPc hDc⟩ rfl rfl hl.1 rfl (lv_room (Nat.le_of_ble_eq_true rfl)) d_La_law_201 ⟨by show cN + 4 ≤ 295586; omega, by show sN + 106 ≤ 8215492; omega⟩) hS (fun q _ h => hFc q h) hFc (fun r_201 u9 t9 H1 locs ht hvm hr_201 hB hz1 hk1 hS => ?_)
          obtain ⟨tl2, tf2, hrel_201, hP1, hD1⟩ := hB
          rw [ht] at hP1
          obtain ⟨hP, hD⟩ := va_joinP (wr := [(mo, .inr (5, [.ref a1, .ref a2, .ref a3, .int (nI n), .ref a4, .ref a5, .ref a6, .ref a7, .int (nI wl), .ref a8, .int nxm, .ref a9, .ref b1, .ref b2, .int ldm])), (a1, .inl ((ka 0), 256, .inr (.inl P))), (a2, .inl ((ka 0), 256, .inr (.inl sv))), (a3, .inl ((ka 2), 256, .inl si)), (a4, .inl ((ka 1), 64, .inl zs)), (a5, .inl ((ka 5), 2048, .inl os)), (a6, .inl ((ka 1), 2048, .inl fs)), (a7, .inl ((ka 0), 2048, .inr (.inl ss))), (a8, .inl ((ka 0), 8, .inr (.inl rg))), (a9, .inl ((ka 2), 64, .inl it)), (b1, .inl ((ka 1), 256, .inl tv)), (b2, .inl ((ka 0), 64, .inr (.inl rv)))]) (rx := [(v, .inr (4, [.ref pa, .ref ta, .ref te, .ref wv, .int (nI (n + 1)), .int (nI tk), .int (nI sl), .int (nI hz)])), (pa, .inl ((ka 0), 256, .inr (.inl P))), (ta, .inl ((ka 3), 64, .inr (.inr (.inr (.inr tf2))))), (te, .inl ((ka 4), m, .inr (.inr (.inr (.inr wf))))), (wv, .inr (2, [.ref wd, .int (nI wl)])), (wd, .inl ((ka 0), K, .inr (.inl wo)))]) (pl1 := tl2) hP hD [0, 1, 2, 3, 4, 5] [6, 7, 8, 9, 10, 11, 12, 13, 14, 15, 16, 17] rfl rfl (by decide) (by decide) hk1 hFc hP1 hD1
          generalize H1 = H at hP hS ⊢
          refine W.widen (k := cN + 4) (n := sN + 106) (by omega) (by omega) ?_
          have hP : va_P D classes ([(mo, .inr (5, [.ref a1, .ref a2, .ref a3, .int (nI n), .ref a4, .ref a5, .ref a6, .ref a7, .int (nI wl), .ref a8, .int nxm, .ref a9, .ref b1, .ref b2, .int ldm])), (a1, .inl ((ka 0), 256, .inr (.inl P))), (a2, .inl ((ka 0), 256, .inr (.inl sv))), (a3, .inl ((ka 2), 256, .inl si)), (a4, .inl ((ka 1), 64, .inl zs)), (a5, .inl ((ka 5), 2048, .inl os)), (a6, .inl ((ka 1), 2048, .inl fs)), (a7, .inl ((ka 0), 2048, .inr (.inl ss))), (a8, .inl ((ka 0), 8, .inr (.inl rg))), (a9, .inl ((ka 2), 64, .inl it)), (b1, .inl ((ka 1), 256, .inl tv)), (b2, .inl ((ka 0), 64, .inr (.inl rv))), (v, .inr (4, [.ref pa, .ref ta, .ref te, .ref wv, .int (nI (n + 1)), .int (nI tk), .int (nI sl), .int (nI hz)])), (pa, .inl ((ka 0), 256, .inr (.inl P))), (ta, .inl ((ka 3), 64, .inr (.inr (.inr (.inr tf2))))), (te, .inl ((ka 4), m, .inr (.inr (.inr (.inr wf))))), (wv, .inr (2, [.ref wd, .int (nI wl)])), (wd, .inl ((ka 0), K, .inr (.inl wo)))] ++ tl2) H := hP
          have hD : va_D A ([(mo, .inr (5, [.ref a1, .ref a2, .ref a3, .int (nI n), .ref a4, .ref a5, .ref a6, .ref a7, .int (nI wl), .ref a8, .int nxm, .ref a9, .ref b1, .ref b2, .int ldm])), (a1, .inl ((ka 0), 256, .inr (.inl P))), (a2, .inl ((ka 0), 256, .inr (.inl sv))), (a3, .inl ((ka 2), 256, .inl si)), (a4, .inl ((ka 1), 64, .inl zs)), (a5, .inl ((ka 5), 2048, .inl os)), (a6, .inl ((ka 1), 2048, .inl fs)), (a7, .inl ((ka 0), 2048, .inr (.inl ss))), (a8, .inl ((ka 0), 8, .inr (.inl rg))), (a9, .inl ((ka 2), 64, .inl it)), (b1, .inl ((ka 1), 256, .inl tv)), (b2, .inl ((ka 0), 64, .inr (.inl rv))), (v, .inr (4, [.ref pa, .ref ta, .ref te, .ref wv, .int (nI (n + 1)), .int (nI tk), .int (nI sl), .int (nI hz)])), (pa, .inl ((ka 0), 256, .inr (.inl P))), (ta, .inl ((ka 3), 64, .inr (.inr (.inr (.inr tf2))))), (te, .inl ((ka 4), m, .inr (.inr (.inr (.inr wf))))), (wv, .inr (2, [.ref wd, .int (nI wl)])), (wd, .inl ((ka 0), K, .inr (.inl wo)))] ++ tl2) := hD
          obtain rfl : r_201 = (nI n) := hr_201
          refine lv_aload_n hx hb d_La_law_204 rfl (lv_at hl 2 rfl) ?_
          have hPc := hP.sub (ws' := [(mo, .inr (5, [.ref a1, .ref a2, .ref a3, .int (nI n), .ref a4, .ref a5, .ref a6, .ref a7, .int (nI wl), .ref a8, .int nxm, .ref a9, .ref b1, .ref b2, .int ldm])), (a4, .inl ((ka 1), 64, .inl zs)), (a9, .inl ((ka 2), 64, .inl it))]) [0, 4, 9] rfl
          have hDc := hD.sub (ws' := [(mo, .inr (5, [.ref a1, .ref a2, .ref a3, .int (nI n), .ref a4, .ref a5, .ref a6, .ref a7, .int (nI wl), .ref a8, .int nxm, .ref a9, .ref b1, .ref b2, .int ldm])), (a4, .inl ((ka 1), 64, .inl zs)), (a9, .inl ((ka 2), 64, .inl it))]) [0, 4, 9] (by decide) rfl
          have hFc := va_free (wc := [(mo, .inr (5, [.ref a1, .ref a2, .ref a3, .int (nI n), .ref a4, .ref a5, .ref a6, .ref a7, .int (nI wl), .ref a8, .int nxm, .ref a9, .ref b1, .ref b2, .int ldm])), (a4, .inl ((ka 1), 64, .inl zs)), (a9, .inl ((ka 2), 64, .inl it))]) hD hS hA [0, 4, 9] rfl
          refine va_calli (va_runV (As := []) (rest := [.int (nI n)]) ⟨hx, hb, hml, hown, hts⟩ (c_Mo_tr l D ka H.size mo a1 a2 a3 a4 a5 a6 a7 a8 a9 b1 b2 n (nI wl) nxm ldm zs it hnew.2) ⟨callB_of 0 hts (gd_lw mw_2_210) rfl rfl rfl (hts _ (tb_of mw_1_4)) (hts _ (tb_of mw_2_207)) (by decide +kernel) ⟨Nat.le_of_ble_eq_true rfl, Nat.le_of_ble_eq_true rfl⟩, (hts _ (tb_of mw_2_208)), (hts _ (tb_of mw_2_209))⟩ ⟨pW_blind, va_recv hK hPc (ci := 5) (q0 := 0) rfl rfl, pW_pre hK hN hPc hDc⟩ rfl rfl hl.1 rfl (lv_room (Nat.le_of_ble_eq_true rfl)) d_La_law_205 ⟨by show cN + 4 + 0 ≤ 295586; omega, by show sN + 106 + 0 ≤ 8215492; omega⟩) hS (fun q _ h => hFc q h) hFc (fun r_205 u9 t9 H1 locs ht hvm hr_205 hB hz1 hk1 hS => ?_)
          obtain ⟨hrel_205, hP1, hD1⟩ := hB
          rw [ht] at hP1
          obtain ⟨hP, hD⟩ := va_joinQ (wr := [(a1, .inl ((ka 0), 256, .inr (.inl P))), (a2, .inl ((ka 0), 256, .inr (.inl sv))), (a3, .inl ((ka 2), 256, .inl si)), (a5, .inl ((ka 5), 2048, .inl os)), (a6, .inl ((ka 1), 2048, .inl fs)), (a7, .inl ((ka 0), 2048, .inr (.inl ss))), (a8, .inl ((ka 0), 8, .inr (.inl rg))), (b1, .inl ((ka 1), 256, .inl tv)), (b2, .inl ((ka 0), 64, .inr (.inl rv))), (v, .inr (4, [.ref pa, .ref ta, .ref te, .ref wv, .int (nI (n + 1)), .int (nI tk), .int (nI sl), .int (nI hz)])), (pa, .inl ((ka 0), 256, .inr (.inl P))), (ta, .inl ((ka 3), 64, .inr (.inr (.inr (.inr tf2))))), (te, .inl ((ka 4), m, .inr (.inr (.inr (.inr wf))))), (wv, .inr (2, [.ref wd, .int (nI wl)])), (wd, .inl ((ka 0), K, .inr (.inl wo)))]) (w1 := [(mo, .inr (5, [.ref a1, .ref a2, .ref a3, .int (nI (n + 1)), .ref a4, .ref a5, .ref a6, .ref a7, .int (nI wl), .ref a8, .int nxm, .ref a9, .ref b1, .ref b2, .int ldm])), (a4, .inl ((ka 1), 64, .inl (upd zs n (nI 0)))), (a9, .inl ((ka 2), 64, .inl (upd it n 0)))]) hP hD [0, 4, 9] [1, 2, 3, 5, 6, 7, 8, 10, 11, 12, 13, 14, 15, 16, 17] rfl rfl (by decide) (by decide) hk1 hFc hP1 hD1
          generalize H1 = H at hP hS ⊢
          have hP : va_P D classes ([(a1, .inl ((ka 0), 256, .inr (.inl P))), (a2, .inl ((ka 0), 256, .inr (.inl sv))), (a3, .inl ((ka 2), 256, .inl si)), (a5, .inl ((ka 5), 2048, .inl os)), (a6, .inl ((ka 1), 2048, .inl fs)), (a7, .inl ((ka 0), 2048, .inr (.inl ss))), (a8, .inl ((ka 0), 8, .inr (.inl rg))), (b1, .inl ((ka 1), 256, .inl tv)), (b2, .inl ((ka 0), 64, .inr (.inl rv))), (v, .inr (4, [.ref pa, .ref ta, .ref te, .ref wv, .int (nI (n + 1)), .int (nI tk), .int (nI sl), .int (nI hz)])), (pa, .inl ((ka 0), 256, .inr (.inl P))), (ta, .inl ((ka 3), 64, .inr (.inr (.inr (.inr tf2))))), (te, .inl ((ka 4), m, .inr (.inr (.inr (.inr wf))))), (wv, .inr (2, [.ref wd, .int (nI wl)])), (wd, .inl ((ka 0), K, .inr (.inl wo))), (mo, .inr (5, [.ref a1, .ref a2, .ref a3, .int (nI (n + 1)), .ref a4, .ref a5, .ref a6, .ref a7, .int (nI wl), .ref a8, .int nxm, .ref a9, .ref b1, .ref b2, .int ldm])), (a4, .inl ((ka 1), 64, .inl (upd zs n (nI 0)))), (a9, .inl ((ka 2), 64, .inl (upd it n 0)))] ++ tl2) H := hP
          have hD : va_D A ([(a1, .inl ((ka 0), 256, .inr (.inl P))), (a2, .inl ((ka 0), 256, .inr (.inl sv))), (a3, .inl ((ka 2), 256, .inl si)), (a5, .inl ((ka 5), 2048, .inl os)), (a6, .inl ((ka 1), 2048, .inl fs)), (a7, .inl ((ka 0), 2048, .inr (.inl ss))), (a8, .inl ((ka 0), 8, .inr (.inl rg))), (b1, .inl ((ka 1), 256, .inl tv)), (b2, .inl ((ka 0), 64, .inr (.inl rv))), (v, .inr (4, [.ref pa, .ref ta, .ref te, .ref wv, .int (nI (n + 1)), .int (nI tk), .int (nI sl), .int (nI hz)])), (pa, .inl ((ka 0), 256, .inr (.inl P))), (ta, .inl ((ka 3), 64, .inr (.inr (.inr (.inr tf2))))), (te, .inl ((ka 4), m, .inr (.inr (.inr (.inr wf))))), (wv, .inr (2, [.ref wd, .int (nI wl)])), (wd, .inl ((ka 0), K, .inr (.inl wo))), (mo, .inr (5, [.ref a1, .ref a2, .ref a3, .int (nI (n + 1)), .ref a4, .ref a5, .ref a6, .ref a7, .int (nI wl), .ref a8, .int nxm, .ref a9, .ref b1, .ref b2, .int ldm])), (a4, .inl ((ka 1), 64, .inl (upd zs n (nI 0)))), (a9, .inl ((ka 2), 64, .inl (upd it n 0)))] ++ tl2) := hD
          obtain rfl : r_205 = (nI n) := hr_205
          refine lv_icmp_eq (tgt := 435) hx hb d_La_law_208 (by decide) (fun c_208 => ?_) (fun c_208 => absurd rfl c_208)
          refine lv_iinc (v := nI (5 * (q + 1) + 1)) (lv' := [(3, .int (nI (5 * (q + 1) + 1))), (1, .ref v), (2, .ref mo), (0, .ref b)]) hx hb d_La_law_435 hl (k := 0) rfl (law_i5 q) (by decide) rfl (fun ls hl => ?_)
          refine lv_goto (tgt := 28) hx hb d_La_law_438 (by decide) ?_
          exact ih (q + 1) wd (n + 1) (n + 1) tk sl hz wl K (cN + 4) (sN + 106) P wo tf2 wf tl2 wk (va_up pgs n []) (va_up td n none) sv ss rg rv si (upd zs n (nI 0)) os fs (upd it n 0) tv nxm ldm (by omega) hrel_201 hfr hW hKK (mS_tr hM) (by omega) (by omega) (by omega) _ _ (hP.part [9, 10, 11, 12, 13, 14, 15, 0, 1, 2, 16, 3, 4, 5, 6, 17, 7, 8] rfl) (hD.part [9, 10, 11, 12, 13, 14, 15, 0, 1, 2, 16, 3, 4, 5, 6, 17, 7, 8] (by decide) rfl) hS ls (lv_sub hl [0, 1, 2, 3] rfl)
      · skip
        refine lv_tableIn (off := 171) (tgt := 213) hx hb d_La_law_42 (by decide) (by decide) (by decide) (by decide) ?_
        rcases in_cases (x := xs (5 * q + 2)) (fun t ht => (hM t ht).2.1.1) with hop0 | ⟨hop0, rfl⟩ | ⟨n9, op, rfl, hop, hope, hl9⟩ | ⟨n9, op, rfl, hop, hope, hl9⟩
        · refine lv_aload_n hx hb d_La_law_213 rfl (lv_at hl 1 rfl) ?_
          refine lv_aload_n hx hb d_La_law_214 rfl (lv_at hl 3 rfl) ?_
          refine lv_iload_n hx hb d_La_law_215 rfl (lv_at hl 0 rfl) ?_
          refine lv_iconst (v := (nI 1)) hx hb d_La_law_216 (by decide) ?_
          refine lv_iadd hx hb d_La_law_217 ?_
          refine lv_topi (fun v_217 ev_217 => ?_)
          obtain rfl : v_217 = nI (5 * q + 2) := ev_217.trans (nI_add _ _)
          refine my_sld (k := (5 * q + 2)) hx hb hX hbl hbA hS (by omega) (by omega) d_La_law_218 ?_
          refine lv_aload_n hx hb d_La_law_219 rfl (lv_at hl 3 rfl) ?_
          refine lv_iload_n hx hb d_La_law_220 rfl (lv_at hl 0 rfl) ?_
          refine lv_iconst (v := (nI 2)) hx hb d_La_law_221 (by decide) ?_
          refine lv_iadd hx hb d_La_law_222 ?_
          refine lv_topi (fun v_222 ev_222 => ?_)
          obtain rfl : v_222 = nI (5 * q + 3) := ev_222.trans (nI_add _ _)
          refine my_sld (k := (5 * q + 3)) hx hb hX hbl hbA hS (by omega) (by omega) d_La_law_223 ?_
          refine lv_aload_n hx hb d_La_law_224 rfl (lv_at hl 3 rfl) ?_
          refine lv_iload_n hx hb d_La_law_225 rfl (lv_at hl 0 rfl) ?_
          refine lv_iconst (v := (nI 3)) hx hb d_La_law_226 (by decide) ?_
          refine lv_iadd hx hb d_La_law_227 ?_
          refine lv_topi (fun v_227 ev_227 => ?_)
          obtain rfl : v_227 = nI (5 * q + 4) := ev_227.trans (nI_add _ _)
          refine my_sld (k := (5 * q + 4)) hx hb hX hbl hbA hS (by omega) (by omega) d_La_law_228 ?_
          refine lv_i2l (v := (xs (5 * q + 4)).toInt64) hx hb d_La_law_229 rfl ?_
          refine lv_bipush (v := 32) hx hb d_La_law_230 (by decide) ?_
          refine lv_lshl (v := (xs (5 * q + 4)).toInt64 <<< ((32 : Int32).toInt64 &&& 63)) hx hb d_La_law_232 rfl ?_
          refine lv_aload_n hx hb d_La_law_233 rfl (lv_at hl 3 rfl) ?_
          refine lv_iload_n hx hb d_La_law_234 rfl (lv_at hl 0 rfl) ?_
          refine lv_iconst (v := (nI 4)) hx hb d_La_law_235 (by decide) ?_
          refine lv_iadd hx hb d_La_law_236 ?_
          refine lv_topi (fun v_236 ev_236 => ?_)
          obtain rfl : v_236 = nI (5 * q + 5) := ev_236.trans (nI_add _ _)
          refine my_sld (k := (5 * q + 5)) hx hb hX hbl hbA hS (by omega) (by omega) d_La_law_237 ?_
          refine lv_i2l (v := (xs (5 * q + 5)).toInt64) hx hb d_La_law_238 rfl ?_
          refine lv_ldc2 (own := "VersionedBlockLaw") (index := 21) (v := 4294967295) hx hb hown (hts _ (tb_of mw_3_18)) d_La_law_239 ?_
          refine lv_land hx hb d_La_law_242 ?_
          refine lv_lor hx hb d_La_law_243 ?_
          refine lv_topl (fun v_243 ev_243 => ?_)
          obtain rfl : v_243 = lw (xs (5 * q + 4)) (xs (5 * q + 5)) := ev_243.trans rfl
          have hPc := hP.sub (ws' := [(v, .inr (4, [.ref pa, .ref ta, .ref te, .ref wv, .int (nI n), .int (nI tk), .int (nI sl), .int (nI hz)]))]) [0] rfl
          refine vp_callSi (run_of (va_runV (As := [.int (xs (5 * q + 2)), .int (xs (5 * q + 3)), .long (lw (xs (5 * q + 4)) (xs (5 * q + 5)))]) (rest := []) ⟨hx, hb, hml, hown, hts⟩ (c_Vb_in_bad l D ka v pa ta te wv (nI n) (nI tk) (nI sl) (nI hz) (xs (5 * q + 2)) (xs (5 * q + 3)) (lw (xs (5 * q + 4)) (xs (5 * q + 5))) hop0) ⟨callB_of 3 hts (gd_lw mw_1_130) rfl rfl rfl (hts _ (tb_of mw_1_1)) (hts _ (tb_of mw_1_127)) (by decide +kernel) ⟨Nat.le_of_ble_eq_true rfl, Nat.le_of_ble_eq_true rfl⟩, (hts _ (tb_of mw_1_128)), (hts _ (tb_of mw_1_129))⟩ ⟨pR_blind, va_recv hK hPc (ci := 4) (q0 := 0) rfl rfl, pR_pre hK hN hPc⟩ rfl rfl hl.1 rfl (lv_room (Nat.le_of_ble_eq_true rfl)) d_La_law_244 ⟨by show cN + 0 ≤ 295586; omega, by show sN + 0 ≤ 8215492; omega⟩)) (fun r_244 hr_244 => ?_)
          obtain rfl : r_244 = (-1) := hr_244
          refine lv_aload_n hx hb d_La_law_247 rfl (lv_at hl 2 rfl) ?_
          refine lv_aload_n hx hb d_La_law_248 rfl (lv_at hl 3 rfl) ?_
          refine lv_iload_n hx hb d_La_law_249 rfl (lv_at hl 0 rfl) ?_
          refine lv_iconst (v := (nI 1)) hx hb d_La_law_250 (by decide) ?_
          refine lv_iadd hx hb d_La_law_251 ?_
          refine lv_topi (fun v_251 ev_251 => ?_)
          obtain rfl : v_251 = nI (5 * q + 2) := ev_251.trans (nI_add _ _)
          refine my_sld (k := (5 * q + 2)) hx hb hX hbl hbA hS (by omega) (by omega) d_La_law_252 ?_
          refine lv_aload_n hx hb d_La_law_253 rfl (lv_at hl 3 rfl) ?_
          refine lv_iload_n hx hb d_La_law_254 rfl (lv_at hl 0 rfl) ?_
          refine lv_iconst (v := (nI 2)) hx hb d_La_law_255 (by decide) ?_
          refine lv_iadd hx hb d_La_law_256 ?_
          refine lv_topi (fun v_256 ev_256 => ?_)
          obtain rfl : v_256 = nI (5 * q + 3) := ev_256.trans (nI_add _ _)
          refine my_sld (k := (5 * q + 3)) hx hb hX hbl hbA hS (by omega) (by omega) d_La_law_257 ?_
          refine lv_aload_n hx hb d_La_law_258 rfl (lv_at hl 3 rfl) ?_
          refine lv_iload_n hx hb d_La_law_259 rfl (lv_at hl 0 rfl) ?_
          refine lv_iconst (v := (nI 3)) hx hb d_La_law_260 (by decide) ?_
          refine lv_iadd hx hb d_La_law_261 ?_
          refine lv_topi (fun v_261 ev_261 => ?_)
          obtain rfl : v_261 = nI (5 * q + 4) := ev_261.trans (nI_add _ _)
          refine my_sld (k := (5 * q + 4)) hx hb hX hbl hbA hS (by omega) (by omega) d_La_law_262 ?_
          refine lv_i2l (v := (xs (5 * q + 4)).toInt64) hx hb d_La_law_263 rfl ?_
          refine lv_bipush (v := 32) hx hb d_La_law_264 (by decide) ?_
          refine lv_lshl (v := (xs (5 * q + 4)).toInt64 <<< ((32 : Int32).toInt64 &&& 63)) hx hb d_La_law_266 rfl ?_
          refine lv_aload_n hx hb d_La_law_267 rfl (lv_at hl 3 rfl) ?_
          refine lv_iload_n hx hb d_La_law_268 rfl (lv_at hl 0 rfl) ?_
          refine lv_iconst (v := (nI 4)) hx hb d_La_law_269 (by decide) ?_
          refine lv_iadd hx hb d_La_law_270 ?_
          refine lv_topi (fun v_270 ev_270 => ?_)
          obtain rfl : v_270 = nI (5 * q + 5) := ev_270.trans (nI_add _ _)
          refine my_sld (k := (5 * q + 5)) hx hb hX hbl hbA hS (by omega) (by omega) d_La_law_271 ?_
          refine lv_i2l (v := (xs (5 * q + 5)).toInt64) hx hb d_La_law_272 rfl ?_
          refine lv_ldc2 (own := "VersionedBlockLaw") (index := 21) (v := 4294967295) hx hb hown (hts _ (tb_of mw_3_18)) d_La_law_273 ?_
          refine lv_land hx hb d_La_law_276 ?_
          refine lv_lor hx hb d_La_law_277 ?_
          refine lv_topl (fun v_277 ev_277 => ?_)
          obtain rfl : v_277 = lw (xs (5 * q + 4)) (xs (5 * q + 5)) := ev_277.trans rfl
          have hPc := hP.sub (ws' := [(mo, .inr (5, [.ref a1, .ref a2, .ref a3, .int (nI n), .ref a4, .ref a5, .ref a6, .ref a7, .int (nI wl), .ref a8, .int nxm, .ref a9, .ref b1, .ref b2, .int ldm]))]) [6] rfl
          refine vp_callSi (run_of (va_runV (As := [.int (xs (5 * q + 2)), .int (xs (5 * q + 3)), .long (lw (xs (5 * q + 4)) (xs (5 * q + 5)))]) (rest := [.int (-1)]) ⟨hx, hb, hml, hown, hts⟩ (c_Mo_in_bad l D ka mo a1 a2 a3 a4 a5 a6 a7 a8 a9 b1 b2 (nI n) (nI wl) nxm ldm (xs (5 * q + 2)) (xs (5 * q + 3)) (lw (xs (5 * q + 4)) (xs (5 * q + 5))) hop0) ⟨callB_of 3 hts (gd_lw mw_2_214) rfl rfl rfl (hts _ (tb_of mw_1_4)) (hts _ (tb_of mw_2_211)) (by decide +kernel) ⟨Nat.le_of_ble_eq_true rfl, Nat.le_of_ble_eq_true rfl⟩, (hts _ (tb_of mw_2_212)), (hts _ (tb_of mw_2_213))⟩ ⟨pR_blind, va_recv hK hPc (ci := 5) (q0 := 0) rfl rfl, pR_pre hK hN hPc⟩ rfl rfl hl.1 rfl (lv_room (Nat.le_of_ble_eq_true rfl)) d_La_law_278 ⟨by show cN + 0 ≤ 295586; omega, by show sN + 0 ≤ 8215492; omega⟩)) (fun r_278 hr_278 => ?_)
          obtain rfl : r_278 = (-1) := hr_278
          refine lv_icmp_eq (tgt := 435) hx hb d_La_law_281 (by decide) (fun c_281 => ?_) (fun c_281 => absurd rfl c_281)
          refine lv_iinc (v := nI (5 * (q + 1) + 1)) (lv' := [(3, .int (nI (5 * (q + 1) + 1))), (1, .ref v), (2, .ref mo), (0, .ref b)]) hx hb d_La_law_435 hl (k := 0) rfl (law_i5 q) (by decide) rfl (fun ls hl => ?_)
          refine lv_goto (tgt := 28) hx hb d_La_law_438 (by decide) ?_
          exact ih (q + 1) wd n nT tk sl hz wl K cN sN P wo tf wf tl wk pgs td sv ss rg rv si zs os fs it tv nxm ldm (by omega) hT hfr hW hKK hM (by omega) (by omega) (by omega) _ _ hP hD hS ls (lv_sub hl [0, 1, 2, 3] rfl)
        · refine lv_aload_n hx hb d_La_law_213 rfl (lv_at hl 1 rfl) ?_
          refine lv_aload_n hx hb d_La_law_214 rfl (lv_at hl 3 rfl) ?_
          refine lv_iload_n hx hb d_La_law_215 rfl (lv_at hl 0 rfl) ?_
          refine lv_iconst (v := (nI 1)) hx hb d_La_law_216 (by decide) ?_
          refine lv_iadd hx hb d_La_law_217 ?_
          refine lv_topi (fun v_217 ev_217 => ?_)
          obtain rfl : v_217 = nI (5 * q + 2) := ev_217.trans (nI_add _ _)
          refine my_sld (k := (5 * q + 2)) hx hb hX hbl hbA hS (by omega) (by omega) d_La_law_218 ?_
          refine lv_aload_n hx hb d_La_law_219 rfl (lv_at hl 3 rfl) ?_
          refine lv_iload_n hx hb d_La_law_220 rfl (lv_at hl 0 rfl) ?_
          refine lv_iconst (v := (nI 2)) hx hb d_La_law_221 (by decide) ?_
          refine lv_iadd hx hb d_La_law_222 ?_
          refine lv_topi (fun v_222 ev_222 => ?_)
          obtain rfl : v_222 = nI (5 * q + 3) := ev_222.trans (nI_add _ _)
          refine my_sld (k := (5 * q + 3)) hx hb hX hbl hbA hS (by omega) (by omega) d_La_law_223 ?_
          refine lv_aload_n hx hb d_La_law_224 rfl (lv_at hl 3 rfl) ?_
          refine lv_iload_n hx hb d_La_law_225 rfl (lv_at hl 0 rfl) ?_
          refine lv_iconst (v := (nI 3)) hx hb d_La_law_226 (by decide) ?_
          refine lv_iadd hx hb d_La_law_227 ?_
          refine lv_topi (fun v_227 ev_227 => ?_)
          obtain rfl : v_227 = nI (5 * q + 4) := ev_227.trans (nI_add _ _)
          refine my_sld (k := (5 * q + 4)) hx hb hX hbl hbA hS (by omega) (by omega) d_La_law_228 ?_
          refine lv_i2l (v := (xs (5 * q + 4)).toInt64) hx hb d_La_law_229 rfl ?_
          refine lv_bipush (v := 32) hx hb d_La_law_230 (by decide) ?_
          refine lv_lshl (v := (xs (5 * q + 4)).toInt64 <<< ((32 : Int32).toInt64 &&& 63)) hx hb d_La_law_232 rfl ?_
          refine lv_aload_n hx hb d_La_law_233 rfl (lv_at hl 3 rfl) ?_
          refine lv_iload_n hx hb d_La_law_234 rfl (lv_at hl 0 rfl) ?_
          refine lv_iconst (v := (nI 4)) hx hb d_La_law_235 (by decide) ?_
          refine lv_iadd hx hb d_La_law_236 ?_
          refine lv_topi (fun v_236 ev_236 => ?_)
          obtain rfl : v_236 = nI (5 * q + 5) := ev_236.trans (nI_add _ _)
          refine my_sld (k := (5 * q + 5)) hx hb hX hbl hbA hS (by omega) (by omega) d_La_law_237 ?_
          refine lv_i2l (v := (xs (5 * q + 5)).toInt64) hx hb d_La_law_238 rfl ?_
          refine lv_ldc2 (own := "VersionedBlockLaw") (index := 21) (v := 4294967295) hx hb hown (hts _ (tb_of mw_3_18)) d_La_law_239 ?_
          refine lv_land hx hb d_La_law_242 ?_
          refine lv_lor hx hb d_La_law_243 ?_
          refine lv_topl (fun v_243 ev_243 => ?_)
          obtain rfl : v_243 = lw (xs (5 * q + 4)) (xs (5 * q + 5)) := ev_243.trans rfl
          have hPc := hP.sub (ws' := [(v, .inr (4, [.ref pa, .ref ta, .ref te, .ref wv, .int (nI 0), .int (nI tk), .int (nI sl), .int (nI hz)]))]) [0] rfl
          refine vp_callSi (run_of (va_runV (As := [.int (xs (5 * q + 2)), .int (xs (5 * q + 3)), .long (lw (xs (5 * q + 4)) (xs (5 * q + 5)))]) (rest := []) ⟨hx, hb, hml, hown, hts⟩ (c_Vb_in_no l D ka v pa ta te wv (nI tk) (nI sl) (nI hz) (xs (5 * q + 2)) (xs (5 * q + 3)) (lw (xs (5 * q + 4)) (xs (5 * q + 5))) hop0) ⟨callB_of 3 hts (gd_lw mw_1_130) rfl rfl rfl (hts _ (tb_of mw_1_1)) (hts _ (tb_of mw_1_127)) (by decide +kernel) ⟨Nat.le_of_ble_eq_true rfl, Nat.le_of_ble_eq_true rfl⟩, (hts _ (tb_of mw_1_128)), (hts _ (tb_of mw_1_129))⟩ ⟨pR_blind, va_recv hK hPc (ci := 4) (q0 := 0) rfl rfl, pR_pre hK hN hPc⟩ rfl rfl hl.1 rfl (lv_room (Nat.le_of_ble_eq_true rfl)) d_La_law_244 ⟨by show cN + 0 ≤ 295586; omega, by show sN + 0 ≤ 8215492; omega⟩)) (fun r_244 hr_244 => ?_)
          obtain rfl : r_244 = (-2) := hr_244
          refine lv_aload_n hx hb d_La_law_247 rfl (lv_at hl 2 rfl) ?_
          refine lv_aload_n hx hb d_La_law_248 rfl (lv_at hl 3 rfl) ?_
          refine lv_iload_n hx hb d_La_law_249 rfl (lv_at hl 0 rfl) ?_
          refine lv_iconst (v := (nI 1)) hx hb d_La_law_250 (by decide) ?_
          refine lv_iadd hx hb d_La_law_251 ?_
          refine lv_topi (fun v_251 ev_251 => ?_)
          obtain rfl : v_251 = nI (5 * q + 2) := ev_251.trans (nI_add _ _)
          refine my_sld (k := (5 * q + 2)) hx hb hX hbl hbA hS (by omega) (by omega) d_La_law_252 ?_
          refine lv_aload_n hx hb d_La_law_253 rfl (lv_at hl 3 rfl) ?_
          refine lv_iload_n hx hb d_La_law_254 rfl (lv_at hl 0 rfl) ?_
          refine lv_iconst (v := (nI 2)) hx hb d_La_law_255 (by decide) ?_
          refine lv_iadd hx hb d_La_law_256 ?_
          refine lv_topi (fun v_256 ev_256 => ?_)
          obtain rfl : v_256 = nI (5 * q + 3) := ev_256.trans (nI_add _ _)
          refine my_sld (k := (5 * q + 3)) hx hb hX hbl hbA hS (by omega) (by omega) d_La_law_257 ?_
          refine lv_aload_n hx hb d_La_law_258 rfl (lv_at hl 3 rfl) ?_
          refine lv_iload_n hx hb d_La_law_259 rfl (lv_at hl 0 rfl) ?_
          refine lv_iconst (v := (nI 3)) hx hb d_La_law_260 (by decide) ?_
          refine lv_iadd hx hb d_La_law_261 ?_
          refine lv_topi (fun v_261 ev_261 => ?_)
          obtain rfl : v_261 = nI (5 * q + 4) := ev_261.trans (nI_add _ _)
          refine my_sld (k := (5 * q + 4)) hx hb hX hbl hbA hS (by omega) (by omega) d_La_law_262 ?_
          refine lv_i2l (v := (xs (5 * q + 4)).toInt64) hx hb d_La_law_263 rfl ?_
          refine lv_bipush (v := 32) hx hb d_La_law_264 (by decide) ?_
          refine lv_lshl (v := (xs (5 * q + 4)).toInt64 <<< ((32 : Int32).toInt64 &&& 63)) hx hb d_La_law_266 rfl ?_
          refine lv_aload_n hx hb d_La_law_267 rfl (lv_at hl 3 rfl) ?_
          refine lv_iload_n hx hb d_La_law_268 rfl (lv_at hl 0 rfl) ?_
          refine lv_iconst (v := (nI 4)) hx hb d_La_law_269 (by decide) ?_
          refine lv_iadd hx hb d_La_law_270 ?_
          refine lv_topi (fun v_270 ev_270 => ?_)
          obtain rfl : v_270 = nI (5 * q + 5) := ev_270.trans (nI_add _ _)
          refine my_sld (k := (5 * q + 5)) hx hb hX hbl hbA hS (by omega) (by omega) d_La_law_271 ?_
          refine lv_i2l (v := (xs (5 * q + 5)).toInt64) hx hb d_La_law_272 rfl ?_
          refine lv_ldc2 (own := "VersionedBlockLaw") (index := 21) (v := 4294967295) hx hb hown (hts _ (tb_of mw_3_18)) d_La_law_273 ?_
          refine lv_land hx hb d_La_law_276 ?_
          refine lv_lor hx hb d_La_law_277 ?_
          refine lv_topl (fun v_277 ev_277 => ?_)
          obtain rfl : v_277 = lw (xs (5 * q + 4)) (xs (5 * q + 5)) := ev_277.trans rfl
          have hPc := hP.sub (ws' := [(mo, .inr (5, [.ref a1, .ref a2, .ref a3, .int (nI 0), .ref a4, .ref a5, .ref a6, .ref a7, .int (nI wl), .ref a8, .int nxm, .ref a9, .ref b1, .ref b2, .int ldm]))]) [6] rfl
          refine vp_callSi (run_of (va_runV (As := [.int (xs (5 * q + 2)), .int (xs (5 * q + 3)), .long (lw (xs (5 * q + 4)) (xs (5 * q + 5)))]) (rest := [.int (-2)]) ⟨hx, hb, hml, hown, hts⟩ (c_Mo_in_no l D ka mo a1 a2 a3 a4 a5 a6 a7 a8 a9 b1 b2 (nI wl) nxm ldm (xs (5 * q + 2)) (xs (5 * q + 3)) (lw (xs (5 * q + 4)) (xs (5 * q + 5))) hop0) ⟨callB_of 3 hts (gd_lw mw_2_214) rfl rfl rfl (hts _ (tb_of mw_1_4)) (hts _ (tb_of mw_2_211)) (by decide +kernel) ⟨Nat.le_of_ble_eq_true rfl, Nat.le_of_ble_eq_true rfl⟩, (hts _ (tb_of mw_2_212)), (hts _ (tb_of mw_2_213))⟩ ⟨pR_blind, va_recv hK hPc (ci := 5) (q0 := 0) rfl rfl, pR_pre hK hN hPc⟩ rfl rfl hl.1 rfl (lv_room (Nat.le_of_ble_eq_true rfl)) d_La_law_278 ⟨by show cN + 0 ≤ 295586; omega, by show sN + 0 ≤ 8215492; omega⟩)) (fun r_278 hr_278 => ?_)
          obtain rfl : r_278 = (-2) := hr_278
          refine lv_icmp_eq (tgt := 435) hx hb d_La_law_281 (by decide) (fun c_281 => ?_) (fun c_281 => absurd rfl c_281)
          refine lv_iinc (v := nI (5 * (q + 1) + 1)) (lv' := [(3, .int (nI (5 * (q + 1) + 1))), (1, .ref v), (2, .ref mo), (0, .ref b)]) hx hb d_La_law_435 hl (k := 0) rfl (law_i5 q) (by decide) rfl (fun ls hl => ?_)
          refine lv_goto (tgt := 28) hx hb d_La_law_438 (by decide) ?_
          exact ih (q + 1) wd 0 nT tk sl hz wl K cN sN P wo tf wf tl wk pgs td sv ss rg rv si zs os fs it tv nxm ldm (by omega) hT hfr hW hKK hM (by omega) (by omega) (by omega) _ _ hP hD hS ls (lv_sub hl [0, 1, 2, 3] rfl)
        · refine lv_aload_n hx hb d_La_law_213 rfl (lv_at hl 1 rfl) ?_
          refine lv_aload_n hx hb d_La_law_214 rfl (lv_at hl 3 rfl) ?_
          refine lv_iload_n hx hb d_La_law_215 rfl (lv_at hl 0 rfl) ?_
          refine lv_iconst (v := (nI 1)) hx hb d_La_law_216 (by decide) ?_
          refine lv_iadd hx hb d_La_law_217 ?_
          refine lv_topi (fun v_217 ev_217 => ?_)
          obtain rfl : v_217 = nI (5 * q + 2) := ev_217.trans (nI_add _ _)
          refine my_sld (k := (5 * q + 2)) hx hb hX hbl hbA hS (by omega) (by omega) d_La_law_218 ?_
          refine lv_topi (fun v_218 ev_218 => ?_)
          obtain rfl : v_218 = nI op := ev_218.trans hope
          refine lv_aload_n hx hb d_La_law_219 rfl (lv_at hl 3 rfl) ?_
          refine lv_iload_n hx hb d_La_law_220 rfl (lv_at hl 0 rfl) ?_
          refine lv_iconst (v := (nI 2)) hx hb d_La_law_221 (by decide) ?_
          refine lv_iadd hx hb d_La_law_222 ?_
          refine lv_topi (fun v_222 ev_222 => ?_)
          obtain rfl : v_222 = nI (5 * q + 3) := ev_222.trans (nI_add _ _)
          refine my_sld (k := (5 * q + 3)) hx hb hX hbl hbA hS (by omega) (by omega) d_La_law_223 ?_
          refine lv_aload_n hx hb d_La_law_224 rfl (lv_at hl 3 rfl) ?_
          refine lv_iload_n hx hb d_La_law_225 rfl (lv_at hl 0 rfl) ?_
          refine lv_iconst (v := (nI 3)) hx hb d_La_law_226 (by decide) ?_
          refine lv_iadd hx hb d_La_law_227 ?_
          refine lv_topi (fun v_227 ev_227 => ?_)
          obtain rfl : v_227 = nI (5 * q + 4) := ev_227.trans (nI_add _ _)
          refine my_sld (k := (5 * q + 4)) hx hb hX hbl hbA hS (by omega) (by omega) d_La_law_228 ?_
          refine lv_i2l (v := (xs (5 * q + 4)).toInt64) hx hb d_La_law_229 rfl ?_
          refine lv_bipush (v := 32) hx hb d_La_law_230 (by decide) ?_
          refine lv_lshl (v := (xs (5 * q + 4)).toInt64 <<< ((32 : Int32).toInt64 &&& 63)) hx hb d_La_law_232 rfl ?_
          refine lv_aload_n hx hb d_La_law_233 rfl (lv_at hl 3 rfl) ?_
          refine lv_iload_n hx hb d_La_law_234 rfl (lv_at hl 0 rfl) ?_
          refine lv_iconst (v := (nI 4)) hx hb d_La_law_235 (by decide) ?_
          refine lv_iadd hx hb d_La_law_236 ?_
          refine lv_topi (fun v_236 ev_236 => ?_)
          obtain rfl : v_236 = nI (5 * q + 5) := ev_236.trans (nI_add _ _)
          refine my_sld (k := (5 * q + 5)) hx hb hX hbl hbA hS (by omega) (by omega) d_La_law_237 ?_
          refine lv_i2l (v := (xs (5 * q + 5)).toInt64) hx hb d_La_law_238 rfl ?_
          refine lv_ldc2 (own := "VersionedBlockLaw") (index := 21) (v := 4294967295) hx hb hown (hts _ (tb_of mw_3_18)) d_La_law_239 ?_
          refine lv_land hx hb d_La_law_242 ?_
          refine lv_lor hx hb d_La_law_243 ?_
          refine lv_topl (fun v_243 ev_243 => ?_)
          obtain rfl : v_243 = lw (xs (5 * q + 4)) (xs (5 * q + 5)) := ev_243.trans rfl
          have hPc := hP.part (cx := [(v, .inr (4, [.ref pa, .ref ta, .ref te, .ref wv, .int (nI (n9 + 1)), .int (nI tk), .int (nI sl), .int (nI hz)])), (pa, .inl ((ka 0), 256, .inr (.inl P))), (ta, .inl ((ka 3), 64, .inr (.inr (.inr (.inr tf))))), (te, .inl ((ka 4), m, .inr (.inr (.inr (.inr wf))))), (wv, .inr (2, [.ref wd, .int (nI wl)])), (wd, .inl ((ka 0), K, .inr (.inl wo)))]) [0, 1, 2, 3, 4, 5] rfl
          refine vp_callSi (run_of (va_runV (As := [.int (nI op), .int (xs (5 * q + 3)), .long (lw (xs (5 * q + 4)) (xs (5 * q + 5)))]) (rest := []) ⟨hx, hb, hml, hown, hts⟩ (c_A_infull l D ka v pa ta te wv wd n9 nT m tk sl hz wl K P wo tf wf tl pgs td wk op (xs (5 * q + 3)) (lw (xs (5 * q + 4)) (xs (5 * q + 5))) hT hfr hop hl9) ⟨callB_of 3 hts (gd_lw mw_1_130) rfl rfl rfl (hts _ (tb_of mw_1_1)) (hts _ (tb_of mw_1_127)) (by decide +kernel) ⟨Nat.le_of_ble_eq_true rfl, Nat.le_of_ble_eq_true rfl⟩, (hts _ (tb_of mw_1_128)), (hts _ (tb_of mw_1_129))⟩ ⟨pR_blind, va_recv hK hPc (ci := 4) (q0 := 0) rfl rfl, pR_pre hK hN hPc⟩ rfl rfl hl.1 rfl (lv_room (Nat.le_of_ble_eq_true rfl)) d_La_law_244 ⟨by show cN + 0 ≤ 295586; omega, by show sN + 0 ≤ 8215492; omega⟩)) (fun r_244 hr_244 => ?_)
          obtain rfl : r_244 = (-3) := hr_244
          refine lv_aload_n hx hb d_La_law_247 rfl (lv_at hl 2 rfl) ?_
          refine lv_aload_n hx hb d_La_law_248 rfl (lv_at hl 3 rfl) ?_
          refine lv_iload_n hx hb d_La_law_249 rfl (lv_at hl 0 rfl) ?_
          refine lv_iconst (v := (nI 1)) hx hb d_La_law_250 (by decide) ?_
          refine lv_iadd hx hb d_La_law_251 ?_
          refine lv_topi (fun v_251 ev_251 => ?_)
          obtain rfl : v_251 = nI (5 * q + 2) := ev_251.trans (nI_add _ _)
          refine my_sld (k := (5 * q + 2)) hx hb hX hbl hbA hS (by omega) (by omega) d_La_law_252 ?_
          refine lv_topi (fun v_252 ev_252 => ?_)
          obtain rfl : v_252 = nI op := ev_252.trans hope
          refine lv_aload_n hx hb d_La_law_253 rfl (lv_at hl 3 rfl) ?_
          refine lv_iload_n hx hb d_La_law_254 rfl (lv_at hl 0 rfl) ?_
          refine lv_iconst (v := (nI 2)) hx hb d_La_law_255 (by decide) ?_
          refine lv_iadd hx hb d_La_law_256 ?_
          refine lv_topi (fun v_256 ev_256 => ?_)
          obtain rfl : v_256 = nI (5 * q + 3) := ev_256.trans (nI_add _ _)
          refine my_sld (k := (5 * q + 3)) hx hb hX hbl hbA hS (by omega) (by omega) d_La_law_257 ?_
          refine lv_aload_n hx hb d_La_law_258 rfl (lv_at hl 3 rfl) ?_
          refine lv_iload_n hx hb d_La_law_259 rfl (lv_at hl 0 rfl) ?_
          refine lv_iconst (v := (nI 3)) hx hb d_La_law_260 (by decide) ?_
          refine lv_iadd hx hb d_La_law_261 ?_
          refine lv_topi (fun v_261 ev_261 => ?_)
          obtain rfl : v_261 = nI (5 * q + 4) := ev_261.trans (nI_add _ _)
          refine my_sld (k := (5 * q + 4)) hx hb hX hbl hbA hS (by omega) (by omega) d_La_law_262 ?_
          refine lv_i2l (v := (xs (5 * q + 4)).toInt64) hx hb d_La_law_263 rfl ?_
          refine lv_bipush (v := 32) hx hb d_La_law_264 (by decide) ?_
          refine lv_lshl (v := (xs (5 * q + 4)).toInt64 <<< ((32 : Int32).toInt64 &&& 63)) hx hb d_La_law_266 rfl ?_
          refine lv_aload_n hx hb d_La_law_267 rfl (lv_at hl 3 rfl) ?_
          refine lv_iload_n hx hb d_La_law_268 rfl (lv_at hl 0 rfl) ?_
          refine lv_iconst (v := (nI 4)) hx hb d_La_law_269 (by decide) ?_
          refine lv_iadd hx hb d_La_law_270 ?_
          refine lv_topi (fun v_270 ev_270 => ?_)
          obtain rfl : v_270 = nI (5 * q + 5) := ev_270.trans (nI_add _ _)
          refine my_sld (k := (5 * q + 5)) hx hb hX hbl hbA hS (by omega) (by omega) d_La_law_271 ?_
          refine lv_i2l (v := (xs (5 * q + 5)).toInt64) hx hb d_La_law_272 rfl ?_
          refine lv_ldc2 (own := "VersionedBlockLaw") (index := 21) (v := 4294967295) hx hb hown (hts _ (tb_of mw_3_18)) d_La_law_273 ?_
          refine lv_land hx hb d_La_law_276 ?_
          refine lv_lor hx hb d_La_law_277 ?_
          refine lv_topl (fun v_277 ev_277 => ?_)
          obtain rfl : v_277 = lw (xs (5 * q + 4)) (xs (5 * q + 5)) := ev_277.trans rfl
          have hPc := hP.sub (ws' := [(mo, .inr (5, [.ref a1, .ref a2, .ref a3, .int (nI (n9 + 1)), .ref a4, .ref a5, .ref a6, .ref a7, .int (nI wl), .ref a8, .int nxm, .ref a9, .ref b1, .ref b2, .int ldm])), (a4, .inl ((ka 1), 64, .inl zs))]) [6, 10] rfl
          refine vp_callSi (run_of (va_runV (As := [.int (nI op), .int (xs (5 * q + 3)), .long (lw (xs (5 * q + 4)) (xs (5 * q + 5)))]) (rest := [.int (-3)]) ⟨hx, hb, hml, hown, hts⟩ (c_Mo_in_full l D ka mo a1 a2 a3 a4 a5 a6 a7 a8 a9 b1 b2 n9 op (nI wl) nxm ldm zs (xs (5 * q + 3)) (lw (xs (5 * q + 4)) (xs (5 * q + 5))) (by omega) hop ((hM n9 (by omega)).1.trans (by rw [hl9]))) ⟨callB_of 3 hts (gd_lw mw_2_214) rfl rfl rfl (hts _ (tb_of mw_1_4)) (hts _ (tb_of mw_2_211)) (by decide +kernel) ⟨Nat.le_of_ble_eq_true rfl, Nat.le_of_ble_eq_true rfl⟩, (hts _ (tb_of mw_2_212)), (hts _ (tb_of mw_2_213))⟩ ⟨pR_blind, va_recv hK hPc (ci := 5) (q0 := 0) rfl rfl, pR_pre hK hN hPc⟩ rfl rfl hl.1 rfl (lv_room (Nat.le_of_ble_eq_true rfl)) d_La_law_278 ⟨by show cN + 0 ≤ 295586; omega, by show sN + 0 ≤ 8215492; omega⟩)) (fun r_278 hr_278 => ?_)
          obtain rfl : r_278 = (-3) := hr_278
          refine lv_icmp_eq (tgt := 435) hx hb d_La_law_281 (by decide) (fun c_281 => ?_) (fun c_281 => absurd rfl c_281)
          refine lv_iinc (v := nI (5 * (q + 1) + 1)) (lv' := [(3, .int (nI (5 * (q + 1) + 1))), (1, .ref v), (2, .ref mo), (0, .ref b)]) hx hb d_La_law_435 hl (k := 0) rfl (law_i5 q) (by decide) rfl (fun ls hl => ?_)
          refine lv_goto (tgt := 28) hx hb d_La_law_438 (by decide) ?_
          exact ih (q + 1) wd (n9 + 1) nT tk sl hz wl K cN sN P wo tf wf tl wk pgs td sv ss rg rv si zs os fs it tv nxm ldm (by omega) hT hfr hW hKK hM (by omega) (by omega) (by omega) _ _ hP hD hS ls (lv_sub hl [0, 1, 2, 3] rfl)
        · refine lv_aload_n hx hb d_La_law_213 rfl (lv_at hl 1 rfl) ?_
          refine lv_aload_n hx hb d_La_law_214 rfl (lv_at hl 3 rfl) ?_
          refine lv_iload_n hx hb d_La_law_215 rfl (lv_at hl 0 rfl) ?_
          refine lv_iconst (v := (nI 1)) hx hb d_La_law_216 (by decide) ?_
          refine lv_iadd hx hb d_La_law_217 ?_
          refine lv_topi (fun v_217 ev_217 => ?_)
          obtain rfl : v_217 = nI (5 * q + 2) := ev_217.trans (nI_add _ _)
          refine my_sld (k := (5 * q + 2)) hx hb hX hbl hbA hS (by omega) (by omega) d_La_law_218 ?_
          refine lv_topi (fun v_218 ev_218 => ?_)
          obtain rfl : v_218 = nI op := ev_218.trans hope
          refine lv_aload_n hx hb d_La_law_219 rfl (lv_at hl 3 rfl) ?_
          refine lv_iload_n hx hb d_La_law_220 rfl (lv_at hl 0 rfl) ?_
          refine lv_iconst (v := (nI 2)) hx hb d_La_law_221 (by decide) ?_
          refine lv_iadd hx hb d_La_law_222 ?_
          refine lv_topi (fun v_222 ev_222 => ?_)
          obtain rfl : v_222 = nI (5 * q + 3) := ev_222.trans (nI_add _ _)
          refine my_sld (k := (5 * q + 3)) hx hb hX hbl hbA hS (by omega) (by omega) d_La_law_223 ?_
          refine lv_aload_n hx hb d_La_law_224 rfl (lv_at hl 3 rfl) ?_
          refine lv_iload_n hx hb d_La_law_225 rfl (lv_at hl 0 rfl) ?_
          refine lv_iconst (v := (nI 3)) hx hb d_La_law_226 (by decide) ?_
          refine lv_iadd hx hb d_La_law_227 ?_
          refine lv_topi (fun v_227 ev_227 => ?_)
          obtain rfl : v_227 = nI (5 * q + 4) := ev_227.trans (nI_add _ _)
          refine my_sld (k := (5 * q + 4)) hx hb hX hbl hbA hS (by omega) (by omega) d_La_law_228 ?_
          refine lv_i2l (v := (xs (5 * q + 4)).toInt64) hx hb d_La_law_229 rfl ?_
          refine lv_bipush (v := 32) hx hb d_La_law_230 (by decide) ?_
          refine lv_lshl (v := (xs (5 * q + 4)).toInt64 <<< ((32 : Int32).toInt64 &&& 63)) hx hb d_La_law_232 rfl ?_
          refine lv_aload_n hx hb d_La_law_233 rfl (lv_at hl 3 rfl) ?_
          refine lv_iload_n hx hb d_La_law_234 rfl (lv_at hl 0 rfl) ?_
          refine lv_iconst (v := (nI 4)) hx hb d_La_law_235 (by decide) ?_
          refine lv_iadd hx hb d_La_law_236 ?_
          refine lv_topi (fun v_236 ev_236 => ?_)
          obtain rfl : v_236 = nI (5 * q + 5) := ev_236.trans (nI_add _ _)
          refine my_sld (k := (5 * q + 5)) hx hb hX hbl hbA hS (by omega) (by omega) d_La_law_237 ?_
          refine lv_i2l (v := (xs (5 * q + 5)).toInt64) hx hb d_La_law_238 rfl ?_
          refine lv_ldc2 (own := "VersionedBlockLaw") (index := 21) (v := 4294967295) hx hb hown (hts _ (tb_of mw_3_18)) d_La_law_239 ?_
          refine lv_land hx hb d_La_law_242 ?_
          refine lv_lor hx hb d_La_law_243 ?_
          refine lv_topl (fun v_243 ev_243 => ?_)
          obtain rfl : v_243 = lw (xs (5 * q + 4)) (xs (5 * q + 5)) := ev_243.trans rfl
          have hPc := hP.part (cx := [(v, .inr (4, [.ref pa, .ref ta, .ref te, .ref wv, .int (nI (n9 + 1)), .int (nI tk), .int (nI sl), .int (nI hz)])), (pa, .inl ((ka 0), 256, .inr (.inl P))), (ta, .inl ((ka 3), 64, .inr (.inr (.inr (.inr tf))))), (te, .inl ((ka 4), m, .inr (.inr (.inr (.inr wf))))), (wv, .inr (2, [.ref wd, .int (nI wl)])), (wd, .inl ((ka 0), K, .inr (.inl wo)))]) [0, 1, 2, 3, 4, 5] rfl
          have hDc := hD.part (cx := [(v, .inr (4, [.ref pa, .ref ta, .ref te, .ref wv, .int (nI (n9 + 1)), .int (nI tk), .int (nI sl), .int (nI hz)])), (pa, .inl ((ka 0), 256, .inr (.inl P))), (ta, .inl ((ka 3), 64, .inr (.inr (.inr (.inr tf))))), (te, .inl ((ka 4), m, .inr (.inr (.inr (.inr wf))))), (wv, .inr (2, [.ref wd, .int (nI wl)])), (wd, .inl ((ka 0), K, .inr (.inl wo)))]) [0, 1, 2, 3, 4, 5] (by decide) rfl
          have hFc := va_freeP (cx := [(v, .inr (4, [.ref pa, .ref ta, .ref te, .ref wv, .int (nI (n9 + 1)), .int (nI tk), .int (nI sl), .int (nI hz)])), (pa, .inl ((ka 0), 256, .inr (.inl P))), (ta, .inl ((ka 3), 64, .inr (.inr (.inr (.inr tf))))), (te, .inl ((ka 4), m, .inr (.inr (.inr (.inr wf))))), (wv, .inr (2, [.ref wd, .int (nI wl)])), (wd, .inl ((ka 0), K, .inr (.inl wo)))]) hD hS hA [0, 1, 2, 3, 4, 5] rfl
          refine va_calli (va_runV (As := [.int (nI op), .int (xs (5 * q + 3)), .long (lw (xs (5 * q + 4)) (xs (5 * q + 5)))]) (rest := []) ⟨hx, hb, hml, hown, hts⟩ (c_A_in l D ka H.size v pa ta te wv wd n9 nT m tk sl hz wl K P wo tf wf tl pgs td wk op (xs (5 * q + 3)) (lw (xs (5 * q + 4)) (xs (5 * q + 5))) hT hfr hop hl9) ⟨callB_of 3 hts (gd_lw mw_1_130) rfl rfl rfl (hts _ (tb_of mw_1_1)) (hts _ (tb_of mw_1_127)) (by decide +kernel) ⟨Nat.le_of_ble_eq_true rfl, Nat.le_of_ble_eq_true rfl⟩, (hts _ (tb_of mw_1_128)), (hts _ (tb_of mw_1_129))⟩ ⟨pW_blind, va_recv hK hPc (ci := 4) (q0 := 0) rfl rfl, pW_pre hK hN hPc hDc⟩ rfl rfl hl.1 rfl (lv_room (Nat.le_of_ble_eq_true rfl)) d_La_law_244 ⟨by show cN + 0 ≤ 295586; omega, by show sN + 0 ≤ 8215492; omega⟩) hS (fun q _ h => hFc q h) hFc (fun r_244 u9 t9 H1 locs ht hvm hr_244 hB hz1 hk1 hS => ?_)
          obtain ⟨tl2, hrel_244, hP1, hD1⟩ := hB
          rw [ht] at hP1
          obtain ⟨hP, hD⟩ := va_joinP (wr := [(mo, .inr (5, [.ref a1, .ref a2, .ref a3, .int (nI (n9 + 1)), .ref a4, .ref a5, .ref a6, .ref a7, .int (nI wl), .ref a8, .int nxm, .ref a9, .ref b1, .ref b2, .int ldm])), (a1, .inl ((ka 0), 256, .inr (.inl P))), (a2, .inl ((ka 0), 256, .inr (.inl sv))), (a3, .inl ((ka 2), 256, .inl si)), (a4, .inl ((ka 1), 64, .inl zs)), (a5, .inl ((ka 5), 2048, .inl os)), (a6, .inl ((ka 1), 2048, .inl fs)), (a7, .inl ((ka 0), 2048, .inr (.inl ss))), (a8, .inl ((ka 0), 8, .inr (.inl rg))), (a9, .inl ((ka 2), 64, .inl it)), (b1, .inl ((ka 1), 256, .inl tv)), (b2, .inl ((ka 0), 64, .inr (.inl rv)))]) (rx := [(v, .inr (4, [.ref pa, .ref ta, .ref te, .ref wv, .int (nI (n9 + 1)), .int (nI tk), .int (nI sl), .int (nI hz)])), (pa, .inl ((ka 0), 256, .inr (.inl P))), (ta, .inl ((ka 3), 64, .inr (.inr (.inr (.inr tf))))), (te, .inl ((ka 4), m, .inr (.inr (.inr (.inr wf))))), (wv, .inr (2, [.ref wd, .int (nI wl)])), (wd, .inl ((ka 0), K, .inr (.inl wo)))]) (pl1 := tl2) hP hD [0, 1, 2, 3, 4, 5] [6, 7, 8, 9, 10, 11, 12, 13, 14, 15, 16, 17] rfl rfl (by decide) (by decide) hk1 hFc hP1 hD1
          generalize H1 = H at hP hS ⊢
          have hP : va_P D classes ([(mo, .inr (5, [.ref a1, .ref a2, .ref a3, .int (nI (n9 + 1)), .ref a4, .ref a5, .ref a6, .ref a7, .int (nI wl), .ref a8, .int nxm, .ref a9, .ref b1, .ref b2, .int ldm])), (a1, .inl ((ka 0), 256, .inr (.inl P))), (a2, .inl ((ka 0), 256, .inr (.inl sv))), (a3, .inl ((ka 2), 256, .inl si)), (a4, .inl ((ka 1), 64, .inl zs)), (a5, .inl ((ka 5), 2048, .inl os)), (a6, .inl ((ka 1), 2048, .inl fs)), (a7, .inl ((ka 0), 2048, .inr (.inl ss))), (a8, .inl ((ka 0), 8, .inr (.inl rg))), (a9, .inl ((ka 2), 64, .inl it)), (b1, .inl ((ka 1), 256, .inl tv)), (b2, .inl ((ka 0), 64, .inr (.inl rv))), (v, .inr (4, [.ref pa, .ref ta, .ref te, .ref wv, .int (nI (n9 + 1)), .int (nI tk), .int (nI sl), .int (nI hz)])), (pa, .inl ((ka 0), 256, .inr (.inl P))), (ta, .inl ((ka 3), 64, .inr (.inr (.inr (.inr tf))))), (te, .inl ((ka 4), m, .inr (.inr (.inr (.inr wf))))), (wv, .inr (2, [.ref wd, .int (nI wl)])), (wd, .inl ((ka 0), K, .inr (.inl wo)))] ++ tl2) H := hP
          have hD : va_D A ([(mo, .inr (5, [.ref a1, .ref a2, .ref a3, .int (nI (n9 + 1)), .ref a4, .ref a5, .ref a6, .ref a7, .int (nI wl), .ref a8, .int nxm, .ref a9, .ref b1, .ref b2, .int ldm])), (a1, .inl ((ka 0), 256, .inr (.inl P))), (a2, .inl ((ka 0), 256, .inr (.inl sv))), (a3, .inl ((ka 2), 256, .inl si)), (a4, .inl ((ka 1), 64, .inl zs)), (a5, .inl ((ka 5), 2048, .inl os)), (a6, .inl ((ka 1), 2048, .inl fs)), (a7, .inl ((ka 0), 2048, .inr (.inl ss))), (a8, .inl ((ka 0), 8, .inr (.inl rg))), (a9, .inl ((ka 2), 64, .inl it)), (b1, .inl ((ka 1), 256, .inl tv)), (b2, .inl ((ka 0), 64, .inr (.inl rv))), (v, .inr (4, [.ref pa, .ref ta, .ref te, .ref wv, .int (nI (n9 + 1)), .int (nI tk), .int (nI sl), .int (nI hz)])), (pa, .inl ((ka 0), 256, .inr (.inl P))), (ta, .inl ((ka 3), 64, .inr (.inr (.inr (.inr tf))))), (te, .inl ((ka 4), m, .inr (.inr (.inr (.inr wf))))), (wv, .inr (2, [.ref wd, .int (nI wl)])), (wd, .inl ((ka 0), K, .inr (.inl wo)))] ++ tl2) := hD
          obtain rfl : r_244 = (nI ((pgs n9).length + 1)) := hr_244
          refine lv_aload_n hx hb d_La_law_247 rfl (lv_at hl 2 rfl) ?_
          refine lv_aload_n hx hb d_La_law_248 rfl (lv_at hl 3 rfl) ?_
          refine lv_iload_n hx hb d_La_law_249 rfl (lv_at hl 0 rfl) ?_
          refine lv_iconst (v := (nI 1)) hx hb d_La_law_250 (by decide) ?_
          refine lv_iadd hx hb d_La_law_251 ?_
          refine lv_topi (fun v_251 ev_251 => ?_)
          obtain rfl : v_251 = nI (5 * q + 2) := ev_251.trans (nI_add _ _)
          refine my_sld (k := (5 * q + 2)) hx hb hX hbl hbA hS (by omega) (by omega) d_La_law_252 ?_
          refine lv_topi (fun v_252 ev_252 => ?_)
          obtain rfl : v_252 = nI op := ev_252.trans hope
          refine lv_aload_n hx hb d_La_law_253 rfl (lv_at hl 3 rfl) ?_
          refine lv_iload_n hx hb d_La_law_254 rfl (lv_at hl 0 rfl) ?_
          refine lv_iconst (v := (nI 2)) hx hb d_La_law_255 (by decide) ?_
          refine lv_iadd hx hb d_La_law_256 ?_
          refine lv_topi (fun v_256 ev_256 => ?_)
          obtain rfl : v_256 = nI (5 * q + 3) := ev_256.trans (nI_add _ _)
          refine my_sld (k := (5 * q + 3)) hx hb hX hbl hbA hS (by omega) (by omega) d_La_law_257 ?_
          refine lv_aload_n hx hb d_La_law_258 rfl (lv_at hl 3 rfl) ?_
          refine lv_iload_n hx hb d_La_law_259 rfl (lv_at hl 0 rfl) ?_
          refine lv_iconst (v := (nI 3)) hx hb d_La_law_260 (by decide) ?_
          refine lv_iadd hx hb d_La_law_261 ?_
          refine lv_topi (fun v_261 ev_261 => ?_)
          obtain rfl : v_261 = nI (5 * q + 4) := ev_261.trans (nI_add _ _)
          refine my_sld (k := (5 * q + 4)) hx hb hX hbl hbA hS (by omega) (by omega) d_La_law_262 ?_
          refine lv_i2l (v := (xs (5 * q + 4)).toInt64) hx hb d_La_law_263 rfl ?_
          refine lv_bipush (v := 32) hx hb d_La_law_264 (by decide) ?_
          refine lv_lshl (v := (xs (5 * q + 4)).toInt64 <<< ((32 : Int32).toInt64 &&& 63)) hx hb d_La_law_266 rfl ?_
          refine lv_aload_n hx hb d_La_law_267 rfl (lv_at hl 3 rfl) ?_
          refine lv_iload_n hx hb d_La_law_268 rfl (lv_at hl 0 rfl) ?_
          refine lv_iconst (v := (nI 4)) hx hb d_La_law_269 (by decide) ?_
          refine lv_iadd hx hb d_La_law_270 ?_
          refine lv_topi (fun v_270 ev_270 => ?_)
          obtain rfl : v_270 = nI (5 * q + 5) := ev_270.trans (nI_add _ _)
          refine my_sld (k := (5 * q + 5)) hx hb hX hbl hbA hS (by omega) (by omega) d_La_law_271 ?_
          refine lv_i2l (v := (xs (5 * q + 5)).toInt64) hx hb d_La_law_272 rfl ?_
          refine lv_ldc2 (own := "VersionedBlockLaw") (index := 21) (v := 4294967295) hx hb hown (hts _ (tb_of mw_3_18)) d_La_law_273 ?_
          refine lv_land hx hb d_La_law_276 ?_
          refine lv_lor hx hb d_La_law_277 ?_
          refine lv_topl (fun v_277 ev_277 => ?_)
          obtain rfl : v_277 = lw (xs (5 * q + 4)) (xs (5 * q + 5)) := ev_277.trans rfl
          have hPc := hP.sub (ws' := [(mo, .inr (5, [.ref a1, .ref a2, .ref a3, .int (nI (n9 + 1)), .ref a4, .ref a5, .ref a6, .ref a7, .int (nI wl), .ref a8, .int nxm, .ref a9, .ref b1, .ref b2, .int ldm])), (a4, .inl ((ka 1), 64, .inl zs)), (a5, .inl ((ka 5), 2048, .inl os)), (a6, .inl ((ka 1), 2048, .inl fs)), (a7, .inl ((ka 0), 2048, .inr (.inl ss))), (a9, .inl ((ka 2), 64, .inl it))]) [0, 4, 5, 6, 7, 9] rfl
          have hDc := hD.sub (ws' := [(mo, .inr (5, [.ref a1, .ref a2, .ref a3, .int (nI (n9 + 1)), .ref a4, .ref a5, .ref a6, .ref a7, .int (nI wl), .ref a8, .int nxm, .ref a9, .ref b1, .ref b2, .int ldm])), (a4, .inl ((ka 1), 64, .inl zs)), (a5, .inl ((ka 5), 2048, .inl os)), (a6, .inl ((ka 1), 2048, .inl fs)), (a7, .inl ((ka 0), 2048, .inr (.inl ss))), (a9, .inl ((ka 2), 64, .inl it))]) [0, 4, 5, 6, 7, 9] (by decide) rfl
          have hFc := va_free (wc := [(mo, .inr (5, [.ref a1, .ref a2, .ref a3, .int (nI (n9 + 1)), .ref a4, .ref a5, .ref a6, .ref a7, .int (nI wl), .ref a8, .int nxm, .ref a9, .ref b1, .ref b2, .int ldm])), (a4, .inl ((ka 1), 64, .inl zs)), (a5, .inl ((ka 5), 2048, .inl os)), (a6, .inl ((ka 1), 2048, .inl fs)), (a7, .inl ((ka 0), 2048, .inr (.inl ss))), (a9, .inl ((ka 2), 64, .inl it))]) hD hS hA [0, 4, 5, 6, 7, 9] rfl
          refine va_calli (va_runV (As := [.int (nI op), .int (xs (5 * q + 3)), .long (lw (xs (5 * q + 4)) (xs (5 * q + 5)))]) (rest := [.int (nI ((pgs n9).length + 1))]) ⟨hx, hb, hml, hown, hts⟩ (c_Mo_in l D ka H.size mo a1 a2 a3 a4 a5 a6 a7 a8 a9 b1 b2 n9 op ((pgs n9).length) (nI wl) nxm ldm zs os fs it ss (xs (5 * q + 3)) (lw (xs (5 * q + 4)) (xs (5 * q + 5))) (by omega) hop ((hM n9 (by omega)).1) hl9) ⟨callB_of 3 hts (gd_lw mw_2_214) rfl rfl rfl (hts _ (tb_of mw_1_4)) (hts _ (tb_of mw_2_211)) (by decide +kernel) ⟨Nat.le_of_ble_eq_true rfl, Nat.le_of_ble_eq_true rfl⟩, (hts _ (tb_of mw_2_212)), (hts _ (tb_of mw_2_213))⟩ ⟨pW_blind, va_recv hK hPc (ci := 5) (q0 := 0) rfl rfl, pW_pre hK hN hPc hDc⟩ rfl rfl hl.1 rfl (lv_room (Nat.le_of_ble_eq_true rfl)) d_La_law_278 ⟨by show cN + 0 ≤ 295586; omega, by show sN + 0 ≤ 8215492; omega⟩) hS (fun q _ h => hFc q h) hFc (fun r_278 u9 t9 H1 locs ht hvm hr_278 hB hz1 hk1 hS => ?_)
          obtain ⟨hrel_278, hP1, hD1⟩ := hB
          rw [ht] at hP1
          obtain ⟨hP, hD⟩ := va_joinQ (wr := [(a1, .inl ((ka 0), 256, .inr (.inl P))), (a2, .inl ((ka 0), 256, .inr (.inl sv))), (a3, .inl ((ka 2), 256, .inl si)), (a8, .inl ((ka 0), 8, .inr (.inl rg))), (b1, .inl ((ka 1), 256, .inl tv)), (b2, .inl ((ka 0), 64, .inr (.inl rv))), (v, .inr (4, [.ref pa, .ref ta, .ref te, .ref wv, .int (nI (n9 + 1)), .int (nI tk), .int (nI sl), .int (nI hz)])), (pa, .inl ((ka 0), 256, .inr (.inl P))), (ta, .inl ((ka 3), 64, .inr (.inr (.inr (.inr tf))))), (te, .inl ((ka 4), m, .inr (.inr (.inr (.inr wf))))), (wv, .inr (2, [.ref wd, .int (nI wl)])), (wd, .inl ((ka 0), K, .inr (.inl wo)))]) (w1 := [(mo, .inr (5, [.ref a1, .ref a2, .ref a3, .int (nI (n9 + 1)), .ref a4, .ref a5, .ref a6, .ref a7, .int (nI wl), .ref a8, .int nxm, .ref a9, .ref b1, .ref b2, .int ldm])), (a4, .inl ((ka 1), 64, .inl (upd zs n9 (nI (((pgs n9).length) + 1))))), (a5, .inl ((ka 5), 2048, .inl (upd os (32 * n9 + ((pgs n9).length)) (nI op)))), (a6, .inl ((ka 1), 2048, .inl (upd fs (32 * n9 + ((pgs n9).length)) (nI (sp_rg (xs (5 * q + 3)).toInt64))))), (a7, .inl ((ka 0), 2048, .inr (.inl (vp_updL ss (32 * n9 + ((pgs n9).length)) (lw (xs (5 * q + 4)) (xs (5 * q + 5))))))), (a9, .inl ((ka 2), 64, .inl (upd it n9 0)))]) hP hD [0, 4, 5, 6, 7, 9] [1, 2, 3, 8, 10, 11, 12, 13, 14, 15, 16, 17] rfl rfl (by decide) (by decide) hk1 hFc hP1 hD1
          generalize H1 = H at hP hS ⊢
          have hP : va_P D classes ([(a1, .inl ((ka 0), 256, .inr (.inl P))), (a2, .inl ((ka 0), 256, .inr (.inl sv))), (a3, .inl ((ka 2), 256, .inl si)), (a8, .inl ((ka 0), 8, .inr (.inl rg))), (b1, .inl ((ka 1), 256, .inl tv)), (b2, .inl ((ka 0), 64, .inr (.inl rv))), (v, .inr (4, [.ref pa, .ref ta, .ref te, .ref wv, .int (nI (n9 + 1)), .int (nI tk), .int (nI sl), .int (nI hz)])), (pa, .inl ((ka 0), 256, .inr (.inl P))), (ta, .inl ((ka 3), 64, .inr (.inr (.inr (.inr tf))))), (te, .inl ((ka 4), m, .inr (.inr (.inr (.inr wf))))), (wv, .inr (2, [.ref wd, .int (nI wl)])), (wd, .inl ((ka 0), K, .inr (.inl wo))), (mo, .inr (5, [.ref a1, .ref a2, .ref a3, .int (nI (n9 + 1)), .ref a4, .ref a5, .ref a6, .ref a7, .int (nI wl), .ref a8, .int nxm, .ref a9, .ref b1, .ref b2, .int ldm])), (a4, .inl ((ka 1), 64, .inl (upd zs n9 (nI (((pgs n9).length) + 1))))), (a5, .inl ((ka 5), 2048, .inl (upd os (32 * n9 + ((pgs n9).length)) (nI op)))), (a6, .inl ((ka 1), 2048, .inl (upd fs (32 * n9 + ((pgs n9).length)) (nI (sp_rg (xs (5 * q + 3)).toInt64))))), (a7, .inl ((ka 0), 2048, .inr (.inl (vp_updL ss (32 * n9 + ((pgs n9).length)) (lw (xs (5 * q + 4)) (xs (5 * q + 5))))))), (a9, .inl ((ka 2), 64, .inl (upd it n9 0)))] ++ tl2) H := hP
          have hD : va_D A ([(a1, .inl ((ka 0), 256, .inr (.inl P))), (a2, .inl ((ka 0), 256, .inr (.inl sv))), (a3, .inl ((ka 2), 256, .inl si)), (a8, .inl ((ka 0), 8, .inr (.inl rg))), (b1, .inl ((ka 1), 256, .inl tv)), (b2, .inl ((ka 0), 64, .inr (.inl rv))), (v, .inr (4, [.ref pa, .ref ta, .ref te, .ref wv, .int (nI (n9 + 1)), .int (nI tk), .int (nI sl), .int (nI hz)])), (pa, .inl ((ka 0), 256, .inr (.inl P))), (ta, .inl ((ka 3), 64, .inr (.inr (.inr (.inr tf))))), (te, .inl ((ka 4), m, .inr (.inr (.inr (.inr wf))))), (wv, .inr (2, [.ref wd, .int (nI wl)])), (wd, .inl ((ka 0), K, .inr (.inl wo))), (mo, .inr (5, [.ref a1, .ref a2, .ref a3, .int (nI (n9 + 1)), .ref a4, .ref a5, .ref a6, .ref a7, .int (nI wl), .ref a8, .int nxm, .ref a9, .ref b1, .ref b2, .int ldm])), (a4, .inl ((ka 1), 64, .inl (upd zs n9 (nI (((pgs n9).length) + 1))))), (a5, .inl ((ka 5), 2048, .inl (upd os (32 * n9 + ((pgs n9).length)) (nI op)))), (a6, .inl ((ka 1), 2048, .inl (upd fs (32 * n9 + ((pgs n9).length)) (nI (sp_rg (xs (5 * q + 3)).toInt64))))), (a7, .inl ((ka 0), 2048, .inr (.inl (vp_updL ss (32 * n9 + ((pgs n9).length)) (lw (xs (5 * q + 4)) (xs (5 * q + 5))))))), (a9, .inl ((ka 2), 64, .inl (upd it n9 0)))] ++ tl2) := hD
          obtain rfl : r_278 = (nI (((pgs n9).length) + 1)) := hr_278
          refine lv_icmp_eq (tgt := 435) hx hb d_La_law_281 (by decide) (fun c_281 => ?_) (fun c_281 => absurd rfl c_281)
          refine lv_iinc (v := nI (5 * (q + 1) + 1)) (lv' := [(3, .int (nI (5 * (q + 1) + 1))), (1, .ref v), (2, .ref mo), (0, .ref b)]) hx hb d_La_law_435 hl (k := 0) rfl (law_i5 q) (by decide) rfl (fun ls hl => ?_)
          refine lv_goto (tgt := 28) hx hb d_La_law_438 (by decide) ?_
          exact ih (q + 1) wd (n9 + 1) nT tk sl hz wl K cN sN P wo tf wf tl2 wk (va_up pgs n9 (pgs n9 ++ [(op, sp_rg (xs (5 * q + 3)).toInt64, lw (xs (5 * q + 4)) (xs (5 * q + 5)))])) (va_up td n9 none) sv (vp_updL ss (32 * n9 + (pgs n9).length) (lw (xs (5 * q + 4)) (xs (5 * q + 5)))) rg rv si (upd zs n9 (nI ((pgs n9).length + 1))) (upd os (32 * n9 + (pgs n9).length) (nI op)) (upd fs (32 * n9 + (pgs n9).length) (nI (sp_rg (xs (5 * q + 3)).toInt64))) (upd it n9 0) tv nxm ldm (by omega) hrel_244 hfr hW hKK (mS_in hM hop (sp_rg_lt _) hl9) (by omega) (by omega) (by omega) _ _ (hP.part [6, 7, 8, 9, 10, 11, 12, 0, 1, 2, 13, 14, 15, 16, 3, 17, 4, 5] rfl) (hD.part [6, 7, 8, 9, 10, 11, 12, 0, 1, 2, 13, 14, 15, 16, 3, 17, 4, 5] (by decide) rfl) hS ls (lv_sub hl [0, 1, 2, 3] rfl)
      · skip
        refine lv_tableIn (off := 244) (tgt := 286) hx hb d_La_law_42 (by decide) (by decide) (by decide) (by decide) ?_
        rcases (show 65536 < wl + 16 ∨ (wl + 16 ≤ 65536 ∧ wl / 16 < K) ∨ (wl + 16 ≤ 65536 ∧ K ≤ wl / 16) by omega) with hf | hf | hf
        · refine lv_aload_n hx hb d_La_law_286 rfl (lv_at hl 1 rfl) ?_
          refine lv_aload_n hx hb d_La_law_287 rfl (lv_at hl 3 rfl) ?_
          refine lv_iload_n hx hb d_La_law_288 rfl (lv_at hl 0 rfl) ?_
          refine lv_iconst (v := (nI 1)) hx hb d_La_law_289 (by decide) ?_
          refine lv_iadd hx hb d_La_law_290 ?_
          refine lv_topi (fun v_290 ev_290 => ?_)
          obtain rfl : v_290 = nI (5 * q + 2) := ev_290.trans (nI_add _ _)
          refine my_sld (k := (5 * q + 2)) hx hb hX hbl hbA hS (by omega) (by omega) d_La_law_291 ?_
          refine lv_i2l (v := (xs (5 * q + 2)).toInt64) hx hb d_La_law_292 rfl ?_
          refine lv_bipush (v := 32) hx hb d_La_law_293 (by decide) ?_
          refine lv_lshl (v := (xs (5 * q + 2)).toInt64 <<< ((32 : Int32).toInt64 &&& 63)) hx hb d_La_law_295 rfl ?_
          refine lv_aload_n hx hb d_La_law_296 rfl (lv_at hl 3 rfl) ?_
          refine lv_iload_n hx hb d_La_law_297 rfl (lv_at hl 0 rfl) ?_
          refine lv_iconst (v := (nI 2)) hx hb d_La_law_298 (by decide) ?_
          refine lv_iadd hx hb d_La_law_299 ?_
          refine lv_topi (fun v_299 ev_299 => ?_)
          obtain rfl : v_299 = nI (5 * q + 3) := ev_299.trans (nI_add _ _)
          refine my_sld (k := (5 * q + 3)) hx hb hX hbl hbA hS (by omega) (by omega) d_La_law_300 ?_
          refine lv_i2l (v := (xs (5 * q + 3)).toInt64) hx hb d_La_law_301 rfl ?_
          refine lv_ldc2 (own := "VersionedBlockLaw") (index := 21) (v := 4294967295) hx hb hown (hts _ (tb_of mw_3_18)) d_La_law_302 ?_
          refine lv_land hx hb d_La_law_305 ?_
          refine lv_lor hx hb d_La_law_306 ?_
          refine lv_topl (fun v_306 ev_306 => ?_)
          obtain rfl : v_306 = lw (xs (5 * q + 2)) (xs (5 * q + 3)) := ev_306.trans rfl
          have hPc := hP.sub (ws' := [(v, .inr (4, [.ref pa, .ref ta, .ref te, .ref wv, .int (nI n), .int (nI tk), .int (nI sl), .int (nI hz)])), (wv, .inr (2, [.ref wd, .int (nI wl)]))]) [0, 4] rfl
          refine vp_callSi (run_of (va_runV (As := [.long (lw (xs (5 * q + 2)) (xs (5 * q + 3)))]) (rest := []) ⟨hx, hb, hml, hown, hts⟩ (c_Vb_weave_full l D ka v pa ta te wv (nI n) (nI tk) (nI sl) (nI hz) wd wl (lw (xs (5 * q + 2)) (xs (5 * q + 3))) hf hW.1) ⟨callB_of 1 hts (gd_lw mw_1_142) rfl rfl rfl (hts _ (tb_of mw_1_1)) (hts _ (tb_of mw_1_139)) (by decide +kernel) ⟨Nat.le_of_ble_eq_true rfl, Nat.le_of_ble_eq_true rfl⟩, (hts _ (tb_of mw_1_140)), (hts _ (tb_of mw_1_141))⟩ ⟨pR_blind, va_recv hK hPc (ci := 4) (q0 := 0) rfl rfl, pR_pre hK hN hPc⟩ rfl rfl hl.1 rfl (lv_room (Nat.le_of_ble_eq_true rfl)) d_La_law_307 ⟨by show cN + 0 ≤ 295586; omega, by show sN + 0 ≤ 8215492; omega⟩)) (fun r_307 hr_307 => ?_)
          obtain rfl : r_307 = (-3) := hr_307
          refine lv_aload_n hx hb d_La_law_310 rfl (lv_at hl 2 rfl) ?_
          refine lv_aload_n hx hb d_La_law_311 rfl (lv_at hl 3 rfl) ?_
          refine lv_iload_n hx hb d_La_law_312 rfl (lv_at hl 0 rfl) ?_
          refine lv_iconst (v := (nI 1)) hx hb d_La_law_313 (by decide) ?_
          refine lv_iadd hx hb d_La_law_314 ?_
          refine lv_topi (fun v_314 ev_314 => ?_)
          obtain rfl : v_314 = nI (5 * q + 2) := ev_314.trans (nI_add _ _)
          refine my_sld (k := (5 * q + 2)) hx hb hX hbl hbA hS (by omega) (by omega) d_La_law_315 ?_
          refine lv_i2l (v := (xs (5 * q + 2)).toInt64) hx hb d_La_law_316 rfl ?_
          refine lv_bipush (v := 32) hx hb d_La_law_317 (by decide) ?_
          refine lv_lshl (v := (xs (5 * q + 2)).toInt64 <<< ((32 : Int32).toInt64 &&& 63)) hx hb d_La_law_319 rfl ?_
          refine lv_aload_n hx hb d_La_law_320 rfl (lv_at hl 3 rfl) ?_
          refine lv_iload_n hx hb d_La_law_321 rfl (lv_at hl 0 rfl) ?_
          refine lv_iconst (v := (nI 2)) hx hb d_La_law_322 (by decide) ?_
          refine lv_iadd hx hb d_La_law_323 ?_
          refine lv_topi (fun v_323 ev_323 => ?_)
          obtain rfl : v_323 = nI (5 * q + 3) := ev_323.trans (nI_add _ _)
          refine my_sld (k := (5 * q + 3)) hx hb hX hbl hbA hS (by omega) (by omega) d_La_law_324 ?_
          refine lv_i2l (v := (xs (5 * q + 3)).toInt64) hx hb d_La_law_325 rfl ?_
          refine lv_ldc2 (own := "VersionedBlockLaw") (index := 21) (v := 4294967295) hx hb hown (hts _ (tb_of mw_3_18)) d_La_law_326 ?_
          refine lv_land hx hb d_La_law_329 ?_
          refine lv_lor hx hb d_La_law_330 ?_
          refine lv_topl (fun v_330 ev_330 => ?_)
          obtain rfl : v_330 = lw (xs (5 * q + 2)) (xs (5 * q + 3)) := ev_330.trans rfl
          have hPc := hP.sub (ws' := [(mo, .inr (5, [.ref a1, .ref a2, .ref a3, .int (nI n), .ref a4, .ref a5, .ref a6, .ref a7, .int (nI wl), .ref a8, .int nxm, .ref a9, .ref b1, .ref b2, .int ldm]))]) [6] rfl
          refine vp_callSi (run_of (va_runV (As := [.long (lw (xs (5 * q + 2)) (xs (5 * q + 3)))]) (rest := [.int (-3)]) ⟨hx, hb, hml, hown, hts⟩ (c_Mo_weave_full l D ka mo a1 a2 a3 a4 a5 a6 a7 a8 a9 b1 b2 (nI n) nxm ldm wl (lw (xs (5 * q + 2)) (xs (5 * q + 3))) hf hW.1) ⟨callB_of 1 hts (gd_lw mw_2_219) rfl rfl rfl (hts _ (tb_of mw_1_4)) (hts _ (tb_of mw_2_216)) (by decide +kernel) ⟨Nat.le_of_ble_eq_true rfl, Nat.le_of_ble_eq_true rfl⟩, (hts _ (tb_of mw_2_217)), (hts _ (tb_of mw_2_218))⟩ ⟨pR_blind, va_recv hK hPc (ci := 5) (q0 := 0) rfl rfl, pR_pre hK hN hPc⟩ rfl rfl hl.1 rfl (lv_room (Nat.le_of_ble_eq_true rfl)) d_La_law_331 ⟨by show cN + 0 ≤ 295586; omega, by show sN + 0 ≤ 8215492; omega⟩)) (fun r_331 hr_331 => ?_)
          obtain rfl : r_331 = (-3) := hr_331
          refine lv_icmp_eq (tgt := 435) hx hb d_La_law_334 (by decide) (fun c_334 => ?_) (fun c_334 => absurd rfl c_334)
          refine lv_iinc (v := nI (5 * (q + 1) + 1)) (lv' := [(3, .int (nI (5 * (q + 1) + 1))), (1, .ref v), (2, .ref mo), (0, .ref b)]) hx hb d_La_law_435 hl (k := 0) rfl (law_i5 q) (by decide) rfl (fun ls hl => ?_)
          refine lv_goto (tgt := 28) hx hb d_La_law_438 (by decide) ?_
          exact ih (q + 1) wd n nT tk sl hz wl K cN sN P wo tf wf tl wk pgs td sv ss rg rv si zs os fs it tv nxm ldm (by omega) hT hfr hW hKK hM (by omega) (by omega) (by omega) _ _ hP hD hS ls (lv_sub hl [0, 1, 2, 3] rfl)
        · refine lv_aload_n hx hb d_La_law_286 rfl (lv_at hl 1 rfl) ?_
          refine lv_aload_n hx hb d_La_law_287 rfl (lv_at hl 3 rfl) ?_
          refine lv_iload_n hx hb d_La_law_288 rfl (lv_at hl 0 rfl) ?_
          refine lv_iconst (v := (nI 1)) hx hb d_La_law_289 (by decide) ?_
          refine lv_iadd hx hb d_La_law_290 ?_
          refine lv_topi (fun v_290 ev_290 => ?_)
          obtain rfl : v_290 = nI (5 * q + 2) := ev_290.trans (nI_add _ _)
          refine my_sld (k := (5 * q + 2)) hx hb hX hbl hbA hS (by omega) (by omega) d_La_law_291 ?_
          refine lv_i2l (v := (xs (5 * q + 2)).toInt64) hx hb d_La_law_292 rfl ?_
          refine lv_bipush (v := 32) hx hb d_La_law_293 (by decide) ?_
          refine lv_lshl (v := (xs (5 * q + 2)).toInt64 <<< ((32 : Int32).toInt64 &&& 63)) hx hb d_La_law_295 rfl ?_
          refine lv_aload_n hx hb d_La_law_296 rfl (lv_at hl 3 rfl) ?_
          refine lv_iload_n hx hb d_La_law_297 rfl (lv_at hl 0 rfl) ?_
          refine lv_iconst (v := (nI 2)) hx hb d_La_law_298 (by decide) ?_
          refine lv_iadd hx hb d_La_law_299 ?_
          refine lv_topi (fun v_299 ev_299 => ?_)
          obtain rfl : v_299 = nI (5 * q + 3) := ev_299.trans (nI_add _ _)
          refine my_sld (k := (5 * q + 3)) hx hb hX hbl hbA hS (by omega) (by omega) d_La_law_300 ?_
          refine lv_i2l (v := (xs (5 * q + 3)).toInt64) hx hb d_La_law_301 rfl ?_
          refine lv_ldc2 (own := "VersionedBlockLaw") (index := 21) (v := 4294967295) hx hb hown (hts _ (tb_of mw_3_18)) d_La_law_302 ?_
          refine lv_land hx hb d_La_law_305 ?_
          refine lv_lor hx hb d_La_law_306 ?_
          refine lv_topl (fun v_306 ev_306 => ?_)
          obtain rfl : v_306 = lw (xs (5 * q + 2)) (xs (5 * q + 3)) := ev_306.trans rfl
          have hPc := hP.sub (ws' := [(v, .inr (4, [.ref pa, .ref ta, .ref te, .ref wv, .int (nI n), .int (nI tk), .int (nI sl), .int (nI hz)])), (wv, .inr (2, [.ref wd, .int (nI wl)])), (wd, .inl ((ka 0), K, .inr (.inl wo)))]) [0, 4, 5] rfl
          have hDc := hD.sub (ws' := [(v, .inr (4, [.ref pa, .ref ta, .ref te, .ref wv, .int (nI n), .int (nI tk), .int (nI sl), .int (nI hz)])), (wv, .inr (2, [.ref wd, .int (nI wl)])), (wd, .inl ((ka 0), K, .inr (.inl wo)))]) [0, 4, 5] (by decide) rfl
          have hFc := va_free (wc := [(v, .inr (4, [.ref pa, .ref ta, .ref te, .ref wv, .int (nI n), .int (nI tk), .int (nI sl), .int (nI hz)])), (wv, .inr (2, [.ref wd, .int (nI wl)])), (wd, .inl ((ka 0), K, .inr (.inl wo)))]) hD hS hA [0, 4, 5] rfl
          refine va_calli (va_runV (As := [.long (lw (xs (5 * q + 2)) (xs (5 * q + 3)))]) (rest := []) ⟨hx, hb, hml, hown, hts⟩ (c_Vb_weave_in l D ka H.size v pa ta te wv (nI n) (nI tk) (nI sl) (nI hz) wd wl K wo (lw (xs (5 * q + 2)) (xs (5 * q + 3))) hf.1 hf.2 ((kOK_8 hKK).2)) ⟨callB_of 1 hts (gd_lw mw_1_142) rfl rfl rfl (hts _ (tb_of mw_1_1)) (hts _ (tb_of mw_1_139)) (by decide +kernel) ⟨Nat.le_of_ble_eq_true rfl, Nat.le_of_ble_eq_true rfl⟩, (hts _ (tb_of mw_1_140)), (hts _ (tb_of mw_1_141))⟩ ⟨pW_blind, va_recv hK hPc (ci := 4) (q0 := 0) rfl rfl, pW_pre hK hN hPc hDc⟩ rfl rfl hl.1 rfl (lv_room (Nat.le_of_ble_eq_true rfl)) d_La_law_307 ⟨by show cN + 0 ≤ 295586; omega, by show sN + 0 ≤ 8215492; omega⟩) hS (fun q _ h => hFc q h) hFc (fun r_307 u9 t9 H1 locs ht hvm hr_307 hB hz1 hk1 hS => ?_)
          obtain ⟨wo2, hrel_307, hP1, hD1⟩ := hB
          rw [ht] at hP1
          obtain ⟨hP, hD⟩ := va_joinQ (wr := [(pa, .inl ((ka 0), 256, .inr (.inl P))), (ta, .inl ((ka 3), 64, .inr (.inr (.inr (.inr tf))))), (te, .inl ((ka 4), m, .inr (.inr (.inr (.inr wf))))), (mo, .inr (5, [.ref a1, .ref a2, .ref a3, .int (nI n), .ref a4, .ref a5, .ref a6, .ref a7, .int (nI wl), .ref a8, .int nxm, .ref a9, .ref b1, .ref b2, .int ldm])), (a1, .inl ((ka 0), 256, .inr (.inl P))), (a2, .inl ((ka 0), 256, .inr (.inl sv))), (a3, .inl ((ka 2), 256, .inl si)), (a4, .inl ((ka 1), 64, .inl zs)), (a5, .inl ((ka 5), 2048, .inl os)), (a6, .inl ((ka 1), 2048, .inl fs)), (a7, .inl ((ka 0), 2048, .inr (.inl ss))), (a8, .inl ((ka 0), 8, .inr (.inl rg))), (a9, .inl ((ka 2), 64, .inl it)), (b1, .inl ((ka 1), 256, .inl tv)), (b2, .inl ((ka 0), 64, .inr (.inl rv)))]) (w1 := [(v, .inr (4, [.ref pa, .ref ta, .ref te, .ref wv, .int (nI n), .int (nI tk), .int (nI sl), .int (nI hz)])), (wv, .inr (2, [.ref wd, .int (nI (wl + 16))])), (wd, .inl ((ka 0), K, .inr (.inl wo2)))]) hP hD [0, 4, 5] [1, 2, 3, 6, 7, 8, 9, 10, 11, 12, 13, 14, 15, 16, 17] rfl rfl (by decide) (by decide) hk1 hFc hP1 hD1
          generalize H1 = H at hP hS ⊢
          have hP : va_P D classes ([(pa, .inl ((ka 0), 256, .inr (.inl P))), (ta, .inl ((ka 3), 64, .inr (.inr (.inr (.inr tf))))), (te, .inl ((ka 4), m, .inr (.inr (.inr (.inr wf))))), (mo, .inr (5, [.ref a1, .ref a2, .ref a3, .int (nI n), .ref a4, .ref a5, .ref a6, .ref a7, .int (nI wl), .ref a8, .int nxm, .ref a9, .ref b1, .ref b2, .int ldm])), (a1, .inl ((ka 0), 256, .inr (.inl P))), (a2, .inl ((ka 0), 256, .inr (.inl sv))), (a3, .inl ((ka 2), 256, .inl si)), (a4, .inl ((ka 1), 64, .inl zs)), (a5, .inl ((ka 5), 2048, .inl os)), (a6, .inl ((ka 1), 2048, .inl fs)), (a7, .inl ((ka 0), 2048, .inr (.inl ss))), (a8, .inl ((ka 0), 8, .inr (.inl rg))), (a9, .inl ((ka 2), 64, .inl it)), (b1, .inl ((ka 1), 256, .inl tv)), (b2, .inl ((ka 0), 64, .inr (.inl rv))), (v, .inr (4, [.ref pa, .ref ta, .ref te, .ref wv, .int (nI n), .int (nI tk), .int (nI sl), .int (nI hz)])), (wv, .inr (2, [.ref wd, .int (nI (wl + 16))])), (wd, .inl ((ka 0), K, .inr (.inl wo2)))] ++ tl) H := hP
          have hD : va_D A ([(pa, .inl ((ka 0), 256, .inr (.inl P))), (ta, .inl ((ka 3), 64, .inr (.inr (.inr (.inr tf))))), (te, .inl ((ka 4), m, .inr (.inr (.inr (.inr wf))))), (mo, .inr (5, [.ref a1, .ref a2, .ref a3, .int (nI n), .ref a4, .ref a5, .ref a6, .ref a7, .int (nI wl), .ref a8, .int nxm, .ref a9, .ref b1, .ref b2, .int ldm])), (a1, .inl ((ka 0), 256, .inr (.inl P))), (a2, .inl ((ka 0), 256, .inr (.inl sv))), (a3, .inl ((ka 2), 256, .inl si)), (a4, .inl ((ka 1), 64, .inl zs)), (a5, .inl ((ka 5), 2048, .inl os)), (a6, .inl ((ka 1), 2048, .inl fs)), (a7, .inl ((ka 0), 2048, .inr (.inl ss))), (a8, .inl ((ka 0), 8, .inr (.inl rg))), (a9, .inl ((ka 2), 64, .inl it)), (b1, .inl ((ka 1), 256, .inl tv)), (b2, .inl ((ka 0), 64, .inr (.inl rv))), (v, .inr (4, [.ref pa, .ref ta, .ref te, .ref wv, .int (nI n), .int (nI tk), .int (nI sl), .int (nI hz)])), (wv, .inr (2, [.ref wd, .int (nI (wl + 16))])), (wd, .inl ((ka 0), K, .inr (.inl wo2)))] ++ tl) := hD
          obtain rfl : r_307 = (nI (wl + 16)) := hr_307
          refine lv_aload_n hx hb d_La_law_310 rfl (lv_at hl 2 rfl) ?_
          refine lv_aload_n hx hb d_La_law_311 rfl (lv_at hl 3 rfl) ?_
          refine lv_iload_n hx hb d_La_law_312 rfl (lv_at hl 0 rfl) ?_
          refine lv_iconst (v := (nI 1)) hx hb d_La_law_313 (by decide) ?_
          refine lv_iadd hx hb d_La_law_314 ?_
          refine lv_topi (fun v_314 ev_314 => ?_)
          obtain rfl : v_314 = nI (5 * q + 2) := ev_314.trans (nI_add _ _)
          refine my_sld (k := (5 * q + 2)) hx hb hX hbl hbA hS (by omega) (by omega) d_La_law_315 ?_
          refine lv_i2l (v := (xs (5 * q + 2)).toInt64) hx hb d_La_law_316 rfl ?_
          refine lv_bipush (v := 32) hx hb d_La_law_317 (by decide) ?_
          refine lv_lshl (v := (xs (5 * q + 2)).toInt64 <<< ((32 : Int32).toInt64 &&& 63)) hx hb d_La_law_319 rfl ?_
          refine lv_aload_n hx hb d_La_law_320 rfl (lv_at hl 3 rfl) ?_
          refine lv_iload_n hx hb d_La_law_321 rfl (lv_at hl 0 rfl) ?_
          refine lv_iconst (v := (nI 2)) hx hb d_La_law_322 (by decide) ?_
          refine lv_iadd hx hb d_La_law_323 ?_
          refine lv_topi (fun v_323 ev_323 => ?_)
          obtain rfl : v_323 = nI (5 * q + 3) := ev_323.trans (nI_add _ _)
          refine my_sld (k := (5 * q + 3)) hx hb hX hbl hbA hS (by omega) (by omega) d_La_law_324 ?_
          refine lv_i2l (v := (xs (5 * q + 3)).toInt64) hx hb d_La_law_325 rfl ?_
          refine lv_ldc2 (own := "VersionedBlockLaw") (index := 21) (v := 4294967295) hx hb hown (hts _ (tb_of mw_3_18)) d_La_law_326 ?_
          refine lv_land hx hb d_La_law_329 ?_
          refine lv_lor hx hb d_La_law_330 ?_
          refine lv_topl (fun v_330 ev_330 => ?_)
          obtain rfl : v_330 = lw (xs (5 * q + 2)) (xs (5 * q + 3)) := ev_330.trans rfl
          have hPc := hP.sub (ws' := [(mo, .inr (5, [.ref a1, .ref a2, .ref a3, .int (nI n), .ref a4, .ref a5, .ref a6, .ref a7, .int (nI wl), .ref a8, .int nxm, .ref a9, .ref b1, .ref b2, .int ldm]))]) [3] rfl
          have hDc := hD.sub (ws' := [(mo, .inr (5, [.ref a1, .ref a2, .ref a3, .int (nI n), .ref a4, .ref a5, .ref a6, .ref a7, .int (nI wl), .ref a8, .int nxm, .ref a9, .ref b1, .ref b2, .int ldm]))]) [3] (by decide) rfl
          have hFc := va_free (wc := [(mo, .inr (5, [.ref a1, .ref a2, .ref a3, .int (nI n), .ref a4, .ref a5, .ref a6, .ref a7, .int (nI wl), .ref a8, .int nxm, .ref a9, .ref b1, .ref b2, .int ldm]))]) hD hS hA [3] rfl
          refine va_calli (va_runV (As := [.long (lw (xs (5 * q + 2)) (xs (5 * q + 3)))]) (rest := [.int (nI (wl + 16))]) ⟨hx, hb, hml, hown, hts⟩ (c_Mo_weave l D ka H.size mo a1 a2 a3 a4 a5 a6 a7 a8 a9 b1 b2 (nI n) nxm ldm wl (lw (xs (5 * q + 2)) (xs (5 * q + 3))) hf.1) ⟨callB_of 1 hts (gd_lw mw_2_219) rfl rfl rfl (hts _ (tb_of mw_1_4)) (hts _ (tb_of mw_2_216)) (by decide +kernel) ⟨Nat.le_of_ble_eq_true rfl, Nat.le_of_ble_eq_true rfl⟩, (hts _ (tb_of mw_2_217)), (hts _ (tb_of mw_2_218))⟩ ⟨pW_blind, va_recv hK hPc (ci := 5) (q0 := 0) rfl rfl, pW_pre hK hN hPc hDc⟩ rfl rfl hl.1 rfl (lv_room (Nat.le_of_ble_eq_true rfl)) d_La_law_331 ⟨by show cN + 0 ≤ 295586; omega, by show sN + 0 ≤ 8215492; omega⟩) hS (fun q _ h => hFc q h) hFc (fun r_331 u9 t9 H1 locs ht hvm hr_331 hB hz1 hk1 hS => ?_)
          obtain ⟨hrel_331, hP1, hD1⟩ := hB
          rw [ht] at hP1
          obtain ⟨hP, hD⟩ := va_joinQ (wr := [(pa, .inl ((ka 0), 256, .inr (.inl P))), (ta, .inl ((ka 3), 64, .inr (.inr (.inr (.inr tf))))), (te, .inl ((ka 4), m, .inr (.inr (.inr (.inr wf))))), (a1, .inl ((ka 0), 256, .inr (.inl P))), (a2, .inl ((ka 0), 256, .inr (.inl sv))), (a3, .inl ((ka 2), 256, .inl si)), (a4, .inl ((ka 1), 64, .inl zs)), (a5, .inl ((ka 5), 2048, .inl os)), (a6, .inl ((ka 1), 2048, .inl fs)), (a7, .inl ((ka 0), 2048, .inr (.inl ss))), (a8, .inl ((ka 0), 8, .inr (.inl rg))), (a9, .inl ((ka 2), 64, .inl it)), (b1, .inl ((ka 1), 256, .inl tv)), (b2, .inl ((ka 0), 64, .inr (.inl rv))), (v, .inr (4, [.ref pa, .ref ta, .ref te, .ref wv, .int (nI n), .int (nI tk), .int (nI sl), .int (nI hz)])), (wv, .inr (2, [.ref wd, .int (nI (wl + 16))])), (wd, .inl ((ka 0), K, .inr (.inl wo2)))]) (w1 := [(mo, .inr (5, [.ref a1, .ref a2, .ref a3, .int (nI n), .ref a4, .ref a5, .ref a6, .ref a7, .int (nI (wl + 16)), .ref a8, .int nxm, .ref a9, .ref b1, .ref b2, .int ldm]))]) hP hD [3] [0, 1, 2, 4, 5, 6, 7, 8, 9, 10, 11, 12, 13, 14, 15, 16, 17] rfl rfl (by decide) (by decide) hk1 hFc hP1 hD1
          generalize H1 = H at hP hS ⊢
          have hP : va_P D classes ([(pa, .inl ((ka 0), 256, .inr (.inl P))), (ta, .inl ((ka 3), 64, .inr (.inr (.inr (.inr tf))))), (te, .inl ((ka 4), m, .inr (.inr (.inr (.inr wf))))), (a1, .inl ((ka 0), 256, .inr (.inl P))), (a2, .inl ((ka 0), 256, .inr (.inl sv))), (a3, .inl ((ka 2), 256, .inl si)), (a4, .inl ((ka 1), 64, .inl zs)), (a5, .inl ((ka 5), 2048, .inl os)), (a6, .inl ((ka 1), 2048, .inl fs)), (a7, .inl ((ka 0), 2048, .inr (.inl ss))), (a8, .inl ((ka 0), 8, .inr (.inl rg))), (a9, .inl ((ka 2), 64, .inl it)), (b1, .inl ((ka 1), 256, .inl tv)), (b2, .inl ((ka 0), 64, .inr (.inl rv))), (v, .inr (4, [.ref pa, .ref ta, .ref te, .ref wv, .int (nI n), .int (nI tk), .int (nI sl), .int (nI hz)])), (wv, .inr (2, [.ref wd, .int (nI (wl + 16))])), (wd, .inl ((ka 0), K, .inr (.inl wo2))), (mo, .inr (5, [.ref a1, .ref a2, .ref a3, .int (nI n), .ref a4, .ref a5, .ref a6, .ref a7, .int (nI (wl + 16)), .ref a8, .int nxm, .ref a9, .ref b1, .ref b2, .int ldm]))] ++ tl) H := hP
          have hD : va_D A ([(pa, .inl ((ka 0), 256, .inr (.inl P))), (ta, .inl ((ka 3), 64, .inr (.inr (.inr (.inr tf))))), (te, .inl ((ka 4), m, .inr (.inr (.inr (.inr wf))))), (a1, .inl ((ka 0), 256, .inr (.inl P))), (a2, .inl ((ka 0), 256, .inr (.inl sv))), (a3, .inl ((ka 2), 256, .inl si)), (a4, .inl ((ka 1), 64, .inl zs)), (a5, .inl ((ka 5), 2048, .inl os)), (a6, .inl ((ka 1), 2048, .inl fs)), (a7, .inl ((ka 0), 2048, .inr (.inl ss))), (a8, .inl ((ka 0), 8, .inr (.inl rg))), (a9, .inl ((ka 2), 64, .inl it)), (b1, .inl ((ka 1), 256, .inl tv)), (b2, .inl ((ka 0), 64, .inr (.inl rv))), (v, .inr (4, [.ref pa, .ref ta, .ref te, .ref wv, .int (nI n), .int (nI tk), .int (nI sl), .int (nI hz)])), (wv, .inr (2, [.ref wd, .int (nI (wl + 16))])), (wd, .inl ((ka 0), K, .inr (.inl wo2))), (mo, .inr (5, [.ref a1, .ref a2, .ref a3, .int (nI n), .ref a4, .ref a5, .ref a6, .ref a7, .int (nI (wl + 16)), .ref a8, .int nxm, .ref a9, .ref b1, .ref b2, .int ldm]))] ++ tl) := hD
          obtain rfl : r_331 = (nI (wl + 16)) := hr_331
          refine lv_icmp_eq (tgt := 435) hx hb d_La_law_334 (by decide) (fun c_334 => ?_) (fun c_334 => absurd rfl c_334)
          refine lv_iinc (v := nI (5 * (q + 1) + 1)) (lv' := [(3, .int (nI (5 * (q + 1) + 1))), (1, .ref v), (2, .ref mo), (0, .ref b)]) hx hb d_La_law_435 hl (k := 0) rfl (law_i5 q) (by decide) rfl (fun ls hl => ?_)
          refine lv_goto (tgt := 28) hx hb d_La_law_438 (by decide) ?_
          exact ih (q + 1) wd n nT tk sl hz (wl + 16) K cN sN P wo2 tf wf tl wk pgs td sv ss rg rv si zs os fs it tv nxm ldm (by omega) hT hfr (by omega) hKK hM (by omega) (by omega) (by omega) _ _ (hP.part [14, 0, 1, 2, 15, 16, 17, 3, 4, 5, 6, 7, 8, 9, 10, 11, 12, 13] rfl) (hD.part [14, 0, 1, 2, 15, 16, 17, 3, 4, 5, 6, 7, 8, 9, 10, 11, 12, 13] (by decide) rfl) hS ls (lv_sub hl [0, 1, 2, 3] rfl)
        · refine lv_aload_n hx hb d_La_law_286 rfl (lv_at hl 1 rfl) ?_
          refine lv_aload_n hx hb d_La_law_287 rfl (lv_at hl 3 rfl) ?_
          refine lv_iload_n hx hb d_La_law_288 rfl (lv_at hl 0 rfl) ?_
          refine lv_iconst (v := (nI 1)) hx hb d_La_law_289 (by decide) ?_
          refine lv_iadd hx hb d_La_law_290 ?_
          refine lv_topi (fun v_290 ev_290 => ?_)
          obtain rfl : v_290 = nI (5 * q + 2) := ev_290.trans (nI_add _ _)
          refine my_sld (k := (5 * q + 2)) hx hb hX hbl hbA hS (by omega) (by omega) d_La_law_291 ?_
          refine lv_i2l (v := (xs (5 * q + 2)).toInt64) hx hb d_La_law_292 rfl ?_
          refine lv_bipush (v := 32) hx hb d_La_law_293 (by decide) ?_
          refine lv_lshl (v := (xs (5 * q + 2)).toInt64 <<< ((32 : Int32).toInt64 &&& 63)) hx hb d_La_law_295 rfl ?_
          refine lv_aload_n hx hb d_La_law_296 rfl (lv_at hl 3 rfl) ?_
          refine lv_iload_n hx hb d_La_law_297 rfl (lv_at hl 0 rfl) ?_
          refine lv_iconst (v := (nI 2)) hx hb d_La_law_298 (by decide) ?_
          refine lv_iadd hx hb d_La_law_299 ?_
          refine lv_topi (fun v_299 ev_299 => ?_)
          obtain rfl : v_299 = nI (5 * q + 3) := ev_299.trans (nI_add _ _)
          refine my_sld (k := (5 * q + 3)) hx hb hX hbl hbA hS (by omega) (by omega) d_La_law_300 ?_
          refine lv_i2l (v := (xs (5 * q + 3)).toInt64) hx hb d_La_law_301 rfl ?_
          refine lv_ldc2 (own := "VersionedBlockLaw") (index := 21) (v := 4294967295) hx hb hown (hts _ (tb_of mw_3_18)) d_La_law_302 ?_
          refine lv_land hx hb d_La_law_305 ?_
          refine lv_lor hx hb d_La_law_306 ?_
          refine lv_topl (fun v_306 ev_306 => ?_)
          obtain rfl : v_306 = lw (xs (5 * q + 2)) (xs (5 * q + 3)) := ev_306.trans rfl
          have hPc := hP.sub (ws' := [(v, .inr (4, [.ref pa, .ref ta, .ref te, .ref wv, .int (nI n), .int (nI tk), .int (nI sl), .int (nI hz)])), (wv, .inr (2, [.ref wd, .int (nI wl)])), (wd, .inl ((ka 0), K, .inr (.inl wo)))]) [0, 4, 5] rfl
          have hDc := hD.sub (ws' := [(v, .inr (4, [.ref pa, .ref ta, .ref te, .ref wv, .int (nI n), .int (nI tk), .int (nI sl), .int (nI hz)])), (wv, .inr (2, [.ref wd, .int (nI wl)])), (wd, .inl ((ka 0), K, .inr (.inl wo)))]) [0, 4, 5] (by decide) rfl
          have hFc := va_free (wc := [(v, .inr (4, [.ref pa, .ref ta, .ref te, .ref wv, .int (nI n), .int (nI tk), .int (nI sl), .int (nI hz)])), (wv, .inr (2, [.ref wd, .int (nI wl)])), (wd, .inl ((ka 0), K, .inr (.inl wo)))]) hD hS hA [0, 4, 5] rfl
          refine va_calli (va_runV (As := [.long (lw (xs (5 * q + 2)) (xs (5 * q + 3)))]) (rest := []) ⟨hx, hb, hml, hown, hts⟩ (c_Vb_weave_grow l D ka H.size v pa ta te wv (nI n) (nI tk) (nI sl) (nI hz) wd wl K wo (lw (xs (5 * q + 2)) (xs (5 * q + 3))) hf.1 hf.2 hW.2.2 ((kOK_8 hKK).1) (kOK_h hKK (by omega))) ⟨callB_of 1 hts (gd_lw mw_1_142) rfl rfl rfl (hts _ (tb_of mw_1_1)) (hts _ (tb_of mw_1_139)) (by decide +kernel) ⟨Nat.le_of_ble_eq_true rfl, Nat.le_of_ble_eq_true rfl⟩, (hts _ (tb_of mw_1_140)), (hts _ (tb_of mw_1_141))⟩ ⟨pW_blind, va_recv hK hPc (ci := 4) (q0 := 0) rfl rfl, pW_pre hK hN hPc hDc⟩ rfl rfl hl.1 rfl (lv_room (Nat.le_of_ble_eq_true rfl)) d_La_law_307 ⟨by show cN + 1 ≤ 295586; omega, by show sN + 4096 ≤ 8215492; omega⟩) hS (fun q _ h => hFc q h) hFc (fun r_307 u9 t9 H1 locs ht hvm hr_307 hB hz1 hk1 hS => ?_)
          obtain ⟨wd2, wo2, hrel_307, hP1, hD1⟩ := hB
          rw [ht] at hP1
          obtain ⟨hP, hD⟩ := va_joinQ (wr := [(pa, .inl ((ka 0), 256, .inr (.inl P))), (ta, .inl ((ka 3), 64, .inr (.inr (.inr (.inr tf))))), (te, .inl ((ka 4), m, .inr (.inr (.inr (.inr wf))))), (mo, .inr (5, [.ref a1, .ref a2, .ref a3, .int (nI n), .ref a4, .ref a5, .ref a6, .ref a7, .int (nI wl), .ref a8, .int nxm, .ref a9, .ref b1, .ref b2, .int ldm])), (a1, .inl ((ka 0), 256, .inr (.inl P))), (a2, .inl ((ka 0), 256, .inr (.inl sv))), (a3, .inl ((ka 2), 256, .inl si)), (a4, .inl ((ka 1), 64, .inl zs)), (a5, .inl ((ka 5), 2048, .inl os)), (a6, .inl ((ka 1), 2048, .inl fs)), (a7, .inl ((ka 0), 2048, .inr (.inl ss))), (a8, .inl ((ka 0), 8, .inr (.inl rg))), (a9, .inl ((ka 2), 64, .inl it)), (b1, .inl ((ka 1), 256, .inl tv)), (b2, .inl ((ka 0), 64, .inr (.inl rv)))]) (w1 := [(v, .inr (4, [.ref pa, .ref ta, .ref te, .ref wv, .int (nI n), .int (nI tk), .int (nI sl), .int (nI hz)])), (wv, .inr (2, [.ref wd2, .int (nI (wl + 16))])), (wd2, .inl ((ka 0), 2 * K, .inr (.inl wo2)))]) hP hD [0, 4, 5] [1, 2, 3, 6, 7, 8, 9, 10, 11, 12, 13, 14, 15, 16, 17] rfl rfl (by decide) (by decide) hk1 hFc hP1 hD1
          generalize H1 = H at hP hS ⊢
          refine W.widen (k := cN + 1) (n := sN + 4096) (by omega) (by omega) ?_
          have hP : va_P D classes ([(pa, .inl ((ka 0), 256, .inr (.inl P))), (ta, .inl ((ka 3), 64, .inr (.inr (.inr (.inr tf))))), (te, .inl ((ka 4), m, .inr (.inr (.inr (.inr wf))))), (mo, .inr (5, [.ref a1, .ref a2, .ref a3, .int (nI n), .ref a4, .ref a5, .ref a6, .ref a7, .int (nI wl), .ref a8, .int nxm, .ref a9, .ref b1, .ref b2, .int ldm])), (a1, .inl ((ka 0), 256, .inr (.inl P))), (a2, .inl ((ka 0), 256, .inr (.inl sv))), (a3, .inl ((ka 2), 256, .inl si)), (a4, .inl ((ka 1), 64, .inl zs)), (a5, .inl ((ka 5), 2048, .inl os)), (a6, .inl ((ka 1), 2048, .inl fs)), (a7, .inl ((ka 0), 2048, .inr (.inl ss))), (a8, .inl ((ka 0), 8, .inr (.inl rg))), (a9, .inl ((ka 2), 64, .inl it)), (b1, .inl ((ka 1), 256, .inl tv)), (b2, .inl ((ka 0), 64, .inr (.inl rv))), (v, .inr (4, [.ref pa, .ref ta, .ref te, .ref wv, .int (nI n), .int (nI tk), .int (nI sl), .int (nI hz)])), (wv, .inr (2, [.ref wd2, .int (nI (wl + 16))])), (wd2, .inl ((ka 0), 2 * K, .inr (.inl wo2)))] ++ tl) H := hP
          have hD : va_D A ([(pa, .inl ((ka 0), 256, .inr (.inl P))), (ta, .inl ((ka 3), 64, .inr (.inr (.inr (.inr tf))))), (te, .inl ((ka 4), m, .inr (.inr (.inr (.inr wf))))), (mo, .inr (5, [.ref a1, .ref a2, .ref a3, .int (nI n), .ref a4, .ref a5, .ref a6, .ref a7, .int (nI wl), .ref a8, .int nxm, .ref a9, .ref b1, .ref b2, .int ldm])), (a1, .inl ((ka 0), 256, .inr (.inl P))), (a2, .inl ((ka 0), 256, .inr (.inl sv))), (a3, .inl ((ka 2), 256, .inl si)), (a4, .inl ((ka 1), 64, .inl zs)), (a5, .inl ((ka 5), 2048, .inl os)), (a6, .inl ((ka 1), 2048, .inl fs)), (a7, .inl ((ka 0), 2048, .inr (.inl ss))), (a8, .inl ((ka 0), 8, .inr (.inl rg))), (a9, .inl ((ka 2), 64, .inl it)), (b1, .inl ((ka 1), 256, .inl tv)), (b2, .inl ((ka 0), 64, .inr (.inl rv))), (v, .inr (4, [.ref pa, .ref ta, .ref te, .ref wv, .int (nI n), .int (nI tk), .int (nI sl), .int (nI hz)])), (wv, .inr (2, [.ref wd2, .int (nI (wl + 16))])), (wd2, .inl ((ka 0), 2 * K, .inr (.inl wo2)))] ++ tl) := hD
          obtain rfl : r_307 = (nI (wl + 16)) := hr_307
          refine lv_aload_n hx hb d_La_law_310 rfl (lv_at hl 2 rfl) ?_
          refine lv_aload_n hx hb d_La_law_311 rfl (lv_at hl 3 rfl) ?_
          refine lv_iload_n hx hb d_La_law_312 rfl (lv_at hl 0 rfl) ?_
          refine lv_iconst (v := (nI 1)) hx hb d_La_law_313 (by decide) ?_
          refine lv_iadd hx hb d_La_law_314 ?_
          refine lv_topi (fun v_314 ev_314 => ?_)
          obtain rfl : v_314 = nI (5 * q + 2) := ev_314.trans (nI_add _ _)
          refine my_sld (k := (5 * q + 2)) hx hb hX hbl hbA hS (by omega) (by omega) d_La_law_315 ?_
          refine lv_i2l (v := (xs (5 * q + 2)).toInt64) hx hb d_La_law_316 rfl ?_
          refine lv_bipush (v := 32) hx hb d_La_law_317 (by decide) ?_
          refine lv_lshl (v := (xs (5 * q + 2)).toInt64 <<< ((32 : Int32).toInt64 &&& 63)) hx hb d_La_law_319 rfl ?_
          refine lv_aload_n hx hb d_La_law_320 rfl (lv_at hl 3 rfl) ?_
          refine lv_iload_n hx hb d_La_law_321 rfl (lv_at hl 0 rfl) ?_
          refine lv_iconst (v := (nI 2)) hx hb d_La_law_322 (by decide) ?_
          refine lv_iadd hx hb d_La_law_323 ?_
          refine lv_topi (fun v_323 ev_323 => ?_)
          obtain rfl : v_323 = nI (5 * q + 3) := ev_323.trans (nI_add _ _)
          refine my_sld (k := (5 * q + 3)) hx hb hX hbl hbA hS (by omega) (by omega) d_La_law_324 ?_
          refine lv_i2l (v := (xs (5 * q + 3)).toInt64) hx hb d_La_law_325 rfl ?_
          refine lv_ldc2 (own := "VersionedBlockLaw") (index := 21) (v := 4294967295) hx hb hown (hts _ (tb_of mw_3_18)) d_La_law_326 ?_
          refine lv_land hx hb d_La_law_329 ?_
          refine lv_lor hx hb d_La_law_330 ?_
          refine lv_topl (fun v_330 ev_330 => ?_)
          obtain rfl : v_330 = lw (xs (5 * q + 2)) (xs (5 * q + 3)) := ev_330.trans rfl
          have hPc := hP.sub (ws' := [(mo, .inr (5, [.ref a1, .ref a2, .ref a3, .int (nI n), .ref a4, .ref a5, .ref a6, .ref a7, .int (nI wl), .ref a8, .int nxm, .ref a9, .ref b1, .ref b2, .int ldm]))]) [3] rfl
          have hDc := hD.sub (ws' := [(mo, .inr (5, [.ref a1, .ref a2, .ref a3, .int (nI n), .ref a4, .ref a5, .ref a6, .ref a7, .int (nI wl), .ref a8, .int nxm, .ref a9, .ref b1, .ref b2, .int ldm]))]) [3] (by decide) rfl
          have hFc := va_free (wc := [(mo, .inr (5, [.ref a1, .ref a2, .ref a3, .int (nI n), .ref a4, .ref a5, .ref a6, .ref a7, .int (nI wl), .ref a8, .int nxm, .ref a9, .ref b1, .ref b2, .int ldm]))]) hD hS hA [3] rfl
          refine va_calli (va_runV (As := [.long (lw (xs (5 * q + 2)) (xs (5 * q + 3)))]) (rest := [.int (nI (wl + 16))]) ⟨hx, hb, hml, hown, hts⟩ (c_Mo_weave l D ka H.size mo a1 a2 a3 a4 a5 a6 a7 a8 a9 b1 b2 (nI n) nxm ldm wl (lw (xs (5 * q + 2)) (xs (5 * q + 3))) hf.1) ⟨callB_of 1 hts (gd_lw mw_2_219) rfl rfl rfl (hts _ (tb_of mw_1_4)) (hts _ (tb_of mw_2_216)) (by decide +kernel) ⟨Nat.le_of_ble_eq_true rfl, Nat.le_of_ble_eq_true rfl⟩, (hts _ (tb_of mw_2_217)), (hts _ (tb_of mw_2_218))⟩ ⟨pW_blind, va_recv hK hPc (ci := 5) (q0 := 0) rfl rfl, pW_pre hK hN hPc hDc⟩ rfl rfl hl.1 rfl (lv_room (Nat.le_of_ble_eq_true rfl)) d_La_law_331 ⟨by show cN + 1 + 0 ≤ 295586; omega, by show sN + 4096 + 0 ≤ 8215492; omega⟩) hS (fun q _ h => hFc q h) hFc (fun r_331 u9 t9 H1 locs ht hvm hr_331 hB hz1 hk1 hS => ?_)
          obtain ⟨hrel_331, hP1, hD1⟩ := hB
          rw [ht] at hP1
          obtain ⟨hP, hD⟩ := va_joinQ (wr := [(pa, .inl ((ka 0), 256, .inr (.inl P))), (ta, .inl ((ka 3), 64, .inr (.inr (.inr (.inr tf))))), (te, .inl ((ka 4), m, .inr (.inr (.inr (.inr wf))))), (a1, .inl ((ka 0), 256, .inr (.inl P))), (a2, .inl ((ka 0), 256, .inr (.inl sv))), (a3, .inl ((ka 2), 256, .inl si)), (a4, .inl ((ka 1), 64, .inl zs)), (a5, .inl ((ka 5), 2048, .inl os)), (a6, .inl ((ka 1), 2048, .inl fs)), (a7, .inl ((ka 0), 2048, .inr (.inl ss))), (a8, .inl ((ka 0), 8, .inr (.inl rg))), (a9, .inl ((ka 2), 64, .inl it)), (b1, .inl ((ka 1), 256, .inl tv)), (b2, .inl ((ka 0), 64, .inr (.inl rv))), (v, .inr (4, [.ref pa, .ref ta, .ref te, .ref wv, .int (nI n), .int (nI tk), .int (nI sl), .int (nI hz)])), (wv, .inr (2, [.ref wd2, .int (nI (wl + 16))])), (wd2, .inl ((ka 0), 2 * K, .inr (.inl wo2)))]) (w1 := [(mo, .inr (5, [.ref a1, .ref a2, .ref a3, .int (nI n), .ref a4, .ref a5, .ref a6, .ref a7, .int (nI (wl + 16)), .ref a8, .int nxm, .ref a9, .ref b1, .ref b2, .int ldm]))]) hP hD [3] [0, 1, 2, 4, 5, 6, 7, 8, 9, 10, 11, 12, 13, 14, 15, 16, 17] rfl rfl (by decide) (by decide) hk1 hFc hP1 hD1
          generalize H1 = H at hP hS ⊢
          have hP : va_P D classes ([(pa, .inl ((ka 0), 256, .inr (.inl P))), (ta, .inl ((ka 3), 64, .inr (.inr (.inr (.inr tf))))), (te, .inl ((ka 4), m, .inr (.inr (.inr (.inr wf))))), (a1, .inl ((ka 0), 256, .inr (.inl P))), (a2, .inl ((ka 0), 256, .inr (.inl sv))), (a3, .inl ((ka 2), 256, .inl si)), (a4, .inl ((ka 1), 64, .inl zs)), (a5, .inl ((ka 5), 2048, .inl os)), (a6, .inl ((ka 1), 2048, .inl fs)), (a7, .inl ((ka 0), 2048, .inr (.inl ss))), (a8, .inl ((ka 0), 8, .inr (.inl rg))), (a9, .inl ((ka 2), 64, .inl it)), (b1, .inl ((ka 1), 256, .inl tv)), (b2, .inl ((ka 0), 64, .inr (.inl rv))), (v, .inr (4, [.ref pa, .ref ta, .ref te, .ref wv, .int (nI n), .int (nI tk), .int (nI sl), .int (nI hz)])), (wv, .inr (2, [.ref wd2, .int (nI (wl + 16))])), (wd2, .inl ((ka 0), 2 * K, .inr (.inl wo2))), (mo, .inr (5, [.ref a1, .ref a2, .ref a3, .int (nI n), .ref a4, .ref a5, .ref a6, .ref a7, .int (nI (wl + 16)), .ref a8, .int nxm, .ref a9, .ref b1, .ref b2, .int ldm]))] ++ tl) H := hP
          have hD : va_D A ([(pa, .inl ((ka 0), 256, .inr (.inl P))), (ta, .inl ((ka 3), 64, .inr (.inr (.inr (.inr tf))))), (te, .inl ((ka 4), m, .inr (.inr (.inr (.inr wf))))), (a1, .inl ((ka 0), 256, .inr (.inl P))), (a2, .inl ((ka 0), 256, .inr (.inl sv))), (a3, .inl ((ka 2), 256, .inl si)), (a4, .inl ((ka 1), 64, .inl zs)), (a5, .inl ((ka 5), 2048, .inl os)), (a6, .inl ((ka 1), 2048, .inl fs)), (a7, .inl ((ka 0), 2048, .inr (.inl ss))), (a8, .inl ((ka 0), 8, .inr (.inl rg))), (a9, .inl ((ka 2), 64, .inl it)), (b1, .inl ((ka 1), 256, .inl tv)), (b2, .inl ((ka 0), 64, .inr (.inl rv))), (v, .inr (4, [.ref pa, .ref ta, .ref te, .ref wv, .int (nI n), .int (nI tk), .int (nI sl), .int (nI hz)])), (wv, .inr (2, [.ref wd2, .int (nI (wl + 16))])), (wd2, .inl ((ka 0), 2 * K, .inr (.inl wo2))), (mo, .inr (5, [.ref a1, .ref a2, .ref a3, .int (nI n), .ref a4, .ref a5, .ref a6, .ref a7, .int (nI (wl + 16)), .ref a8, .int nxm, .ref a9, .ref b1, .ref b2, .int ldm]))] ++ tl) := hD
          obtain rfl : r_331 = (nI (wl + 16)) := hr_331
          refine lv_icmp_eq (tgt := 435) hx hb d_La_law_334 (by decide) (fun c_334 => ?_) (fun c_334 => absurd rfl c_334)
          refine lv_iinc (v := nI (5 * (q + 1) + 1)) (lv' := [(3, .int (nI (5 * (q + 1) + 1))), (1, .ref v), (2, .ref mo), (0, .ref b)]) hx hb d_La_law_435 hl (k := 0) rfl (law_i5 q) (by decide) rfl (fun ls hl => ?_)
          refine lv_goto (tgt := 28) hx hb d_La_law_438 (by decide) ?_
          exact ih (q + 1) wd2 n nT tk sl hz (wl + 16) (2 * K) (cN + 1) (sN + 4096) P wo2 tf wf tl wk pgs td sv ss rg rv si zs os fs it tv nxm ldm (by omega) hT hfr (by have := kOK_8 hKK; omega) (kOK_2 hKK (by omega)) hM (by omega) (by omega) (by omega) _ _ (hP.part [14, 0, 1, 2, 15, 16, 17, 3, 4, 5, 6, 7, 8, 9, 10, 11, 12, 13] rfl) (hD.part [14, 0, 1, 2, 15, 16, 17, 3, 4, 5, 6, 7, 8, 9, 10, 11, 12, 13] (by decide) rfl) hS ls (lv_sub hl [0, 1, 2, 3] rfl)
      · skip
        refine lv_tableIn (off := 297) (tgt := 339) hx hb d_La_law_42 (by decide) (by decide) (by decide) (by decide) ?_
        refine lv_aload_n hx hb d_La_law_339 rfl (lv_at hl 1 rfl) ?_
        have hPc := hP.sub (ws' := [(v, .inr (4, [.ref pa, .ref ta, .ref te, .ref wv, .int (nI n), .int (nI tk), .int (nI sl), .int (nI hz)])), (wv, .inr (2, [.ref wd, .int (nI wl)]))]) [0, 4] rfl
        have hDc := hD.sub (ws' := [(v, .inr (4, [.ref pa, .ref ta, .ref te, .ref wv, .int (nI n), .int (nI tk), .int (nI sl), .int (nI hz)])), (wv, .inr (2, [.ref wd, .int (nI wl)]))]) [0, 4] (by decide) rfl
        have hFc := va_free (wc := [(v, .inr (4, [.ref pa, .ref ta, .ref te, .ref wv, .int (nI n), .int (nI tk), .int (nI sl), .int (nI hz)])), (wv, .inr (2, [.ref wd, .int (nI wl)]))]) hD hS hA [0, 4] rfl
        refine va_calli (va_runV (As := []) (rest := []) ⟨hx, hb, hml, hown, hts⟩ (c_Vb_unweave l D ka H.size v pa ta te wv (nI n) (nI tk) (nI sl) (nI hz) wd wl ) ⟨callB_of 0 hts (gd_lw mw_1_165) rfl rfl rfl (hts _ (tb_of mw_1_1)) (hts _ (tb_of mw_1_162)) (by decide +kernel) ⟨Nat.le_of_ble_eq_true rfl, Nat.le_of_ble_eq_true rfl⟩, (hts _ (tb_of mw_1_163)), (hts _ (tb_of mw_1_164))⟩ ⟨pW_blind, va_recv hK hPc (ci := 4) (q0 := 0) rfl rfl, pW_pre hK hN hPc hDc⟩ rfl rfl hl.1 rfl (lv_room (Nat.le_of_ble_eq_true rfl)) d_La_law_340 ⟨by show cN + 0 ≤ 295586; omega, by show sN + 0 ≤ 8215492; omega⟩) hS (fun q _ h => hFc q h) hFc (fun r_340 u9 t9 H1 locs ht hvm hr_340 hB hz1 hk1 hS => ?_)
        obtain ⟨hrel_340, hP1, hD1⟩ := hB
        rw [ht] at hP1
        obtain ⟨hP, hD⟩ := va_joinQ (wr := [(pa, .inl ((ka 0), 256, .inr (.inl P))), (ta, .inl ((ka 3), 64, .inr (.inr (.inr (.inr tf))))), (te, .inl ((ka 4), m, .inr (.inr (.inr (.inr wf))))), (wd, .inl ((ka 0), K, .inr (.inl wo))), (mo, .inr (5, [.ref a1, .ref a2, .ref a3, .int (nI n), .ref a4, .ref a5, .ref a6, .ref a7, .int (nI wl), .ref a8, .int nxm, .ref a9, .ref b1, .ref b2, .int ldm])), (a1, .inl ((ka 0), 256, .inr (.inl P))), (a2, .inl ((ka 0), 256, .inr (.inl sv))), (a3, .inl ((ka 2), 256, .inl si)), (a4, .inl ((ka 1), 64, .inl zs)), (a5, .inl ((ka 5), 2048, .inl os)), (a6, .inl ((ka 1), 2048, .inl fs)), (a7, .inl ((ka 0), 2048, .inr (.inl ss))), (a8, .inl ((ka 0), 8, .inr (.inl rg))), (a9, .inl ((ka 2), 64, .inl it)), (b1, .inl ((ka 1), 256, .inl tv)), (b2, .inl ((ka 0), 64, .inr (.inl rv)))]) (w1 := [(v, .inr (4, [.ref pa, .ref ta, .ref te, .ref wv, .int (nI n), .int (nI tk), .int (nI sl), .int (nI hz)])), (wv, .inr (2, [.ref wd, .int (nI 0)]))]) hP hD [0, 4] [1, 2, 3, 5, 6, 7, 8, 9, 10, 11, 12, 13, 14, 15, 16, 17] rfl rfl (by decide) (by decide) hk1 hFc hP1 hD1
        generalize H1 = H at hP hS ⊢
        have hP : va_P D classes ([(pa, .inl ((ka 0), 256, .inr (.inl P))), (ta, .inl ((ka 3), 64, .inr (.inr (.inr (.inr tf))))), (te, .inl ((ka 4), m, .inr (.inr (.inr (.inr wf))))), (wd, .inl ((ka 0), K, .inr (.inl wo))), (mo, .inr (5, [.ref a1, .ref a2, .ref a3, .int (nI n), .ref a4, .ref a5, .ref a6, .ref a7, .int (nI wl), .ref a8, .int nxm, .ref a9, .ref b1, .ref b2, .int ldm])), (a1, .inl ((ka 0), 256, .inr (.inl P))), (a2, .inl ((ka 0), 256, .inr (.inl sv))), (a3, .inl ((ka 2), 256, .inl si)), (a4, .inl ((ka 1), 64, .inl zs)), (a5, .inl ((ka 5), 2048, .inl os)), (a6, .inl ((ka 1), 2048, .inl fs)), (a7, .inl ((ka 0), 2048, .inr (.inl ss))), (a8, .inl ((ka 0), 8, .inr (.inl rg))), (a9, .inl ((ka 2), 64, .inl it)), (b1, .inl ((ka 1), 256, .inl tv)), (b2, .inl ((ka 0), 64, .inr (.inl rv))), (v, .inr (4, [.ref pa, .ref ta, .ref te, .ref wv, .int (nI n), .int (nI tk), .int (nI sl), .int (nI hz)])), (wv, .inr (2, [.ref wd, .int (nI 0)]))] ++ tl) H := hP
        have hD : va_D A ([(pa, .inl ((ka 0), 256, .inr (.inl P))), (ta, .inl ((ka 3), 64, .inr (.inr (.inr (.inr tf))))), (te, .inl ((ka 4), m, .inr (.inr (.inr (.inr wf))))), (wd, .inl ((ka 0), K, .inr (.inl wo))), (mo, .inr (5, [.ref a1, .ref a2, .ref a3, .int (nI n), .ref a4, .ref a5, .ref a6, .ref a7, .int (nI wl), .ref a8, .int nxm, .ref a9, .ref b1, .ref b2, .int ldm])), (a1, .inl ((ka 0), 256, .inr (.inl P))), (a2, .inl ((ka 0), 256, .inr (.inl sv))), (a3, .inl ((ka 2), 256, .inl si)), (a4, .inl ((ka 1), 64, .inl zs)), (a5, .inl ((ka 5), 2048, .inl os)), (a6, .inl ((ka 1), 2048, .inl fs)), (a7, .inl ((ka 0), 2048, .inr (.inl ss))), (a8, .inl ((ka 0), 8, .inr (.inl rg))), (a9, .inl ((ka 2), 64, .inl it)), (b1, .inl ((ka 1), 256, .inl tv)), (b2, .inl ((ka 0), 64, .inr (.inl rv))), (v, .inr (4, [.ref pa, .ref ta, .ref te, .ref wv, .int (nI n), .int (nI tk), .int (nI sl), .int (nI hz)])), (wv, .inr (2, [.ref wd, .int (nI 0)]))] ++ tl) := hD
        obtain rfl : r_340 = (nI wl) := hr_340
        refine lv_aload_n hx hb d_La_law_343 rfl (lv_at hl 2 rfl) ?_
        have hPc := hP.sub (ws' := [(mo, .inr (5, [.ref a1, .ref a2, .ref a3, .int (nI n), .ref a4, .ref a5, .ref a6, .ref a7, .int (nI wl), .ref a8, .int nxm, .ref a9, .ref b1, .ref b2, .int ldm]))]) [4] rfl
        have hDc := hD.sub (ws' := [(mo, .inr (5, [.ref a1, .ref a2, .ref a3, .int (nI n), .ref a4, .ref a5, .ref a6, .ref a7, .int (nI wl), .ref a8, .int nxm, .ref a9, .ref b1, .ref b2, .int ldm]))]) [4] (by decide) rfl
        have hFc := va_free (wc := [(mo, .inr (5, [.ref a1, .ref a2, .ref a3, .int (nI n), .ref a4, .ref a5, .ref a6, .ref a7, .int (nI wl), .ref a8, .int nxm, .ref a9, .ref b1, .ref b2, .int ldm]))]) hD hS hA [4] rfl
        refine va_calli (va_runV (As := []) (rest := [.int (nI wl)]) ⟨hx, hb, hml, hown, hts⟩ (c_Mo_unweave l D ka H.size mo a1 a2 a3 a4 a5 a6 a7 a8 a9 b1 b2 (nI n) (nI wl) nxm ldm ) ⟨callB_of 0 hts (gd_lw mw_2_224) rfl rfl rfl (hts _ (tb_of mw_1_4)) (hts _ (tb_of mw_2_221)) (by decide +kernel) ⟨Nat.le_of_ble_eq_true rfl, Nat.le_of_ble_eq_true rfl⟩, (hts _ (tb_of mw_2_222)), (hts _ (tb_of mw_2_223))⟩ ⟨pW_blind, va_recv hK hPc (ci := 5) (q0 := 0) rfl rfl, pW_pre hK hN hPc hDc⟩ rfl rfl hl.1 rfl (lv_room (Nat.le_of_ble_eq_true rfl)) d_La_law_344 ⟨by show cN + 0 ≤ 295586; omega, by show sN + 0 ≤ 8215492; omega⟩) hS (fun q _ h => hFc q h) hFc (fun r_344 u9 t9 H1 locs ht hvm hr_344 hB hz1 hk1 hS => ?_)
        obtain ⟨hrel_344, hP1, hD1⟩ := hB
        rw [ht] at hP1
        obtain ⟨hP, hD⟩ := va_joinQ (wr := [(pa, .inl ((ka 0), 256, .inr (.inl P))), (ta, .inl ((ka 3), 64, .inr (.inr (.inr (.inr tf))))), (te, .inl ((ka 4), m, .inr (.inr (.inr (.inr wf))))), (wd, .inl ((ka 0), K, .inr (.inl wo))), (a1, .inl ((ka 0), 256, .inr (.inl P))), (a2, .inl ((ka 0), 256, .inr (.inl sv))), (a3, .inl ((ka 2), 256, .inl si)), (a4, .inl ((ka 1), 64, .inl zs)), (a5, .inl ((ka 5), 2048, .inl os)), (a6, .inl ((ka 1), 2048, .inl fs)), (a7, .inl ((ka 0), 2048, .inr (.inl ss))), (a8, .inl ((ka 0), 8, .inr (.inl rg))), (a9, .inl ((ka 2), 64, .inl it)), (b1, .inl ((ka 1), 256, .inl tv)), (b2, .inl ((ka 0), 64, .inr (.inl rv))), (v, .inr (4, [.ref pa, .ref ta, .ref te, .ref wv, .int (nI n), .int (nI tk), .int (nI sl), .int (nI hz)])), (wv, .inr (2, [.ref wd, .int (nI 0)]))]) (w1 := [(mo, .inr (5, [.ref a1, .ref a2, .ref a3, .int (nI n), .ref a4, .ref a5, .ref a6, .ref a7, .int (nI 0), .ref a8, .int nxm, .ref a9, .ref b1, .ref b2, .int ldm]))]) hP hD [4] [0, 1, 2, 3, 5, 6, 7, 8, 9, 10, 11, 12, 13, 14, 15, 16, 17] rfl rfl (by decide) (by decide) hk1 hFc hP1 hD1
        generalize H1 = H at hP hS ⊢
        have hP : va_P D classes ([(pa, .inl ((ka 0), 256, .inr (.inl P))), (ta, .inl ((ka 3), 64, .inr (.inr (.inr (.inr tf))))), (te, .inl ((ka 4), m, .inr (.inr (.inr (.inr wf))))), (wd, .inl ((ka 0), K, .inr (.inl wo))), (a1, .inl ((ka 0), 256, .inr (.inl P))), (a2, .inl ((ka 0), 256, .inr (.inl sv))), (a3, .inl ((ka 2), 256, .inl si)), (a4, .inl ((ka 1), 64, .inl zs)), (a5, .inl ((ka 5), 2048, .inl os)), (a6, .inl ((ka 1), 2048, .inl fs)), (a7, .inl ((ka 0), 2048, .inr (.inl ss))), (a8, .inl ((ka 0), 8, .inr (.inl rg))), (a9, .inl ((ka 2), 64, .inl it)), (b1, .inl ((ka 1), 256, .inl tv)), (b2, .inl ((ka 0), 64, .inr (.inl rv))), (v, .inr (4, [.ref pa, .ref ta, .ref te, .ref wv, .int (nI n), .int (nI tk), .int (nI sl), .int (nI hz)])), (wv, .inr (2, [.ref wd, .int (nI 0)])), (mo, .inr (5, [.ref a1, .ref a2, .ref a3, .int (nI n), .ref a4, .ref a5, .ref a6, .ref a7, .int (nI 0), .ref a8, .int nxm, .ref a9, .ref b1, .ref b2, .int ldm]))] ++ tl) H := hP
        have hD : va_D A ([(pa, .inl ((ka 0), 256, .inr (.inl P))), (ta, .inl ((ka 3), 64, .inr (.inr (.inr (.inr tf))))), (te, .inl ((ka 4), m, .inr (.inr (.inr (.inr wf))))), (wd, .inl ((ka 0), K, .inr (.inl wo))), (a1, .inl ((ka 0), 256, .inr (.inl P))), (a2, .inl ((ka 0), 256, .inr (.inl sv))), (a3, .inl ((ka 2), 256, .inl si)), (a4, .inl ((ka 1), 64, .inl zs)), (a5, .inl ((ka 5), 2048, .inl os)), (a6, .inl ((ka 1), 2048, .inl fs)), (a7, .inl ((ka 0), 2048, .inr (.inl ss))), (a8, .inl ((ka 0), 8, .inr (.inl rg))), (a9, .inl ((ka 2), 64, .inl it)), (b1, .inl ((ka 1), 256, .inl tv)), (b2, .inl ((ka 0), 64, .inr (.inl rv))), (v, .inr (4, [.ref pa, .ref ta, .ref te, .ref wv, .int (nI n), .int (nI tk), .int (nI sl), .int (nI hz)])), (wv, .inr (2, [.ref wd, .int (nI 0)])), (mo, .inr (5, [.ref a1, .ref a2, .ref a3, .int (nI n), .ref a4, .ref a5, .ref a6, .ref a7, .int (nI 0), .ref a8, .int nxm, .ref a9, .ref b1, .ref b2, .int ldm]))] ++ tl) := hD
        obtain rfl : r_344 = (nI wl) := hr_344
        refine lv_icmp_eq (tgt := 435) hx hb d_La_law_347 (by decide) (fun c_347 => ?_) (fun c_347 => absurd rfl c_347)
        refine lv_iinc (v := nI (5 * (q + 1) + 1)) (lv' := [(3, .int (nI (5 * (q + 1) + 1))), (1, .ref v), (2, .ref mo), (0, .ref b)]) hx hb d_La_law_435 hl (k := 0) rfl (law_i5 q) (by decide) rfl (fun ls hl => ?_)
        refine lv_goto (tgt := 28) hx hb d_La_law_438 (by decide) ?_
        exact ih (q + 1) wd n nT tk sl hz 0 K cN sN P wo tf wf tl wk pgs td sv ss rg rv si zs os fs it tv nxm ldm (by omega) hT hfr (⟨by omega, by omega, by omega⟩) hKK hM (by omega) (by omega) (by omega) _ _ (hP.part [15, 0, 1, 2, 16, 3, 17, 4, 5, 6, 7, 8, 9, 10, 11, 12, 13, 14] rfl) (hD.part [15, 0, 1, 2, 16, 3, 17, 4, 5, 6, 7, 8, 9, 10, 11, 12, 13, 14] (by decide) rfl) hS ls (lv_sub hl [0, 1, 2, 3] rfl)
      · skip
        refine lv_tableIn (off := 310) (tgt := 352) hx hb d_La_law_42 (by decide) (by decide) (by decide) (by decide) ?_
        refine lv_aload_n hx hb d_La_law_352 rfl (lv_at hl 1 rfl) ?_
        have hPc := hP.part (cx := [(v, .inr (4, [.ref pa, .ref ta, .ref te, .ref wv, .int (nI n), .int (nI tk), .int (nI sl), .int (nI hz)])), (pa, .inl ((ka 0), 256, .inr (.inl P))), (ta, .inl ((ka 3), 64, .inr (.inr (.inr (.inr tf))))), (te, .inl ((ka 4), m, .inr (.inr (.inr (.inr wf))))), (wv, .inr (2, [.ref wd, .int (nI wl)])), (wd, .inl ((ka 0), K, .inr (.inl wo)))]) [0, 1, 2, 3, 4, 5] rfl
        have hDc := hD.part (cx := [(v, .inr (4, [.ref pa, .ref ta, .ref te, .ref wv, .int (nI n), .int (nI tk), .int (nI sl), .int (nI hz)])), (pa, .inl ((ka 0), 256, .inr (.inl P))), (ta, .inl ((ka 3), 64, .inr (.inr (.inr (.inr tf))))), (te, .inl ((ka 4), m, .inr (.inr (.inr (.inr wf))))), (wv, .inr (2, [.ref wd, .int (nI wl)])), (wd, .inl ((ka 0), K, .inr (.inl wo)))]) [0, 1, 2, 3, 4, 5] (by decide) rfl
        have hFc := va_freeP (cx := [(v, .inr (4, [.ref pa, .ref ta, .ref te, .ref wv, .int (nI n), .int (nI tk), .int (nI sl), .int (nI hz)])), (pa, .inl ((ka 0), 256, .inr (.inl P))), (ta, .inl ((ka 3), 64, .inr (.inr (.inr (.inr tf))))), (te, .inl ((ka 4), m, .inr (.inr (.inr (.inr wf))))), (wv, .inr (2, [.ref wd, .int (nI wl)])), (wd, .inl ((ka 0), K, .inr (.inl wo)))]) hD hS hA [0, 1, 2, 3, 4, 5] rfl
        refine metv_calli (As := []) (rest := []) (mc := 160) (ms := 24976) ⟨hx, hb, hml, hown, hts⟩ (c_Vb_execute l D ka H.size v pa ta te wv wd n nT m tk sl hz wl K P wo tf wf tl pgs td wk hT hfr hW.1 hW.2.2 (kOK_8 hKK).2) ⟨callB_of 0 hts (gd_lw mw_1_173) rfl rfl rfl (hts _ (tb_of mw_1_1)) (hts _ (tb_of mw_1_170)) (by decide +kernel) ⟨Nat.le_of_ble_eq_true rfl, Nat.le_of_ble_eq_true rfl⟩, (hts _ (tb_of mw_1_171)), (hts _ (tb_of mw_1_172))⟩ ⟨pW_blind, va_recv hK hPc (ci := 4) (q0 := 0) rfl rfl, pW_pre hK hN hPc hDc⟩ rfl hl.1 rfl (lv_room (Nat.le_of_ble_eq_true rfl)) d_La_law_353 ⟨by show cN + 160 ≤ 295586; omega, by show sN + 24976 ≤ 8215492; omega⟩ hS (fun z _ h => hFc z h) hFc (fun k9 k8 r_353 u9 t9 H1 locs ht hvm hr_353 hB hz1 hk1 hS => ?_)
        obtain ⟨P2, tk2, sl2, hz2, wk2, td2, tl2, wf2, aw, ⟨hT2, hP2e, hfr2, htd2, hmk2, hk9, hk8⟩, hP1, hD1⟩ := hB
        rw [ht] at hP1
        obtain ⟨hP, hD⟩ := va_joinP (wr := [(mo, .inr (5, [.ref a1, .ref a2, .ref a3, .int (nI n), .ref a4, .ref a5, .ref a6, .ref a7, .int (nI wl), .ref a8, .int nxm, .ref a9, .ref b1, .ref b2, .int ldm])), (a1, .inl ((ka 0), 256, .inr (.inl P))), (a2, .inl ((ka 0), 256, .inr (.inl sv))), (a3, .inl ((ka 2), 256, .inl si)), (a4, .inl ((ka 1), 64, .inl zs)), (a5, .inl ((ka 5), 2048, .inl os)), (a6, .inl ((ka 1), 2048, .inl fs)), (a7, .inl ((ka 0), 2048, .inr (.inl ss))), (a8, .inl ((ka 0), 8, .inr (.inl rg))), (a9, .inl ((ka 2), 64, .inl it)), (b1, .inl ((ka 1), 256, .inl tv)), (b2, .inl ((ka 0), 64, .inr (.inl rv)))]) (rx := [(v, .inr (4, [.ref pa, .ref ta, .ref te, .ref wv, .int (nI n), .int (nI tk2), .int (nI sl2), .int (nI hz2)])), (pa, .inl ((ka 0), 256, .inr (.inl P2))), (ta, .inl ((ka 3), 64, .inr (.inr (.inr (.inr tf))))), (te, .inl ((ka 4), m, .inr (.inr (.inr (.inr wf2))))), (wv, .inr (2, [.ref wd, .int (nI wl)])), (wd, .inl ((ka 0), K, .inr (.inl wo)))]) (pl1 := tl2) hP hD [0, 1, 2, 3, 4, 5] [6, 7, 8, 9, 10, 11, 12, 13, 14, 15, 16, 17] rfl rfl (by decide) (by decide) hk1 hFc hP1 hD1
        generalize H1 = H at hP hS ⊢
        subst hP2e
        have hP : va_P D classes ([(mo, .inr (5, [.ref a1, .ref a2, .ref a3, .int (nI n), .ref a4, .ref a5, .ref a6, .ref a7, .int (nI wl), .ref a8, .int nxm, .ref a9, .ref b1, .ref b2, .int ldm])), (a1, .inl ((ka 0), 256, .inr (.inl P))), (a2, .inl ((ka 0), 256, .inr (.inl sv))), (a3, .inl ((ka 2), 256, .inl si)), (a4, .inl ((ka 1), 64, .inl zs)), (a5, .inl ((ka 5), 2048, .inl os)), (a6, .inl ((ka 1), 2048, .inl fs)), (a7, .inl ((ka 0), 2048, .inr (.inl ss))), (a8, .inl ((ka 0), 8, .inr (.inl rg))), (a9, .inl ((ka 2), 64, .inl it)), (b1, .inl ((ka 1), 256, .inl tv)), (b2, .inl ((ka 0), 64, .inr (.inl rv))), (v, .inr (4, [.ref pa, .ref ta, .ref te, .ref wv, .int (nI n), .int (nI tk2), .int (nI sl2), .int (nI hz2)])), (pa, .inl ((ka 0), 256, .inr (.inl (bk_P pgs P n)))), (ta, .inl ((ka 3), 64, .inr (.inr (.inr (.inr tf))))), (te, .inl ((ka 4), m, .inr (.inr (.inr (.inr wf2))))), (wv, .inr (2, [.ref wd, .int (nI wl)])), (wd, .inl ((ka 0), K, .inr (.inl wo)))] ++ tl2) H := hP
        have hD : va_D A ([(mo, .inr (5, [.ref a1, .ref a2, .ref a3, .int (nI n), .ref a4, .ref a5, .ref a6, .ref a7, .int (nI wl), .ref a8, .int nxm, .ref a9, .ref b1, .ref b2, .int ldm])), (a1, .inl ((ka 0), 256, .inr (.inl P))), (a2, .inl ((ka 0), 256, .inr (.inl sv))), (a3, .inl ((ka 2), 256, .inl si)), (a4, .inl ((ka 1), 64, .inl zs)), (a5, .inl ((ka 5), 2048, .inl os)), (a6, .inl ((ka 1), 2048, .inl fs)), (a7, .inl ((ka 0), 2048, .inr (.inl ss))), (a8, .inl ((ka 0), 8, .inr (.inl rg))), (a9, .inl ((ka 2), 64, .inl it)), (b1, .inl ((ka 1), 256, .inl tv)), (b2, .inl ((ka 0), 64, .inr (.inl rv))), (v, .inr (4, [.ref pa, .ref ta, .ref te, .ref wv, .int (nI n), .int (nI tk2), .int (nI sl2), .int (nI hz2)])), (pa, .inl ((ka 0), 256, .inr (.inl (bk_P pgs P n)))), (ta, .inl ((ka 3), 64, .inr (.inr (.inr (.inr tf))))), (te, .inl ((ka 4), m, .inr (.inr (.inr (.inr wf2))))), (wv, .inr (2, [.ref wd, .int (nI wl)])), (wd, .inl ((ka 0), K, .inr (.inl wo)))] ++ tl2) := hD
        obtain rfl : r_353 = nI (bk_H pgs P n) := hr_353
        have hmk3 := mkC_le wf2 m
        refine lv_aload_n hx hb d_La_law_356 rfl (lv_at hl 2 rfl) ?_
        have hPc := hP.sub (ws' := [(mo, .inr (5, [.ref a1, .ref a2, .ref a3, .int (nI n), .ref a4, .ref a5, .ref a6, .ref a7, .int (nI wl), .ref a8, .int nxm, .ref a9, .ref b1, .ref b2, .int ldm])), (a1, .inl ((ka 0), 256, .inr (.inl P))), (a2, .inl ((ka 0), 256, .inr (.inl sv))), (a3, .inl ((ka 2), 256, .inl si)), (a4, .inl ((ka 1), 64, .inl zs)), (a5, .inl ((ka 5), 2048, .inl os)), (a6, .inl ((ka 1), 2048, .inl fs)), (a7, .inl ((ka 0), 2048, .inr (.inl ss))), (a8, .inl ((ka 0), 8, .inr (.inl rg))), (a9, .inl ((ka 2), 64, .inl it)), (b1, .inl ((ka 1), 256, .inl tv)), (b2, .inl ((ka 0), 64, .inr (.inl rv)))]) [0, 1, 2, 3, 4, 5, 6, 7, 8, 9, 10, 11] rfl
        have hDc := hD.sub (ws' := [(mo, .inr (5, [.ref a1, .ref a2, .ref a3, .int (nI n), .ref a4, .ref a5, .ref a6, .ref a7, .int (nI wl), .ref a8, .int nxm, .ref a9, .ref b1, .ref b2, .int ldm])), (a1, .inl ((ka 0), 256, .inr (.inl P))), (a2, .inl ((ka 0), 256, .inr (.inl sv))), (a3, .inl ((ka 2), 256, .inl si)), (a4, .inl ((ka 1), 64, .inl zs)), (a5, .inl ((ka 5), 2048, .inl os)), (a6, .inl ((ka 1), 2048, .inl fs)), (a7, .inl ((ka 0), 2048, .inr (.inl ss))), (a8, .inl ((ka 0), 8, .inr (.inl rg))), (a9, .inl ((ka 2), 64, .inl it)), (b1, .inl ((ka 1), 256, .inl tv)), (b2, .inl ((ka 0), 64, .inr (.inl rv)))]) [0, 1, 2, 3, 4, 5, 6, 7, 8, 9, 10, 11] (by decide) rfl
        have hFc := va_free (wc := [(mo, .inr (5, [.ref a1, .ref a2, .ref a3, .int (nI n), .ref a4, .ref a5, .ref a6, .ref a7, .int (nI wl), .ref a8, .int nxm, .ref a9, .ref b1, .ref b2, .int ldm])), (a1, .inl ((ka 0), 256, .inr (.inl P))), (a2, .inl ((ka 0), 256, .inr (.inl sv))), (a3, .inl ((ka 2), 256, .inl si)), (a4, .inl ((ka 1), 64, .inl zs)), (a5, .inl ((ka 5), 2048, .inl os)), (a6, .inl ((ka 1), 2048, .inl fs)), (a7, .inl ((ka 0), 2048, .inr (.inl ss))), (a8, .inl ((ka 0), 8, .inr (.inl rg))), (a9, .inl ((ka 2), 64, .inl it)), (b1, .inl ((ka 1), 256, .inl tv)), (b2, .inl ((ka 0), 64, .inr (.inl rv)))]) hD hS hA [0, 1, 2, 3, 4, 5, 6, 7, 8, 9, 10, 11] rfl
        refine va_calli (va_runV (As := []) (rest := [.int (nI (bk_H pgs P n))]) ⟨hx, hb, hml, hown, hts⟩ (c_Mo_execute l D ka H.size mo a1 a2 a3 a4 a5 a6 a7 a8 a9 b1 b2 n (nI wl) nxm ldm P sv ss rg rv si zs os fs it tv pgs (fun t ht => ⟨(hM t ht).1, (hM t ht).2.1⟩) hn64) ⟨callB_of 0 hts (gd_lw mw_2_228) rfl rfl rfl (hts _ (tb_of mw_1_4)) (hts _ (tb_of mw_2_225)) (by decide +kernel) ⟨Nat.le_of_ble_eq_true rfl, Nat.le_of_ble_eq_true rfl⟩, (hts _ (tb_of mw_2_226)), (hts _ (tb_of mw_2_227))⟩ ⟨pW_blind, va_recv hK hPc (ci := 5) (q0 := 0) rfl rfl, pW_pre hK hN hPc hDc⟩ rfl rfl hl.1 rfl (lv_room (Nat.le_of_ble_eq_true rfl)) d_La_law_357 ⟨by show cN + k9 + 0 ≤ 295586; omega, by show sN + k8 + 0 ≤ 8215492; omega⟩) hS (fun q _ h => hFc q h) hFc (fun r_357 u9 t9 H1 locs ht hvm hr_357 hB hz1 hk1 hS => ?_)
        obtain ⟨rg2, sv2, rv2, si2, it2, tv2, nx2, ld2, hrel_357, hP1, hD1⟩ := hB
        rw [ht] at hP1
        obtain ⟨hP, hD⟩ := va_joinQ (wr := [(v, .inr (4, [.ref pa, .ref ta, .ref te, .ref wv, .int (nI n), .int (nI tk2), .int (nI sl2), .int (nI hz2)])), (pa, .inl ((ka 0), 256, .inr (.inl (bk_P pgs P n)))), (ta, .inl ((ka 3), 64, .inr (.inr (.inr (.inr tf))))), (te, .inl ((ka 4), m, .inr (.inr (.inr (.inr wf2))))), (wv, .inr (2, [.ref wd, .int (nI wl)])), (wd, .inl ((ka 0), K, .inr (.inl wo)))]) (w1 := [(mo, .inr (5, [.ref a1, .ref a2, .ref a3, .int (nI n), .ref a4, .ref a5, .ref a6, .ref a7, .int (nI wl), .ref a8, .int nx2, .ref a9, .ref b1, .ref b2, .int ld2])), (a1, .inl ((ka 0), 256, .inr (.inl (bk_P pgs P n)))), (a2, .inl ((ka 0), 256, .inr (.inl sv2))), (a3, .inl ((ka 2), 256, .inl si2)), (a4, .inl ((ka 1), 64, .inl zs)), (a5, .inl ((ka 5), 2048, .inl os)), (a6, .inl ((ka 1), 2048, .inl fs)), (a7, .inl ((ka 0), 2048, .inr (.inl ss))), (a8, .inl ((ka 0), 8, .inr (.inl rg2))), (a9, .inl ((ka 2), 64, .inl it2)), (b1, .inl ((ka 1), 256, .inl tv2)), (b2, .inl ((ka 0), 64, .inr (.inl rv2)))]) hP hD [0, 1, 2, 3, 4, 5, 6, 7, 8, 9, 10, 11] [12, 13, 14, 15, 16, 17] rfl rfl (by decide) (by decide) hk1 hFc hP1 hD1
        generalize H1 = H at hP hS ⊢
        have hP : va_P D classes ([(v, .inr (4, [.ref pa, .ref ta, .ref te, .ref wv, .int (nI n), .int (nI tk2), .int (nI sl2), .int (nI hz2)])), (pa, .inl ((ka 0), 256, .inr (.inl (bk_P pgs P n)))), (ta, .inl ((ka 3), 64, .inr (.inr (.inr (.inr tf))))), (te, .inl ((ka 4), m, .inr (.inr (.inr (.inr wf2))))), (wv, .inr (2, [.ref wd, .int (nI wl)])), (wd, .inl ((ka 0), K, .inr (.inl wo))), (mo, .inr (5, [.ref a1, .ref a2, .ref a3, .int (nI n), .ref a4, .ref a5, .ref a6, .ref a7, .int (nI wl), .ref a8, .int nx2, .ref a9, .ref b1, .ref b2, .int ld2])), (a1, .inl ((ka 0), 256, .inr (.inl (bk_P pgs P n)))), (a2, .inl ((ka 0), 256, .inr (.inl sv2))), (a3, .inl ((ka 2), 256, .inl si2)), (a4, .inl ((ka 1), 64, .inl zs)), (a5, .inl ((ka 5), 2048, .inl os)), (a6, .inl ((ka 1), 2048, .inl fs)), (a7, .inl ((ka 0), 2048, .inr (.inl ss))), (a8, .inl ((ka 0), 8, .inr (.inl rg2))), (a9, .inl ((ka 2), 64, .inl it2)), (b1, .inl ((ka 1), 256, .inl tv2)), (b2, .inl ((ka 0), 64, .inr (.inl rv2)))] ++ tl2) H := hP
        have hD : va_D A ([(v, .inr (4, [.ref pa, .ref ta, .ref te, .ref wv, .int (nI n), .int (nI tk2), .int (nI sl2), .int (nI hz2)])), (pa, .inl ((ka 0), 256, .inr (.inl (bk_P pgs P n)))), (ta, .inl ((ka 3), 64, .inr (.inr (.inr (.inr tf))))), (te, .inl ((ka 4), m, .inr (.inr (.inr (.inr wf2))))), (wv, .inr (2, [.ref wd, .int (nI wl)])), (wd, .inl ((ka 0), K, .inr (.inl wo))), (mo, .inr (5, [.ref a1, .ref a2, .ref a3, .int (nI n), .ref a4, .ref a5, .ref a6, .ref a7, .int (nI wl), .ref a8, .int nx2, .ref a9, .ref b1, .ref b2, .int ld2])), (a1, .inl ((ka 0), 256, .inr (.inl (bk_P pgs P n)))), (a2, .inl ((ka 0), 256, .inr (.inl sv2))), (a3, .inl ((ka 2), 256, .inl si2)), (a4, .inl ((ka 1), 64, .inl zs)), (a5, .inl ((ka 5), 2048, .inl os)), (a6, .inl ((ka 1), 2048, .inl fs)), (a7, .inl ((ka 0), 2048, .inr (.inl ss))), (a8, .inl ((ka 0), 8, .inr (.inl rg2))), (a9, .inl ((ka 2), 64, .inl it2)), (b1, .inl ((ka 1), 256, .inl tv2)), (b2, .inl ((ka 0), 64, .inr (.inl rv2)))] ++ tl2) := hD
        obtain rfl : r_357 = (nI (bk_H pgs P n)) := hr_357
        refine lv_icmp_eq (tgt := 435) hx hb d_La_law_360 (by decide) (fun c_360 => ?_) (fun c_360 => absurd rfl c_360)
        refine lv_iinc (v := nI (5 * (q + 1) + 1)) (lv' := [(3, .int (nI (5 * (q + 1) + 1))), (1, .ref v), (2, .ref mo), (0, .ref b)]) hx hb d_La_law_435 hl (k := 0) rfl (law_i5 q) (by decide) rfl (fun ls hl => ?_)
        refine lv_goto (tgt := 28) hx hb d_La_law_438 (by decide) ?_
        exact ih (q + 1) wd n nT tk2 sl2 hz2 wl K (cN + k9) (sN + k8) (bk_P pgs P n) wo tf wf2 tl2 wk2 pgs td2 sv2 ss rg2 rv2 si2 zs os fs it2 tv2 nx2 ld2 (by omega) hT2 hfr2 hW hKK (mS_ex hM htd2 hrel_357) (by omega) (by omega) (by omega) _ _ hP hD hS ls (lv_sub hl [0, 1, 2, 3] rfl)
      · skip
        refine lv_tableIn (off := 323) (tgt := 365) hx hb d_La_law_42 (by decide) (by decide) (by decide) (by decide) ?_
        refine lv_aload_n hx hb d_La_law_365 rfl (lv_at hl 1 rfl) ?_
        have hPc := hP.sub (ws' := [(v, .inr (4, [.ref pa, .ref ta, .ref te, .ref wv, .int (nI n), .int (nI tk), .int (nI sl), .int (nI hz)]))]) [0] rfl
        refine vp_callSi (run_of (va_runV (As := []) (rest := []) ⟨hx, hb, hml, hown, hts⟩ (c_Vb_count l D ka v pa ta te wv (nI n) (nI tk) (nI sl) (nI hz) ) ⟨callB_of 0 hts (gd_lw mw_2_119) rfl rfl rfl (hts _ (tb_of mw_1_1)) (hts _ (tb_of mw_2_116)) (by decide +kernel) ⟨Nat.le_of_ble_eq_true rfl, Nat.le_of_ble_eq_true rfl⟩, (hts _ (tb_of mw_2_117)), (hts _ (tb_of mw_2_118))⟩ ⟨pR_blind, va_recv hK hPc (ci := 4) (q0 := 0) rfl rfl, pR_pre hK hN hPc⟩ rfl rfl hl.1 rfl (lv_room (Nat.le_of_ble_eq_true rfl)) d_La_law_366 ⟨by show cN + 0 ≤ 295586; omega, by show sN + 0 ≤ 8215492; omega⟩)) (fun r_366 hr_366 => ?_)
        obtain rfl : r_366 = (nI n) := hr_366
        refine lv_aload_n hx hb d_La_law_369 rfl (lv_at hl 2 rfl) ?_
        have hPc := hP.sub (ws' := [(mo, .inr (5, [.ref a1, .ref a2, .ref a3, .int (nI n), .ref a4, .ref a5, .ref a6, .ref a7, .int (nI wl), .ref a8, .int nxm, .ref a9, .ref b1, .ref b2, .int ldm]))]) [6] rfl
        refine vp_callSi (run_of (va_runV (As := []) (rest := [.int (nI n)]) ⟨hx, hb, hml, hown, hts⟩ (c_Mo_count l D ka mo a1 a2 a3 a4 a5 a6 a7 a8 a9 b1 b2 (nI n) (nI wl) nxm ldm ) ⟨callB_of 0 hts (gd_lw mw_3_9) rfl rfl rfl (hts _ (tb_of mw_1_4)) (hts _ (tb_of mw_3_6)) (by decide +kernel) ⟨Nat.le_of_ble_eq_true rfl, Nat.le_of_ble_eq_true rfl⟩, (hts _ (tb_of mw_3_7)), (hts _ (tb_of mw_3_8))⟩ ⟨pR_blind, va_recv hK hPc (ci := 5) (q0 := 0) rfl rfl, pR_pre hK hN hPc⟩ rfl rfl hl.1 rfl (lv_room (Nat.le_of_ble_eq_true rfl)) d_La_law_370 ⟨by show cN + 0 ≤ 295586; omega, by show sN + 0 ≤ 8215492; omega⟩)) (fun r_370 hr_370 => ?_)
        obtain rfl : r_370 = (nI n) := hr_370
        refine lv_icmp_eq (tgt := 435) hx hb d_La_law_373 (by decide) (fun c_373 => ?_) (fun c_373 => absurd rfl c_373)
        refine lv_iinc (v := nI (5 * (q + 1) + 1)) (lv' := [(3, .int (nI (5 * (q + 1) + 1))), (1, .ref v), (2, .ref mo), (0, .ref b)]) hx hb d_La_law_435 hl (k := 0) rfl (law_i5 q) (by decide) rfl (fun ls hl => ?_)
        refine lv_goto (tgt := 28) hx hb d_La_law_438 (by decide) ?_
        exact ih (q + 1) wd n nT tk sl hz wl K cN sN P wo tf wf tl wk pgs td sv ss rg rv si zs os fs it tv nxm ldm (by omega) hT hfr hW hKK hM (by omega) (by omega) (by omega) _ _ hP hD hS ls (lv_sub hl [0, 1, 2, 3] rfl)
      · skip
        refine lv_tableIn (off := 336) (tgt := 378) hx hb d_La_law_42 (by decide) (by decide) (by decide) (by decide) ?_
        rcases ix_cases (x := xs (5 * q + 2)) hn64 td with hx0 | ⟨j, hj, hje, hdj⟩ | ⟨j, rj, hj, hje, hdj⟩
        · refine lv_aload_n hx hb d_La_law_378 rfl (lv_at hl 1 rfl) ?_
          by_cases hy0 : ¬ xs (5 * q + 3) < 0 ∧ xs (5 * q + 3) ≤ 3
          · obtain ⟨c, hc, hce⟩ := wh_in hy0
            refine lv_aload_n hx hb d_La_law_379 rfl (lv_at hl 3 rfl) ?_
            refine lv_iload_n hx hb d_La_law_380 rfl (lv_at hl 0 rfl) ?_
            refine lv_iconst (v := (nI 1)) hx hb d_La_law_381 (by decide) ?_
            refine lv_iadd hx hb d_La_law_382 ?_
            refine lv_topi (fun v_382 ev_382 => ?_)
            obtain rfl : v_382 = nI (5 * q + 2) := ev_382.trans (nI_add _ _)
            refine my_sld (k := (5 * q + 2)) hx hb hX hbl hbA hS (by omega) (by omega) d_La_law_383 ?_
            refine lv_aload_n hx hb d_La_law_384 rfl (lv_at hl 3 rfl) ?_
            refine lv_iload_n hx hb d_La_law_385 rfl (lv_at hl 0 rfl) ?_
            refine lv_iconst (v := (nI 2)) hx hb d_La_law_386 (by decide) ?_
            refine lv_iadd hx hb d_La_law_387 ?_
            refine lv_topi (fun v_387 ev_387 => ?_)
            obtain rfl : v_387 = nI (5 * q + 3) := ev_387.trans (nI_add _ _)
            refine my_sld (k := (5 * q + 3)) hx hb hX hbl hbA hS (by omega) (by omega) d_La_law_388 ?_
            refine lv_topi (fun v_388 ev_388 => ?_)
            obtain rfl : v_388 = nI c := ev_388.trans hce
            have hPc := hP.sub (ws' := [(v, .inr (4, [.ref pa, .ref ta, .ref te, .ref wv, .int (nI n), .int (nI tk), .int (nI sl), .int (nI hz)]))]) [0] rfl
            refine vp_callSi (run_of (va_runV (As := [.int (xs (5 * q + 2)), .int (nI c)]) (rest := []) ⟨hx, hb, hml, hown, hts⟩ (c_Vb_told_no l D ka v pa ta te wv n (xs (5 * q + 2)) (nI c) (nI tk) (nI sl) (nI hz) hx0) ⟨callB_of 2 hts (gd_lw mw_2_123) rfl rfl rfl (hts _ (tb_of mw_1_1)) (hts _ (tb_of mw_2_120)) (by decide +kernel) ⟨Nat.le_of_ble_eq_true rfl, Nat.le_of_ble_eq_true rfl⟩, (hts _ (tb_of mw_2_121)), (hts _ (tb_of mw_2_122))⟩ ⟨pR_blind, va_recv hK hPc (ci := 4) (q0 := 0) rfl rfl, pR_pre hK hN hPc⟩ rfl rfl hl.1 rfl (lv_room (Nat.le_of_ble_eq_true rfl)) d_La_law_389 ⟨by show cN + 0 ≤ 295586; omega, by show sN + 0 ≤ 8215492; omega⟩)) (fun r_389 hr_389 => ?_)
            obtain rfl : r_389 = (-1) := hr_389
            refine lv_aload_n hx hb d_La_law_392 rfl (lv_at hl 2 rfl) ?_
            refine lv_aload_n hx hb d_La_law_393 rfl (lv_at hl 3 rfl) ?_
            refine lv_iload_n hx hb d_La_law_394 rfl (lv_at hl 0 rfl) ?_
            refine lv_iconst (v := (nI 1)) hx hb d_La_law_395 (by decide) ?_
            refine lv_iadd hx hb d_La_law_396 ?_
            refine lv_topi (fun v_396 ev_396 => ?_)
            obtain rfl : v_396 = nI (5 * q + 2) := ev_396.trans (nI_add _ _)
            refine my_sld (k := (5 * q + 2)) hx hb hX hbl hbA hS (by omega) (by omega) d_La_law_397 ?_
            refine lv_aload_n hx hb d_La_law_398 rfl (lv_at hl 3 rfl) ?_
            refine lv_iload_n hx hb d_La_law_399 rfl (lv_at hl 0 rfl) ?_
            refine lv_iconst (v := (nI 2)) hx hb d_La_law_400 (by decide) ?_
            refine lv_iadd hx hb d_La_law_401 ?_
            refine lv_topi (fun v_401 ev_401 => ?_)
            obtain rfl : v_401 = nI (5 * q + 3) := ev_401.trans (nI_add _ _)
            refine my_sld (k := (5 * q + 3)) hx hb hX hbl hbA hS (by omega) (by omega) d_La_law_402 ?_
            refine lv_topi (fun v_402 ev_402 => ?_)
            obtain rfl : v_402 = nI c := ev_402.trans hce
            have hPc := hP.sub (ws' := [(mo, .inr (5, [.ref a1, .ref a2, .ref a3, .int (nI n), .ref a4, .ref a5, .ref a6, .ref a7, .int (nI wl), .ref a8, .int nxm, .ref a9, .ref b1, .ref b2, .int ldm]))]) [6] rfl
            refine vp_callSi (run_of (va_runV (As := [.int (xs (5 * q + 2)), .int (nI c)]) (rest := [.int (-1)]) ⟨hx, hb, hml, hown, hts⟩ (c_Mo_told_no l D ka mo a1 a2 a3 a4 a5 a6 a7 a8 a9 b1 b2 n (xs (5 * q + 2)) (nI c) (nI wl) nxm ldm hx0) ⟨callB_of 2 hts (gd_lw mw_3_13) rfl rfl rfl (hts _ (tb_of mw_1_4)) (hts _ (tb_of mw_3_10)) (by decide +kernel) ⟨Nat.le_of_ble_eq_true rfl, Nat.le_of_ble_eq_true rfl⟩, (hts _ (tb_of mw_3_11)), (hts _ (tb_of mw_3_12))⟩ ⟨pR_blind, va_recv hK hPc (ci := 5) (q0 := 0) rfl rfl, pR_pre hK hN hPc⟩ rfl rfl hl.1 rfl (lv_room (Nat.le_of_ble_eq_true rfl)) d_La_law_403 ⟨by show cN + 0 ≤ 295586; omega, by show sN + 0 ≤ 8215492; omega⟩)) (fun r_403 hr_403 => ?_)
            obtain rfl : r_403 = (-1) := hr_403
            refine lv_icmp_eq (tgt := 435) hx hb d_La_law_406 (by decide) (fun c_406 => ?_) (fun c_406 => absurd rfl c_406)
            refine lv_iinc (v := nI (5 * (q + 1) + 1)) (lv' := [(3, .int (nI (5 * (q + 1) + 1))), (1, .ref v), (2, .ref mo), (0, .ref b)]) hx hb d_La_law_435 hl (k := 0) rfl (law_i5 q) (by decide) rfl (fun ls hl => ?_)
            refine lv_goto (tgt := 28) hx hb d_La_law_438 (by decide) ?_
            exact ih (q + 1) wd n nT tk sl hz wl K cN sN P wo tf wf tl wk pgs td sv ss rg rv si zs os fs it tv nxm ldm (by omega) hT hfr hW hKK hM (by omega) (by omega) (by omega) _ _ hP hD hS ls (lv_sub hl [0, 1, 2, 3] rfl)
          · refine lv_aload_n hx hb d_La_law_379 rfl (lv_at hl 3 rfl) ?_
            refine lv_iload_n hx hb d_La_law_380 rfl (lv_at hl 0 rfl) ?_
            refine lv_iconst (v := (nI 1)) hx hb d_La_law_381 (by decide) ?_
            refine lv_iadd hx hb d_La_law_382 ?_
            refine lv_topi (fun v_382 ev_382 => ?_)
            obtain rfl : v_382 = nI (5 * q + 2) := ev_382.trans (nI_add _ _)
            refine my_sld (k := (5 * q + 2)) hx hb hX hbl hbA hS (by omega) (by omega) d_La_law_383 ?_
            refine lv_aload_n hx hb d_La_law_384 rfl (lv_at hl 3 rfl) ?_
            refine lv_iload_n hx hb d_La_law_385 rfl (lv_at hl 0 rfl) ?_
            refine lv_iconst (v := (nI 2)) hx hb d_La_law_386 (by decide) ?_
            refine lv_iadd hx hb d_La_law_387 ?_
            refine lv_topi (fun v_387 ev_387 => ?_)
            obtain rfl : v_387 = nI (5 * q + 3) := ev_387.trans (nI_add _ _)
            refine my_sld (k := (5 * q + 3)) hx hb hX hbl hbA hS (by omega) (by omega) d_La_law_388 ?_
            have hPc := hP.sub (ws' := [(v, .inr (4, [.ref pa, .ref ta, .ref te, .ref wv, .int (nI n), .int (nI tk), .int (nI sl), .int (nI hz)]))]) [0] rfl
            refine vp_callSi (run_of (va_runV (As := [.int (xs (5 * q + 2)), .int (xs (5 * q + 3))]) (rest := []) ⟨hx, hb, hml, hown, hts⟩ (c_Vb_told_no l D ka v pa ta te wv n (xs (5 * q + 2)) (xs (5 * q + 3)) (nI tk) (nI sl) (nI hz) hx0) ⟨callB_of 2 hts (gd_lw mw_2_123) rfl rfl rfl (hts _ (tb_of mw_1_1)) (hts _ (tb_of mw_2_120)) (by decide +kernel) ⟨Nat.le_of_ble_eq_true rfl, Nat.le_of_ble_eq_true rfl⟩, (hts _ (tb_of mw_2_121)), (hts _ (tb_of mw_2_122))⟩ ⟨pR_blind, va_recv hK hPc (ci := 4) (q0 := 0) rfl rfl, pR_pre hK hN hPc⟩ rfl rfl hl.1 rfl (lv_room (Nat.le_of_ble_eq_true rfl)) d_La_law_389 ⟨by show cN + 0 ≤ 295586; omega, by show sN + 0 ≤ 8215492; omega⟩)) (fun r_389 hr_389 => ?_)
            obtain rfl : r_389 = (-1) := hr_389
            refine lv_aload_n hx hb d_La_law_392 rfl (lv_at hl 2 rfl) ?_
            refine lv_aload_n hx hb d_La_law_393 rfl (lv_at hl 3 rfl) ?_
            refine lv_iload_n hx hb d_La_law_394 rfl (lv_at hl 0 rfl) ?_
            refine lv_iconst (v := (nI 1)) hx hb d_La_law_395 (by decide) ?_
            refine lv_iadd hx hb d_La_law_396 ?_
            refine lv_topi (fun v_396 ev_396 => ?_)
            obtain rfl : v_396 = nI (5 * q + 2) := ev_396.trans (nI_add _ _)
            refine my_sld (k := (5 * q + 2)) hx hb hX hbl hbA hS (by omega) (by omega) d_La_law_397 ?_
            refine lv_aload_n hx hb d_La_law_398 rfl (lv_at hl 3 rfl) ?_
            refine lv_iload_n hx hb d_La_law_399 rfl (lv_at hl 0 rfl) ?_
            refine lv_iconst (v := (nI 2)) hx hb d_La_law_400 (by decide) ?_
            refine lv_iadd hx hb d_La_law_401 ?_
            refine lv_topi (fun v_401 ev_401 => ?_)
            obtain rfl : v_401 = nI (5 * q + 3) := ev_401.trans (nI_add _ _)
            refine my_sld (k := (5 * q + 3)) hx hb hX hbl hbA hS (by omega) (by omega) d_La_law_402 ?_
            have hPc := hP.sub (ws' := [(mo, .inr (5, [.ref a1, .ref a2, .ref a3, .int (nI n), .ref a4, .ref a5, .ref a6, .ref a7, .int (nI wl), .ref a8, .int nxm, .ref a9, .ref b1, .ref b2, .int ldm]))]) [6] rfl
            refine vp_callSi (run_of (va_runV (As := [.int (xs (5 * q + 2)), .int (xs (5 * q + 3))]) (rest := [.int (-1)]) ⟨hx, hb, hml, hown, hts⟩ (c_Mo_told_no l D ka mo a1 a2 a3 a4 a5 a6 a7 a8 a9 b1 b2 n (xs (5 * q + 2)) (xs (5 * q + 3)) (nI wl) nxm ldm hx0) ⟨callB_of 2 hts (gd_lw mw_3_13) rfl rfl rfl (hts _ (tb_of mw_1_4)) (hts _ (tb_of mw_3_10)) (by decide +kernel) ⟨Nat.le_of_ble_eq_true rfl, Nat.le_of_ble_eq_true rfl⟩, (hts _ (tb_of mw_3_11)), (hts _ (tb_of mw_3_12))⟩ ⟨pR_blind, va_recv hK hPc (ci := 5) (q0 := 0) rfl rfl, pR_pre hK hN hPc⟩ rfl rfl hl.1 rfl (lv_room (Nat.le_of_ble_eq_true rfl)) d_La_law_403 ⟨by show cN + 0 ≤ 295586; omega, by show sN + 0 ≤ 8215492; omega⟩)) (fun r_403 hr_403 => ?_)
            obtain rfl : r_403 = (-1) := hr_403
            refine lv_icmp_eq (tgt := 435) hx hb d_La_law_406 (by decide) (fun c_406 => ?_) (fun c_406 => absurd rfl c_406)
            refine lv_iinc (v := nI (5 * (q + 1) + 1)) (lv' := [(3, .int (nI (5 * (q + 1) + 1))), (1, .ref v), (2, .ref mo), (0, .ref b)]) hx hb d_La_law_435 hl (k := 0) rfl (law_i5 q) (by decide) rfl (fun ls hl => ?_)
            refine lv_goto (tgt := 28) hx hb d_La_law_438 (by decide) ?_
            exact ih (q + 1) wd n nT tk sl hz wl K cN sN P wo tf wf tl wk pgs td sv ss rg rv si zs os fs it tv nxm ldm (by omega) hT hfr hW hKK hM (by omega) (by omega) (by omega) _ _ hP hD hS ls (lv_sub hl [0, 1, 2, 3] rfl)
        · refine lv_aload_n hx hb d_La_law_378 rfl (lv_at hl 1 rfl) ?_
          by_cases hy0 : ¬ xs (5 * q + 3) < 0 ∧ xs (5 * q + 3) ≤ 3
          · obtain ⟨c, hc, hce⟩ := wh_in hy0
            refine lv_aload_n hx hb d_La_law_379 rfl (lv_at hl 3 rfl) ?_
            refine lv_iload_n hx hb d_La_law_380 rfl (lv_at hl 0 rfl) ?_
            refine lv_iconst (v := (nI 1)) hx hb d_La_law_381 (by decide) ?_
            refine lv_iadd hx hb d_La_law_382 ?_
            refine lv_topi (fun v_382 ev_382 => ?_)
            obtain rfl : v_382 = nI (5 * q + 2) := ev_382.trans (nI_add _ _)
            refine my_sld (k := (5 * q + 2)) hx hb hX hbl hbA hS (by omega) (by omega) d_La_law_383 ?_
            refine lv_topi (fun v_383 ev_383 => ?_)
            obtain rfl : v_383 = nI j := ev_383.trans hje
            refine lv_aload_n hx hb d_La_law_384 rfl (lv_at hl 3 rfl) ?_
            refine lv_iload_n hx hb d_La_law_385 rfl (lv_at hl 0 rfl) ?_
            refine lv_iconst (v := (nI 2)) hx hb d_La_law_386 (by decide) ?_
            refine lv_iadd hx hb d_La_law_387 ?_
            refine lv_topi (fun v_387 ev_387 => ?_)
            obtain rfl : v_387 = nI (5 * q + 3) := ev_387.trans (nI_add _ _)
            refine my_sld (k := (5 * q + 3)) hx hb hX hbl hbA hS (by omega) (by omega) d_La_law_388 ?_
            refine lv_topi (fun v_388 ev_388 => ?_)
            obtain rfl : v_388 = nI c := ev_388.trans hce
            have hPc := hP.part (cx := [(v, .inr (4, [.ref pa, .ref ta, .ref te, .ref wv, .int (nI n), .int (nI tk), .int (nI sl), .int (nI hz)])), (pa, .inl ((ka 0), 256, .inr (.inl P))), (ta, .inl ((ka 3), 64, .inr (.inr (.inr (.inr tf))))), (te, .inl ((ka 4), m, .inr (.inr (.inr (.inr wf))))), (wv, .inr (2, [.ref wd, .int (nI wl)])), (wd, .inl ((ka 0), K, .inr (.inl wo)))]) [0, 1, 2, 3, 4, 5] rfl
            refine vp_callSi (run_of (va_runV (As := [.int (nI j), .int (nI c)]) (rest := []) ⟨hx, hb, hml, hown, hts⟩ (c_A_told l D ka v pa ta te wv wd n nT m tk sl hz wl K P wo tf wf tl pgs td wk j c hT hfr hj hc) ⟨callB_of 2 hts (gd_lw mw_2_123) rfl rfl rfl (hts _ (tb_of mw_1_1)) (hts _ (tb_of mw_2_120)) (by decide +kernel) ⟨Nat.le_of_ble_eq_true rfl, Nat.le_of_ble_eq_true rfl⟩, (hts _ (tb_of mw_2_121)), (hts _ (tb_of mw_2_122))⟩ ⟨pR_blind, va_recv hK hPc (ci := 4) (q0 := 0) rfl rfl, pR_pre hK hN hPc⟩ rfl rfl hl.1 rfl (lv_room (Nat.le_of_ble_eq_true rfl)) d_La_law_389 ⟨by show cN + 0 ≤ 295586; omega, by show sN + 0 ≤ 8215492; omega⟩)) (fun r_389 hr_389 => ?_)
            obtain rfl : r_389 = (aT (td j) c) := hr_389
            refine lv_aload_n hx hb d_La_law_392 rfl (lv_at hl 2 rfl) ?_
            refine lv_aload_n hx hb d_La_law_393 rfl (lv_at hl 3 rfl) ?_
            refine lv_iload_n hx hb d_La_law_394 rfl (lv_at hl 0 rfl) ?_
            refine lv_iconst (v := (nI 1)) hx hb d_La_law_395 (by decide) ?_
            refine lv_iadd hx hb d_La_law_396 ?_
            refine lv_topi (fun v_396 ev_396 => ?_)
            obtain rfl : v_396 = nI (5 * q + 2) := ev_396.trans (nI_add _ _)
            refine my_sld (k := (5 * q + 2)) hx hb hX hbl hbA hS (by omega) (by omega) d_La_law_397 ?_
            refine lv_topi (fun v_397 ev_397 => ?_)
            obtain rfl : v_397 = nI j := ev_397.trans hje
            refine lv_aload_n hx hb d_La_law_398 rfl (lv_at hl 3 rfl) ?_
            refine lv_iload_n hx hb d_La_law_399 rfl (lv_at hl 0 rfl) ?_
            refine lv_iconst (v := (nI 2)) hx hb d_La_law_400 (by decide) ?_
            refine lv_iadd hx hb d_La_law_401 ?_
            refine lv_topi (fun v_401 ev_401 => ?_)
            obtain rfl : v_401 = nI (5 * q + 3) := ev_401.trans (nI_add _ _)
            refine my_sld (k := (5 * q + 3)) hx hb hX hbl hbA hS (by omega) (by omega) d_La_law_402 ?_
            refine lv_topi (fun v_402 ev_402 => ?_)
            obtain rfl : v_402 = nI c := ev_402.trans hce
            have hPc := hP.sub (ws' := [(mo, .inr (5, [.ref a1, .ref a2, .ref a3, .int (nI n), .ref a4, .ref a5, .ref a6, .ref a7, .int (nI wl), .ref a8, .int nxm, .ref a9, .ref b1, .ref b2, .int ldm])), (a9, .inl ((ka 2), 64, .inl it))]) [6, 15] rfl
            refine vp_callSi (run_of (va_runV (As := [.int (nI j), .int (nI c)]) (rest := [.int (aT (td j) c)]) ⟨hx, hb, hml, hown, hts⟩ (c_Mo_told_none l D ka mo a1 a2 a3 a4 a5 a6 a7 a8 a9 b1 b2 n j c (nI wl) nxm ldm it hj hn64 hc (by have := (hM j hj).2.2; rw [hdj] at this; exact this)) ⟨callB_of 2 hts (gd_lw mw_3_13) rfl rfl rfl (hts _ (tb_of mw_1_4)) (hts _ (tb_of mw_3_10)) (by decide +kernel) ⟨Nat.le_of_ble_eq_true rfl, Nat.le_of_ble_eq_true rfl⟩, (hts _ (tb_of mw_3_11)), (hts _ (tb_of mw_3_12))⟩ ⟨pR_blind, va_recv hK hPc (ci := 5) (q0 := 0) rfl rfl, pR_pre hK hN hPc⟩ rfl rfl hl.1 rfl (lv_room (Nat.le_of_ble_eq_true rfl)) d_La_law_403 ⟨by show cN + 0 ≤ 295586; omega, by show sN + 0 ≤ 8215492; omega⟩)) (fun r_403 hr_403 => ?_)
            obtain rfl : r_403 = (-2) := hr_403
            refine lv_icmp_eq (tgt := 435) hx hb d_La_law_406 (by decide) (fun c_406 => ?_) (fun c_406 => absurd (by rw [hdj]; rfl) c_406)
            refine lv_iinc (v := nI (5 * (q + 1) + 1)) (lv' := [(3, .int (nI (5 * (q + 1) + 1))), (1, .ref v), (2, .ref mo), (0, .ref b)]) hx hb d_La_law_435 hl (k := 0) rfl (law_i5 q) (by decide) rfl (fun ls hl => ?_)
            refine lv_goto (tgt := 28) hx hb d_La_law_438 (by decide) ?_
            exact ih (q + 1) wd n nT tk sl hz wl K cN sN P wo tf wf tl wk pgs td sv ss rg rv si zs os fs it tv nxm ldm (by omega) hT hfr hW hKK hM (by omega) (by omega) (by omega) _ _ hP hD hS ls (lv_sub hl [0, 1, 2, 3] rfl)
          · refine lv_aload_n hx hb d_La_law_379 rfl (lv_at hl 3 rfl) ?_
            refine lv_iload_n hx hb d_La_law_380 rfl (lv_at hl 0 rfl) ?_
            refine lv_iconst (v := (nI 1)) hx hb d_La_law_381 (by decide) ?_
            refine lv_iadd hx hb d_La_law_382 ?_
            refine lv_topi (fun v_382 ev_382 => ?_)
            obtain rfl : v_382 = nI (5 * q + 2) := ev_382.trans (nI_add _ _)
            refine my_sld (k := (5 * q + 2)) hx hb hX hbl hbA hS (by omega) (by omega) d_La_law_383 ?_
            refine lv_topi (fun v_383 ev_383 => ?_)
            obtain rfl : v_383 = nI j := ev_383.trans hje
            refine lv_aload_n hx hb d_La_law_384 rfl (lv_at hl 3 rfl) ?_
            refine lv_iload_n hx hb d_La_law_385 rfl (lv_at hl 0 rfl) ?_
            refine lv_iconst (v := (nI 2)) hx hb d_La_law_386 (by decide) ?_
            refine lv_iadd hx hb d_La_law_387 ?_
            refine lv_topi (fun v_387 ev_387 => ?_)
            obtain rfl : v_387 = nI (5 * q + 3) := ev_387.trans (nI_add _ _)
            refine my_sld (k := (5 * q + 3)) hx hb hX hbl hbA hS (by omega) (by omega) d_La_law_388 ?_
            have hPc := hP.part (cx := [(v, .inr (4, [.ref pa, .ref ta, .ref te, .ref wv, .int (nI n), .int (nI tk), .int (nI sl), .int (nI hz)])), (pa, .inl ((ka 0), 256, .inr (.inl P))), (ta, .inl ((ka 3), 64, .inr (.inr (.inr (.inr tf))))), (te, .inl ((ka 4), m, .inr (.inr (.inr (.inr wf))))), (wv, .inr (2, [.ref wd, .int (nI wl)])), (wd, .inl ((ka 0), K, .inr (.inl wo)))]) [0, 1, 2, 3, 4, 5] rfl
            refine vp_callSi (run_of (va_runV (As := [.int (nI j), .int (xs (5 * q + 3))]) (rest := []) ⟨hx, hb, hml, hown, hts⟩ (c_A_toldbad l D ka v pa ta te wv wd n nT m tk sl hz wl K P wo tf wf tl pgs td wk j (xs (5 * q + 3)) hT hfr hj hy0) ⟨callB_of 2 hts (gd_lw mw_2_123) rfl rfl rfl (hts _ (tb_of mw_1_1)) (hts _ (tb_of mw_2_120)) (by decide +kernel) ⟨Nat.le_of_ble_eq_true rfl, Nat.le_of_ble_eq_true rfl⟩, (hts _ (tb_of mw_2_121)), (hts _ (tb_of mw_2_122))⟩ ⟨pR_blind, va_recv hK hPc (ci := 4) (q0 := 0) rfl rfl, pR_pre hK hN hPc⟩ rfl rfl hl.1 rfl (lv_room (Nat.le_of_ble_eq_true rfl)) d_La_law_389 ⟨by show cN + 0 ≤ 295586; omega, by show sN + 0 ≤ 8215492; omega⟩)) (fun r_389 hr_389 => ?_)
            obtain rfl : r_389 = (-1) := hr_389
            refine lv_aload_n hx hb d_La_law_392 rfl (lv_at hl 2 rfl) ?_
            refine lv_aload_n hx hb d_La_law_393 rfl (lv_at hl 3 rfl) ?_
            refine lv_iload_n hx hb d_La_law_394 rfl (lv_at hl 0 rfl) ?_
            refine lv_iconst (v := (nI 1)) hx hb d_La_law_395 (by decide) ?_
            refine lv_iadd hx hb d_La_law_396 ?_
            refine lv_topi (fun v_396 ev_396 => ?_)
            obtain rfl : v_396 = nI (5 * q + 2) := ev_396.trans (nI_add _ _)
            refine my_sld (k := (5 * q + 2)) hx hb hX hbl hbA hS (by omega) (by omega) d_La_law_397 ?_
            refine lv_topi (fun v_397 ev_397 => ?_)
            obtain rfl : v_397 = nI j := ev_397.trans hje
            refine lv_aload_n hx hb d_La_law_398 rfl (lv_at hl 3 rfl) ?_
            refine lv_iload_n hx hb d_La_law_399 rfl (lv_at hl 0 rfl) ?_
            refine lv_iconst (v := (nI 2)) hx hb d_La_law_400 (by decide) ?_
            refine lv_iadd hx hb d_La_law_401 ?_
            refine lv_topi (fun v_401 ev_401 => ?_)
            obtain rfl : v_401 = nI (5 * q + 3) := ev_401.trans (nI_add _ _)
            refine my_sld (k := (5 * q + 3)) hx hb hX hbl hbA hS (by omega) (by omega) d_La_law_402 ?_
            have hPc := hP.sub (ws' := [(mo, .inr (5, [.ref a1, .ref a2, .ref a3, .int (nI n), .ref a4, .ref a5, .ref a6, .ref a7, .int (nI wl), .ref a8, .int nxm, .ref a9, .ref b1, .ref b2, .int ldm]))]) [6] rfl
            refine vp_callSi (run_of (va_runV (As := [.int (nI j), .int (xs (5 * q + 3))]) (rest := [.int (-1)]) ⟨hx, hb, hml, hown, hts⟩ (c_Mo_told_bad l D ka mo a1 a2 a3 a4 a5 a6 a7 a8 a9 b1 b2 n j (xs (5 * q + 3)) (nI wl) nxm ldm hj hn64 hy0) ⟨callB_of 2 hts (gd_lw mw_3_13) rfl rfl rfl (hts _ (tb_of mw_1_4)) (hts _ (tb_of mw_3_10)) (by decide +kernel) ⟨Nat.le_of_ble_eq_true rfl, Nat.le_of_ble_eq_true rfl⟩, (hts _ (tb_of mw_3_11)), (hts _ (tb_of mw_3_12))⟩ ⟨pR_blind, va_recv hK hPc (ci := 5) (q0 := 0) rfl rfl, pR_pre hK hN hPc⟩ rfl rfl hl.1 rfl (lv_room (Nat.le_of_ble_eq_true rfl)) d_La_law_403 ⟨by show cN + 0 ≤ 295586; omega, by show sN + 0 ≤ 8215492; omega⟩)) (fun r_403 hr_403 => ?_)
            obtain rfl : r_403 = (-1) := hr_403
            refine lv_icmp_eq (tgt := 435) hx hb d_La_law_406 (by decide) (fun c_406 => ?_) (fun c_406 => absurd rfl c_406)
            refine lv_iinc (v := nI (5 * (q + 1) + 1)) (lv' := [(3, .int (nI (5 * (q + 1) + 1))), (1, .ref v), (2, .ref mo), (0, .ref b)]) hx hb d_La_law_435 hl (k := 0) rfl (law_i5 q) (by decide) rfl (fun ls hl => ?_)
            refine lv_goto (tgt := 28) hx hb d_La_law_438 (by decide) ?_
            exact ih (q + 1) wd n nT tk sl hz wl K cN sN P wo tf wf tl wk pgs td sv ss rg rv si zs os fs it tv nxm ldm (by omega) hT hfr hW hKK hM (by omega) (by omega) (by omega) _ _ hP hD hS ls (lv_sub hl [0, 1, 2, 3] rfl)
        · refine lv_aload_n hx hb d_La_law_378 rfl (lv_at hl 1 rfl) ?_
          by_cases hy0 : ¬ xs (5 * q + 3) < 0 ∧ xs (5 * q + 3) ≤ 3
          · obtain ⟨c, hc, hce⟩ := wh_in hy0
            refine lv_aload_n hx hb d_La_law_379 rfl (lv_at hl 3 rfl) ?_
            refine lv_iload_n hx hb d_La_law_380 rfl (lv_at hl 0 rfl) ?_
            refine lv_iconst (v := (nI 1)) hx hb d_La_law_381 (by decide) ?_
            refine lv_iadd hx hb d_La_law_382 ?_
            refine lv_topi (fun v_382 ev_382 => ?_)
            obtain rfl : v_382 = nI (5 * q + 2) := ev_382.trans (nI_add _ _)
            refine my_sld (k := (5 * q + 2)) hx hb hX hbl hbA hS (by omega) (by omega) d_La_law_383 ?_
            refine lv_topi (fun v_383 ev_383 => ?_)
            obtain rfl : v_383 = nI j := ev_383.trans hje
            refine lv_aload_n hx hb d_La_law_384 rfl (lv_at hl 3 rfl) ?_
            refine lv_iload_n hx hb d_La_law_385 rfl (lv_at hl 0 rfl) ?_
            refine lv_iconst (v := (nI 2)) hx hb d_La_law_386 (by decide) ?_
            refine lv_iadd hx hb d_La_law_387 ?_
            refine lv_topi (fun v_387 ev_387 => ?_)
            obtain rfl : v_387 = nI (5 * q + 3) := ev_387.trans (nI_add _ _)
            refine my_sld (k := (5 * q + 3)) hx hb hX hbl hbA hS (by omega) (by omega) d_La_law_388 ?_
            refine lv_topi (fun v_388 ev_388 => ?_)
            obtain rfl : v_388 = nI c := ev_388.trans hce
            have hPc := hP.part (cx := [(v, .inr (4, [.ref pa, .ref ta, .ref te, .ref wv, .int (nI n), .int (nI tk), .int (nI sl), .int (nI hz)])), (pa, .inl ((ka 0), 256, .inr (.inl P))), (ta, .inl ((ka 3), 64, .inr (.inr (.inr (.inr tf))))), (te, .inl ((ka 4), m, .inr (.inr (.inr (.inr wf))))), (wv, .inr (2, [.ref wd, .int (nI wl)])), (wd, .inl ((ka 0), K, .inr (.inl wo)))]) [0, 1, 2, 3, 4, 5] rfl
            refine vp_callSi (run_of (va_runV (As := [.int (nI j), .int (nI c)]) (rest := []) ⟨hx, hb, hml, hown, hts⟩ (c_A_told l D ka v pa ta te wv wd n nT m tk sl hz wl K P wo tf wf tl pgs td wk j c hT hfr hj hc) ⟨callB_of 2 hts (gd_lw mw_2_123) rfl rfl rfl (hts _ (tb_of mw_1_1)) (hts _ (tb_of mw_2_120)) (by decide +kernel) ⟨Nat.le_of_ble_eq_true rfl, Nat.le_of_ble_eq_true rfl⟩, (hts _ (tb_of mw_2_121)), (hts _ (tb_of mw_2_122))⟩ ⟨pR_blind, va_recv hK hPc (ci := 4) (q0 := 0) rfl rfl, pR_pre hK hN hPc⟩ rfl rfl hl.1 rfl (lv_room (Nat.le_of_ble_eq_true rfl)) d_La_law_389 ⟨by show cN + 0 ≤ 295586; omega, by show sN + 0 ≤ 8215492; omega⟩)) (fun r_389 hr_389 => ?_)
            obtain rfl : r_389 = (aT (td j) c) := hr_389
            refine lv_aload_n hx hb d_La_law_392 rfl (lv_at hl 2 rfl) ?_
            refine lv_aload_n hx hb d_La_law_393 rfl (lv_at hl 3 rfl) ?_
            refine lv_iload_n hx hb d_La_law_394 rfl (lv_at hl 0 rfl) ?_
            refine lv_iconst (v := (nI 1)) hx hb d_La_law_395 (by decide) ?_
            refine lv_iadd hx hb d_La_law_396 ?_
            refine lv_topi (fun v_396 ev_396 => ?_)
            obtain rfl : v_396 = nI (5 * q + 2) := ev_396.trans (nI_add _ _)
            refine my_sld (k := (5 * q + 2)) hx hb hX hbl hbA hS (by omega) (by omega) d_La_law_397 ?_
            refine lv_topi (fun v_397 ev_397 => ?_)
            obtain rfl : v_397 = nI j := ev_397.trans hje
            refine lv_aload_n hx hb d_La_law_398 rfl (lv_at hl 3 rfl) ?_
            refine lv_iload_n hx hb d_La_law_399 rfl (lv_at hl 0 rfl) ?_
            refine lv_iconst (v := (nI 2)) hx hb d_La_law_400 (by decide) ?_
            refine lv_iadd hx hb d_La_law_401 ?_
            refine lv_topi (fun v_401 ev_401 => ?_)
            obtain rfl : v_401 = nI (5 * q + 3) := ev_401.trans (nI_add _ _)
            refine my_sld (k := (5 * q + 3)) hx hb hX hbl hbA hS (by omega) (by omega) d_La_law_402 ?_
            refine lv_topi (fun v_402 ev_402 => ?_)
            obtain rfl : v_402 = nI c := ev_402.trans hce
            have hPc := hP.sub (ws' := [(mo, .inr (5, [.ref a1, .ref a2, .ref a3, .int (nI n), .ref a4, .ref a5, .ref a6, .ref a7, .int (nI wl), .ref a8, .int nxm, .ref a9, .ref b1, .ref b2, .int ldm])), (a9, .inl ((ka 2), 64, .inl it)), (b1, .inl ((ka 1), 256, .inl tv))]) [6, 15, 16] rfl
            refine vp_callSi (run_of (va_runV (As := [.int (nI j), .int (nI c)]) (rest := [.int (aT (td j) c)]) ⟨hx, hb, hml, hown, hts⟩ (c_Mo_told l D ka mo a1 a2 a3 a4 a5 a6 a7 a8 a9 b1 b2 n j c (nI wl) nxm ldm it tv hj hn64 hc (by have := (hM j hj).2.2; rw [hdj] at this; exact this.1)) ⟨callB_of 2 hts (gd_lw mw_3_13) rfl rfl rfl (hts _ (tb_of mw_1_4)) (hts _ (tb_of mw_3_10)) (by decide +kernel) ⟨Nat.le_of_ble_eq_true rfl, Nat.le_of_ble_eq_true rfl⟩, (hts _ (tb_of mw_3_11)), (hts _ (tb_of mw_3_12))⟩ ⟨pR_blind, va_recv hK hPc (ci := 5) (q0 := 0) rfl rfl, pR_pre hK hN hPc⟩ rfl rfl hl.1 rfl (lv_room (Nat.le_of_ble_eq_true rfl)) d_La_law_403 ⟨by show cN + 0 ≤ 295586; omega, by show sN + 0 ≤ 8215492; omega⟩)) (fun r_403 hr_403 => ?_)
            obtain rfl : r_403 = (tv (4 * j + c)) := hr_403
            refine lv_icmp_eq (tgt := 435) hx hb d_La_law_406 (by decide) (fun c_406 => ?_) (fun c_406 => absurd (by have := (hM j hj).2.2; rw [hdj] at this ⊢; exact aT_mo this hc) c_406)
            refine lv_iinc (v := nI (5 * (q + 1) + 1)) (lv' := [(3, .int (nI (5 * (q + 1) + 1))), (1, .ref v), (2, .ref mo), (0, .ref b)]) hx hb d_La_law_435 hl (k := 0) rfl (law_i5 q) (by decide) rfl (fun ls hl => ?_)
            refine lv_goto (tgt := 28) hx hb d_La_law_438 (by decide) ?_
            exact ih (q + 1) wd n nT tk sl hz wl K cN sN P wo tf wf tl wk pgs td sv ss rg rv si zs os fs it tv nxm ldm (by omega) hT hfr hW hKK hM (by omega) (by omega) (by omega) _ _ hP hD hS ls (lv_sub hl [0, 1, 2, 3] rfl)
          · refine lv_aload_n hx hb d_La_law_379 rfl (lv_at hl 3 rfl) ?_
            refine lv_iload_n hx hb d_La_law_380 rfl (lv_at hl 0 rfl) ?_
            refine lv_iconst (v := (nI 1)) hx hb d_La_law_381 (by decide) ?_
            refine lv_iadd hx hb d_La_law_382 ?_
            refine lv_topi (fun v_382 ev_382 => ?_)
            obtain rfl : v_382 = nI (5 * q + 2) := ev_382.trans (nI_add _ _)
            refine my_sld (k := (5 * q + 2)) hx hb hX hbl hbA hS (by omega) (by omega) d_La_law_383 ?_
            refine lv_topi (fun v_383 ev_383 => ?_)
            obtain rfl : v_383 = nI j := ev_383.trans hje
            refine lv_aload_n hx hb d_La_law_384 rfl (lv_at hl 3 rfl) ?_
            refine lv_iload_n hx hb d_La_law_385 rfl (lv_at hl 0 rfl) ?_
            refine lv_iconst (v := (nI 2)) hx hb d_La_law_386 (by decide) ?_
            refine lv_iadd hx hb d_La_law_387 ?_
            refine lv_topi (fun v_387 ev_387 => ?_)
            obtain rfl : v_387 = nI (5 * q + 3) := ev_387.trans (nI_add _ _)
            refine my_sld (k := (5 * q + 3)) hx hb hX hbl hbA hS (by omega) (by omega) d_La_law_388 ?_
            have hPc := hP.part (cx := [(v, .inr (4, [.ref pa, .ref ta, .ref te, .ref wv, .int (nI n), .int (nI tk), .int (nI sl), .int (nI hz)])), (pa, .inl ((ka 0), 256, .inr (.inl P))), (ta, .inl ((ka 3), 64, .inr (.inr (.inr (.inr tf))))), (te, .inl ((ka 4), m, .inr (.inr (.inr (.inr wf))))), (wv, .inr (2, [.ref wd, .int (nI wl)])), (wd, .inl ((ka 0), K, .inr (.inl wo)))]) [0, 1, 2, 3, 4, 5] rfl
            refine vp_callSi (run_of (va_runV (As := [.int (nI j), .int (xs (5 * q + 3))]) (rest := []) ⟨hx, hb, hml, hown, hts⟩ (c_A_toldbad l D ka v pa ta te wv wd n nT m tk sl hz wl K P wo tf wf tl pgs td wk j (xs (5 * q + 3)) hT hfr hj hy0) ⟨callB_of 2 hts (gd_lw mw_2_123) rfl rfl rfl (hts _ (tb_of mw_1_1)) (hts _ (tb_of mw_2_120)) (by decide +kernel) ⟨Nat.le_of_ble_eq_true rfl, Nat.le_of_ble_eq_true rfl⟩, (hts _ (tb_of mw_2_121)), (hts _ (tb_of mw_2_122))⟩ ⟨pR_blind, va_recv hK hPc (ci := 4) (q0 := 0) rfl rfl, pR_pre hK hN hPc⟩ rfl rfl hl.1 rfl (lv_room (Nat.le_of_ble_eq_true rfl)) d_La_law_389 ⟨by show cN + 0 ≤ 295586; omega, by show sN + 0 ≤ 8215492; omega⟩)) (fun r_389 hr_389 => ?_)
            obtain rfl : r_389 = (-1) := hr_389
            refine lv_aload_n hx hb d_La_law_392 rfl (lv_at hl 2 rfl) ?_
            refine lv_aload_n hx hb d_La_law_393 rfl (lv_at hl 3 rfl) ?_
            refine lv_iload_n hx hb d_La_law_394 rfl (lv_at hl 0 rfl) ?_
            refine lv_iconst (v := (nI 1)) hx hb d_La_law_395 (by decide) ?_
            refine lv_iadd hx hb d_La_law_396 ?_
            refine lv_topi (fun v_396 ev_396 => ?_)
            obtain rfl : v_396 = nI (5 * q + 2) := ev_396.trans (nI_add _ _)
            refine my_sld (k := (5 * q + 2)) hx hb hX hbl hbA hS (by omega) (by omega) d_La_law_397 ?_
            refine lv_topi (fun v_397 ev_397 => ?_)
            obtain rfl : v_397 = nI j := ev_397.trans hje
            refine lv_aload_n hx hb d_La_law_398 rfl (lv_at hl 3 rfl) ?_
            refine lv_iload_n hx hb d_La_law_399 rfl (lv_at hl 0 rfl) ?_
            refine lv_iconst (v := (nI 2)) hx hb d_La_law_400 (by decide) ?_
            refine lv_iadd hx hb d_La_law_401 ?_
            refine lv_topi (fun v_401 ev_401 => ?_)
            obtain rfl : v_401 = nI (5 * q + 3) := ev_401.trans (nI_add _ _)
            refine my_sld (k := (5 * q + 3)) hx hb hX hbl hbA hS (by omega) (by omega) d_La_law_402 ?_
            have hPc := hP.sub (ws' := [(mo, .inr (5, [.ref a1, .ref a2, .ref a3, .int (nI n), .ref a4, .ref a5, .ref a6, .ref a7, .int (nI wl), .ref a8, .int nxm, .ref a9, .ref b1, .ref b2, .int ldm]))]) [6] rfl
            refine vp_callSi (run_of (va_runV (As := [.int (nI j), .int (xs (5 * q + 3))]) (rest := [.int (-1)]) ⟨hx, hb, hml, hown, hts⟩ (c_Mo_told_bad l D ka mo a1 a2 a3 a4 a5 a6 a7 a8 a9 b1 b2 n j (xs (5 * q + 3)) (nI wl) nxm ldm hj hn64 hy0) ⟨callB_of 2 hts (gd_lw mw_3_13) rfl rfl rfl (hts _ (tb_of mw_1_4)) (hts _ (tb_of mw_3_10)) (by decide +kernel) ⟨Nat.le_of_ble_eq_true rfl, Nat.le_of_ble_eq_true rfl⟩, (hts _ (tb_of mw_3_11)), (hts _ (tb_of mw_3_12))⟩ ⟨pR_blind, va_recv hK hPc (ci := 5) (q0 := 0) rfl rfl, pR_pre hK hN hPc⟩ rfl rfl hl.1 rfl (lv_room (Nat.le_of_ble_eq_true rfl)) d_La_law_403 ⟨by show cN + 0 ≤ 295586; omega, by show sN + 0 ≤ 8215492; omega⟩)) (fun r_403 hr_403 => ?_)
            obtain rfl : r_403 = (-1) := hr_403
            refine lv_icmp_eq (tgt := 435) hx hb d_La_law_406 (by decide) (fun c_406 => ?_) (fun c_406 => absurd rfl c_406)
            refine lv_iinc (v := nI (5 * (q + 1) + 1)) (lv' := [(3, .int (nI (5 * (q + 1) + 1))), (1, .ref v), (2, .ref mo), (0, .ref b)]) hx hb d_La_law_435 hl (k := 0) rfl (law_i5 q) (by decide) rfl (fun ls hl => ?_)
            refine lv_goto (tgt := 28) hx hb d_La_law_438 (by decide) ?_
            exact ih (q + 1) wd n nT tk sl hz wl K cN sN P wo tf wf tl wk pgs td sv ss rg rv si zs os fs it tv nxm ldm (by omega) hT hfr hW hKK hM (by omega) (by omega) (by omega) _ _ hP hD hS ls (lv_sub hl [0, 1, 2, 3] rfl)
      · skip
        refine lv_tableIn (off := 369) (tgt := 411) hx hb d_La_law_42 (by decide) (by decide) (by decide) (by decide) ?_
        rcases ix_cases (x := xs (5 * q + 2)) hn64 td with hx0 | ⟨j, hj, hje, hdj⟩ | ⟨j, rj, hj, hje, hdj⟩
        · refine lv_aload_n hx hb d_La_law_411 rfl (lv_at hl 1 rfl) ?_
          refine lv_aload_n hx hb d_La_law_412 rfl (lv_at hl 3 rfl) ?_
          refine lv_iload_n hx hb d_La_law_413 rfl (lv_at hl 0 rfl) ?_
          refine lv_iconst (v := (nI 1)) hx hb d_La_law_414 (by decide) ?_
          refine lv_iadd hx hb d_La_law_415 ?_
          refine lv_topi (fun v_415 ev_415 => ?_)
          obtain rfl : v_415 = nI (5 * q + 2) := ev_415.trans (nI_add _ _)
          refine my_sld (k := (5 * q + 2)) hx hb hX hbl hbA hS (by omega) (by omega) d_La_law_416 ?_
          have hPc := hP.sub (ws' := [(v, .inr (4, [.ref pa, .ref ta, .ref te, .ref wv, .int (nI n), .int (nI tk), .int (nI sl), .int (nI hz)]))]) [0] rfl
          refine vp_callSl (run_of (va_runV (As := [.int (xs (5 * q + 2))]) (rest := []) ⟨hx, hb, hml, hown, hts⟩ (c_Vb_res_no l D ka v pa ta te wv n (xs (5 * q + 2)) (nI tk) (nI sl) (nI hz) hx0) ⟨callB_of 1 hts (gd_lw mw_2_131) rfl rfl rfl (hts _ (tb_of mw_1_1)) (hts _ (tb_of mw_2_128)) (by decide +kernel) ⟨Nat.le_of_ble_eq_true rfl, Nat.le_of_ble_eq_true rfl⟩, (hts _ (tb_of mw_2_129)), (hts _ (tb_of mw_2_130))⟩ ⟨pR_blind, va_recv hK hPc (ci := 4) (q0 := 0) rfl rfl, pR_pre hK hN hPc⟩ rfl rfl hl.1 rfl (lv_room (Nat.le_of_ble_eq_true rfl)) d_La_law_417 ⟨by show cN + 0 ≤ 295586; omega, by show sN + 0 ≤ 8215492; omega⟩)) (fun r_417 hr_417 => ?_)
          obtain rfl : r_417 = 0 := hr_417
          refine lv_aload_n hx hb d_La_law_420 rfl (lv_at hl 2 rfl) ?_
          refine lv_aload_n hx hb d_La_law_421 rfl (lv_at hl 3 rfl) ?_
          refine lv_iload_n hx hb d_La_law_422 rfl (lv_at hl 0 rfl) ?_
          refine lv_iconst (v := (nI 1)) hx hb d_La_law_423 (by decide) ?_
          refine lv_iadd hx hb d_La_law_424 ?_
          refine lv_topi (fun v_424 ev_424 => ?_)
          obtain rfl : v_424 = nI (5 * q + 2) := ev_424.trans (nI_add _ _)
          refine my_sld (k := (5 * q + 2)) hx hb hX hbl hbA hS (by omega) (by omega) d_La_law_425 ?_
          have hPc := hP.sub (ws' := [(mo, .inr (5, [.ref a1, .ref a2, .ref a3, .int (nI n), .ref a4, .ref a5, .ref a6, .ref a7, .int (nI wl), .ref a8, .int nxm, .ref a9, .ref b1, .ref b2, .int ldm]))]) [6] rfl
          refine vp_callSl (run_of (va_runV (As := [.int (xs (5 * q + 2))]) (rest := [.long 0]) ⟨hx, hb, hml, hown, hts⟩ (c_Mo_res_no l D ka mo a1 a2 a3 a4 a5 a6 a7 a8 a9 b1 b2 n (xs (5 * q + 2)) (nI wl) nxm ldm hx0) ⟨callB_of 1 hts (gd_lw mw_3_17) rfl rfl rfl (hts _ (tb_of mw_1_4)) (hts _ (tb_of mw_3_14)) (by decide +kernel) ⟨Nat.le_of_ble_eq_true rfl, Nat.le_of_ble_eq_true rfl⟩, (hts _ (tb_of mw_3_15)), (hts _ (tb_of mw_3_16))⟩ ⟨pR_blind, va_recv hK hPc (ci := 5) (q0 := 0) rfl rfl, pR_pre hK hN hPc⟩ rfl rfl hl.1 rfl (lv_room (Nat.le_of_ble_eq_true rfl)) d_La_law_426 ⟨by show cN + 0 ≤ 295586; omega, by show sN + 0 ≤ 8215492; omega⟩)) (fun r_426 hr_426 => ?_)
          obtain rfl : r_426 = 0 := hr_426
          refine W.lcmp hx hb d_La_law_429 ?_
          refine lv_if_eq (tgt := 435) hx hb d_La_law_430 (by decide) (fun c_430 => ?_) (fun c_430 => absurd ((lg_cmp_eq _ _).mpr rfl) c_430)
          refine lv_iinc (v := nI (5 * (q + 1) + 1)) (lv' := [(3, .int (nI (5 * (q + 1) + 1))), (1, .ref v), (2, .ref mo), (0, .ref b)]) hx hb d_La_law_435 hl (k := 0) rfl (law_i5 q) (by decide) rfl (fun ls hl => ?_)
          refine lv_goto (tgt := 28) hx hb d_La_law_438 (by decide) ?_
          exact ih (q + 1) wd n nT tk sl hz wl K cN sN P wo tf wf tl wk pgs td sv ss rg rv si zs os fs it tv nxm ldm (by omega) hT hfr hW hKK hM (by omega) (by omega) (by omega) _ _ hP hD hS ls (lv_sub hl [0, 1, 2, 3] rfl)
        · refine lv_aload_n hx hb d_La_law_411 rfl (lv_at hl 1 rfl) ?_
          refine lv_aload_n hx hb d_La_law_412 rfl (lv_at hl 3 rfl) ?_
          refine lv_iload_n hx hb d_La_law_413 rfl (lv_at hl 0 rfl) ?_
          refine lv_iconst (v := (nI 1)) hx hb d_La_law_414 (by decide) ?_
          refine lv_iadd hx hb d_La_law_415 ?_
          refine lv_topi (fun v_415 ev_415 => ?_)
          obtain rfl : v_415 = nI (5 * q + 2) := ev_415.trans (nI_add _ _)
          refine my_sld (k := (5 * q + 2)) hx hb hX hbl hbA hS (by omega) (by omega) d_La_law_416 ?_
          refine lv_topi (fun v_416 ev_416 => ?_)
          obtain rfl : v_416 = nI j := ev_416.trans hje
          have hPc := hP.part (cx := [(v, .inr (4, [.ref pa, .ref ta, .ref te, .ref wv, .int (nI n), .int (nI tk), .int (nI sl), .int (nI hz)])), (pa, .inl ((ka 0), 256, .inr (.inl P))), (ta, .inl ((ka 3), 64, .inr (.inr (.inr (.inr tf))))), (te, .inl ((ka 4), m, .inr (.inr (.inr (.inr wf))))), (wv, .inr (2, [.ref wd, .int (nI wl)])), (wd, .inl ((ka 0), K, .inr (.inl wo)))]) [0, 1, 2, 3, 4, 5] rfl
          refine vp_callSl (run_of (va_runV (As := [.int (nI j)]) (rest := []) ⟨hx, hb, hml, hown, hts⟩ (c_A_res l D ka v pa ta te wv wd n nT m tk sl hz wl K P wo tf wf tl pgs td wk j hT hfr hj) ⟨callB_of 1 hts (gd_lw mw_2_131) rfl rfl rfl (hts _ (tb_of mw_1_1)) (hts _ (tb_of mw_2_128)) (by decide +kernel) ⟨Nat.le_of_ble_eq_true rfl, Nat.le_of_ble_eq_true rfl⟩, (hts _ (tb_of mw_2_129)), (hts _ (tb_of mw_2_130))⟩ ⟨pR_blind, va_recv hK hPc (ci := 4) (q0 := 0) rfl rfl, pR_pre hK hN hPc⟩ rfl rfl hl.1 rfl (lv_room (Nat.le_of_ble_eq_true rfl)) d_La_law_417 ⟨by show cN + 0 ≤ 295586; omega, by show sN + 0 ≤ 8215492; omega⟩)) (fun r_417 hr_417 => ?_)
          obtain rfl : r_417 = (aR (td j)) := hr_417
          refine lv_aload_n hx hb d_La_law_420 rfl (lv_at hl 2 rfl) ?_
          refine lv_aload_n hx hb d_La_law_421 rfl (lv_at hl 3 rfl) ?_
          refine lv_iload_n hx hb d_La_law_422 rfl (lv_at hl 0 rfl) ?_
          refine lv_iconst (v := (nI 1)) hx hb d_La_law_423 (by decide) ?_
          refine lv_iadd hx hb d_La_law_424 ?_
          refine lv_topi (fun v_424 ev_424 => ?_)
          obtain rfl : v_424 = nI (5 * q + 2) := ev_424.trans (nI_add _ _)
          refine my_sld (k := (5 * q + 2)) hx hb hX hbl hbA hS (by omega) (by omega) d_La_law_425 ?_
          refine lv_topi (fun v_425 ev_425 => ?_)
          obtain rfl : v_425 = nI j := ev_425.trans hje
          have hPc := hP.sub (ws' := [(mo, .inr (5, [.ref a1, .ref a2, .ref a3, .int (nI n), .ref a4, .ref a5, .ref a6, .ref a7, .int (nI wl), .ref a8, .int nxm, .ref a9, .ref b1, .ref b2, .int ldm])), (a9, .inl ((ka 2), 64, .inl it))]) [6, 15] rfl
          refine vp_callSl (run_of (va_runV (As := [.int (nI j)]) (rest := [.long (aR (td j))]) ⟨hx, hb, hml, hown, hts⟩ (c_Mo_res_none l D ka mo a1 a2 a3 a4 a5 a6 a7 a8 a9 b1 b2 n j (nI wl) nxm ldm it hj hn64 (by have := (hM j hj).2.2; rw [hdj] at this; exact this)) ⟨callB_of 1 hts (gd_lw mw_3_17) rfl rfl rfl (hts _ (tb_of mw_1_4)) (hts _ (tb_of mw_3_14)) (by decide +kernel) ⟨Nat.le_of_ble_eq_true rfl, Nat.le_of_ble_eq_true rfl⟩, (hts _ (tb_of mw_3_15)), (hts _ (tb_of mw_3_16))⟩ ⟨pR_blind, va_recv hK hPc (ci := 5) (q0 := 0) rfl rfl, pR_pre hK hN hPc⟩ rfl rfl hl.1 rfl (lv_room (Nat.le_of_ble_eq_true rfl)) d_La_law_426 ⟨by show cN + 0 ≤ 295586; omega, by show sN + 0 ≤ 8215492; omega⟩)) (fun r_426 hr_426 => ?_)
          obtain rfl : r_426 = 0 := hr_426
          refine W.lcmp hx hb d_La_law_429 ?_
          refine lv_if_eq (tgt := 435) hx hb d_La_law_430 (by decide) (fun c_430 => ?_) (fun c_430 => absurd ((lg_cmp_eq _ _).mpr (by rw [hdj]; rfl)) c_430)
          refine lv_iinc (v := nI (5 * (q + 1) + 1)) (lv' := [(3, .int (nI (5 * (q + 1) + 1))), (1, .ref v), (2, .ref mo), (0, .ref b)]) hx hb d_La_law_435 hl (k := 0) rfl (law_i5 q) (by decide) rfl (fun ls hl => ?_)
          refine lv_goto (tgt := 28) hx hb d_La_law_438 (by decide) ?_
          exact ih (q + 1) wd n nT tk sl hz wl K cN sN P wo tf wf tl wk pgs td sv ss rg rv si zs os fs it tv nxm ldm (by omega) hT hfr hW hKK hM (by omega) (by omega) (by omega) _ _ hP hD hS ls (lv_sub hl [0, 1, 2, 3] rfl)
        · refine lv_aload_n hx hb d_La_law_411 rfl (lv_at hl 1 rfl) ?_
          refine lv_aload_n hx hb d_La_law_412 rfl (lv_at hl 3 rfl) ?_
          refine lv_iload_n hx hb d_La_law_413 rfl (lv_at hl 0 rfl) ?_
          refine lv_iconst (v := (nI 1)) hx hb d_La_law_414 (by decide) ?_
          refine lv_iadd hx hb d_La_law_415 ?_
          refine lv_topi (fun v_415 ev_415 => ?_)
          obtain rfl : v_415 = nI (5 * q + 2) := ev_415.trans (nI_add _ _)
          refine my_sld (k := (5 * q + 2)) hx hb hX hbl hbA hS (by omega) (by omega) d_La_law_416 ?_
          refine lv_topi (fun v_416 ev_416 => ?_)
          obtain rfl : v_416 = nI j := ev_416.trans hje
          have hPc := hP.part (cx := [(v, .inr (4, [.ref pa, .ref ta, .ref te, .ref wv, .int (nI n), .int (nI tk), .int (nI sl), .int (nI hz)])), (pa, .inl ((ka 0), 256, .inr (.inl P))), (ta, .inl ((ka 3), 64, .inr (.inr (.inr (.inr tf))))), (te, .inl ((ka 4), m, .inr (.inr (.inr (.inr wf))))), (wv, .inr (2, [.ref wd, .int (nI wl)])), (wd, .inl ((ka 0), K, .inr (.inl wo)))]) [0, 1, 2, 3, 4, 5] rfl
          refine vp_callSl (run_of (va_runV (As := [.int (nI j)]) (rest := []) ⟨hx, hb, hml, hown, hts⟩ (c_A_res l D ka v pa ta te wv wd n nT m tk sl hz wl K P wo tf wf tl pgs td wk j hT hfr hj) ⟨callB_of 1 hts (gd_lw mw_2_131) rfl rfl rfl (hts _ (tb_of mw_1_1)) (hts _ (tb_of mw_2_128)) (by decide +kernel) ⟨Nat.le_of_ble_eq_true rfl, Nat.le_of_ble_eq_true rfl⟩, (hts _ (tb_of mw_2_129)), (hts _ (tb_of mw_2_130))⟩ ⟨pR_blind, va_recv hK hPc (ci := 4) (q0 := 0) rfl rfl, pR_pre hK hN hPc⟩ rfl rfl hl.1 rfl (lv_room (Nat.le_of_ble_eq_true rfl)) d_La_law_417 ⟨by show cN + 0 ≤ 295586; omega, by show sN + 0 ≤ 8215492; omega⟩)) (fun r_417 hr_417 => ?_)
          obtain rfl : r_417 = (aR (td j)) := hr_417
          refine lv_aload_n hx hb d_La_law_420 rfl (lv_at hl 2 rfl) ?_
          refine lv_aload_n hx hb d_La_law_421 rfl (lv_at hl 3 rfl) ?_
          refine lv_iload_n hx hb d_La_law_422 rfl (lv_at hl 0 rfl) ?_
          refine lv_iconst (v := (nI 1)) hx hb d_La_law_423 (by decide) ?_
          refine lv_iadd hx hb d_La_law_424 ?_
          refine lv_topi (fun v_424 ev_424 => ?_)
          obtain rfl : v_424 = nI (5 * q + 2) := ev_424.trans (nI_add _ _)
          refine my_sld (k := (5 * q + 2)) hx hb hX hbl hbA hS (by omega) (by omega) d_La_law_425 ?_
          refine lv_topi (fun v_425 ev_425 => ?_)
          obtain rfl : v_425 = nI j := ev_425.trans hje
          have hPc := hP.sub (ws' := [(mo, .inr (5, [.ref a1, .ref a2, .ref a3, .int (nI n), .ref a4, .ref a5, .ref a6, .ref a7, .int (nI wl), .ref a8, .int nxm, .ref a9, .ref b1, .ref b2, .int ldm])), (a9, .inl ((ka 2), 64, .inl it)), (b2, .inl ((ka 0), 64, .inr (.inl rv)))]) [6, 15, 17] rfl
          refine vp_callSl (run_of (va_runV (As := [.int (nI j)]) (rest := [.long (aR (td j))]) ⟨hx, hb, hml, hown, hts⟩ (c_Mo_res l D ka mo a1 a2 a3 a4 a5 a6 a7 a8 a9 b1 b2 n j (nI wl) nxm ldm it rv hj hn64 (by have := (hM j hj).2.2; rw [hdj] at this; exact this.1)) ⟨callB_of 1 hts (gd_lw mw_3_17) rfl rfl rfl (hts _ (tb_of mw_1_4)) (hts _ (tb_of mw_3_14)) (by decide +kernel) ⟨Nat.le_of_ble_eq_true rfl, Nat.le_of_ble_eq_true rfl⟩, (hts _ (tb_of mw_3_15)), (hts _ (tb_of mw_3_16))⟩ ⟨pR_blind, va_recv hK hPc (ci := 5) (q0 := 0) rfl rfl, pR_pre hK hN hPc⟩ rfl rfl hl.1 rfl (lv_room (Nat.le_of_ble_eq_true rfl)) d_La_law_426 ⟨by show cN + 0 ≤ 295586; omega, by show sN + 0 ≤ 8215492; omega⟩)) (fun r_426 hr_426 => ?_)
          obtain rfl : r_426 = (rv j) := hr_426
          refine W.lcmp hx hb d_La_law_429 ?_
          refine lv_if_eq (tgt := 435) hx hb d_La_law_430 (by decide) (fun c_430 => ?_) (fun c_430 => absurd ((lg_cmp_eq _ _).mpr (by have := (hM j hj).2.2; rw [hdj] at this ⊢; exact this.2.2.2.2.2.symm)) c_430)
          refine lv_iinc (v := nI (5 * (q + 1) + 1)) (lv' := [(3, .int (nI (5 * (q + 1) + 1))), (1, .ref v), (2, .ref mo), (0, .ref b)]) hx hb d_La_law_435 hl (k := 0) rfl (law_i5 q) (by decide) rfl (fun ls hl => ?_)
          refine lv_goto (tgt := 28) hx hb d_La_law_438 (by decide) ?_
          exact ih (q + 1) wd n nT tk sl hz wl K cN sN P wo tf wf tl wk pgs td sv ss rg rv si zs os fs it tv nxm ldm (by omega) hT hfr hW hKK hM (by omega) (by omega) (by omega) _ _ hP hD hS ls (lv_sub hl [0, 1, 2, 3] rfl)
      · skip
        refine lv_tableOut (tgt := 435) hx hb d_La_law_42 (Or.inr (by rw [nI_toInt (by omega)]; omega)) (by decide) ?_
        refine lv_iinc (v := nI (5 * (q + 1) + 1)) (lv' := [(3, .int (nI (5 * (q + 1) + 1))), (1, .ref v), (2, .ref mo), (0, .ref b)]) hx hb d_La_law_435 hl (k := 0) rfl (law_i5 q) (by decide) rfl (fun ls hl => ?_)
        refine lv_goto (tgt := 28) hx hb d_La_law_438 (by decide) ?_
        exact ih (q + 1) wd n nT tk sl hz wl K cN sN P wo tf wf tl wk pgs td sv ss rg rv si zs os fs it tv nxm ldm (by omega) hT hfr hW hKK hM (by omega) (by omega) (by omega) _ _ hP hD hS ls (lv_sub hl [0, 1, 2, 3] rfl)
