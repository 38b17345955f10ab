theorem pm_hd {x : Nat × va_E} {X9 rest tl : va_W} (h : tl.Perm ((x :: X9) ++ rest)) : tl.Perm ([x] ++ (X9 ++ rest)) := h
theorem pm_as {X T rest tl : va_W} (h : tl.Perm ((X ++ T) ++ rest)) : tl.Perm (X ++ (T ++ rest)) := by rw [← List.append_assoc]; exact h
set_option maxHeartbeats 4000000 in
set_option maxRecDepth 100000 in
theorem c_go_old (l : Launch) (D : va_G) (ka : Nat → ClassId) (sz : Nat) (v pa ta te wv wd n nT m tk sl hz wl K k : Nat) (P wo : Nat → Int64) (tf wf : Nat → Option Nat) (tl : va_W) (pgs : Nat → Pg) (P0 : Nat → Int64) (td : Nat → Option Td) (wk : Wk) (hT : vbT ka n nT m tf wf pgs td wk tl) (hI : ex_I pgs P0 n m P tk sl hz wk) (hd : tdI pgs P0 sl td) (hk : k < m) (hno : wf k = none → n ≤ tk) : Met l y_Vb_goOn w_Vb_goOn ({ frames := 4, cells := 0, slots := 0, locals := 95 }) (pW classes (tyS ka) D [.ref v, .int (nI k)] ([(v, .inr (4, [.ref pa, .ref ta, .ref te, .ref wv, .int (nI n), .int (nI tk), .int (nI sl), .int (nI hz)])), (pa, .inl ((ka 0), 256, .inr (.inl P))), (ta, .inl ((ka 3), 64, .inr (.inr (.inr (.inr tf))))), (te, .inl ((ka 4), m, .inr (.inr (.inr (.inr wf))))), (wv, .inr (2, [.ref wd, .int (nI wl)])), (wd, .inl ((ka 0), K, .inr (.inl wo)))] ++ tl) sz) (va_Qi (fun (r : Int32) (_ : Unit) => goC P n tk sl wk k 605 → r = 1) (fun (_ : Unit) t9 => ∃ (P' : Nat → Int64) (tk' sl' hz' : Nat) (wk' : Wk) (td' : Nat → Option Td) (tl' : va_W), (goR pgs P0 n m k P tk sl hz wk P' tk' sl' hz' wk' td' ∧ vbT ka n nT m tf wf pgs td' wk' tl') ∧ va_P D classes ([(v, .inr (4, [.ref pa, .ref ta, .ref te, .ref wv, .int (nI n), .int (nI tk'), .int (nI sl'), .int (nI hz')])), (pa, .inl ((ka 0), 256, .inr (.inl P'))), (ta, .inl ((ka 3), 64, .inr (.inr (.inr (.inr tf))))), (te, .inl ((ka 4), m, .inr (.inr (.inr (.inr wf))))), (wv, .inr (2, [.ref wd, .int (nI wl)])), (wd, .inl ((ka 0), K, .inr (.inl wo)))] ++ tl') t9.heap ∧ va_D (va_A ([(v, .inr (4, [.ref pa, .ref ta, .ref te, .ref wv, .int (nI n), .int (nI tk), .int (nI sl), .int (nI hz)])), (pa, .inl ((ka 0), 256, .inr (.inl P))), (ta, .inl ((ka 3), 64, .inr (.inr (.inr (.inr tf))))), (te, .inl ((ka 4), m, .inr (.inr (.inr (.inr wf))))), (wv, .inr (2, [.ref wd, .int (nI wl)])), (wd, .inl ((ka 0), K, .inr (.inl wo)))] ++ tl) sz) ([(v, .inr (4, [.ref pa, .ref ta, .ref te, .ref wv, .int (nI n), .int (nI tk'), .int (nI sl'), .int (nI hz')])), (pa, .inl ((ka 0), 256, .inr (.inl P'))), (ta, .inl ((ka 3), 64, .inr (.inr (.inr (.inr tf))))), (te, .inl ((ka 4), m, .inr (.inr (.inr (.inr wf))))), (wv, .inr (2, [.ref wd, .int (nI wl)])), (wd, .inl ((ka 0), K, .inr (.inl wo)))] ++ tl')) (va_A ([(v, .inr (4, [.ref pa, .ref ta, .ref te, .ref wv, .int (nI n), .int (nI tk), .int (nI sl), .int (nI hz)])), (pa, .inl ((ka 0), 256, .inr (.inl P))), (ta, .inl ((ka 3), 64, .inr (.inr (.inr (.inr tf))))), (te, .inl ((ka 4), m, .inr (.inr (.inr (.inr wf))))), (wv, .inr (2, [.ref wd, .int (nI wl)])), (wd, .inl ((ka 0), K, .inr (.inl wo)))] ++ tl) sz)) 0 0 (va_A ([(v, .inr (4, [.ref pa, .ref ta, .ref te, .ref wv, .int (nI n), .int (nI tk), .int (nI sl), .int (nI hz)])), (pa, .inl ((ka 0), 256, .inr (.inl P))), (ta, .inl ((ka 3), 64, .inr (.inr (.inr (.inr tf))))), (te, .inl ((ka 4), m, .inr (.inr (.inr (.inr wf))))), (wv, .inr (2, [.ref wd, .int (nI wl)])), (wd, .inl ((ka 0), K, .inr (.inl wo)))] ++ tl) sz) := by
  obtain ⟨hn1, hn2, hm1, hm2, tc0, wc0, -, hta0, -, -⟩ := id hT
  obtain ⟨hI1, hI2, -, -, hI5, -, -⟩ := id hI
  cases hw : wf k with
  | none =>
    have hge := hno hw
    obtain ⟨X, rest, hp, hX, -⟩ := vbT_w hT hk
    rw [hw] at hX
    have hwk : wk k = none := hX.2
    have hnc : ∀ r, ¬ goC P n tk sl wk k r := by
      intro r hc
      rcases hc with ⟨M, sn, e, -⟩ | ⟨-, -, e, -⟩
      · rw [hwk] at e; cases e
      · omega
    refine met_frS (c_Vb_go_null_no l D ka v pa ta te wv n tk k m (nI sl) (nI hz) wf hk hm2 hge (by omega) hw) (pm_6 (X := []) (rest := tl) (pm_a _ _ _ _ _ _) (List.Perm.refl _)) ?_
    intro r t hr hPY hDY
    exact ⟨(), fun hc => absurd hc (hnc _), P, tk, sl, hz, wk, td, tl, ⟨goR_id hI hd hnc, hT⟩, hPY, hDY⟩
  | some w =>
    cases hst : wk k with
    | none =>
      by_cases ht : tk < n
      · obtain ⟨X, rest, hp, hX, hback⟩ := vbT_w hT hk
        rw [hw, hst] at hX
        obtain ⟨r, s, sn, sk, so, u, un, uk, uo, tn, nx, dn, ld, oc, rg, numS, numU, psS, psU, kpS, odS, kpU, odU, hS0, hU0, rfl⟩ := hX
        obtain ⟨t, hta, -⟩ := hta0 tk (by omega)
        refine met_fr (c_Vb_go_free_take l D ka sz v pa ta te wv w r s sn sk so u un uk uo t n tk k m (nI sl) (nI hz) tn nx dn ld oc tf wf rg numS numU psS psU kpS odS kpU odU ht (by omega) hta hk hm2 hw hS0 hU0) (pm_6 (pm_b _ _ _ _ _ _) hp) ?_
        intro r1 u1 t1 hr1 hB
        obtain ⟨kpS', kpU', ⟨hS1, hU1⟩, hP1, hD1⟩ := hB
        refine ⟨_, hP1, hD1, fun hP2 hD2 => ?_⟩
        obtain ⟨tl', hp', hT'⟩ := hback (cWk ka w r s sn sk so u un uk uo (.ref t) (nI tk) (nI 0) (nI 0) (nI 0) (nI 0) (fun _ => 0) numS numU kpS' odS kpU' odU (nI 0) (nI 0)) (some w) (some (tk, sp_0 (pgs tk).length, fun _ => none))
          ⟨r, s, sn, sk, so, u, un, uk, uo, t, nI 0, fun _ => 0, numS, numU, [], [], kpS', odS, kpU', odU, sp_nx (pgs tk).length 0, 0, 0, 0, hS1, hU1, hta, nxR_0 _, by omega, by rw [dm_nil, dm_nil]; rfl, rfl⟩
        rw [va_up_eq hw] at hT'
        exact ⟨(), fun _ => hr1, P, tk + 1, sl, hz, _, td, tl', ⟨goR_take hI hd hk hst ht, hT'⟩, pe_P (pm_6 (pm_b _ _ _ _ _ _) hp').symm hP2, pe_D (pm_6 (pm_b _ _ _ _ _ _) hp').symm hD2⟩
      · obtain ⟨X, rest, hp, hX, -⟩ := vbT_w hT hk
        rw [hw, hst] at hX
        obtain ⟨r, s, sn, sk, so, u, un, uk, uo, tn, nx, dn, ld, oc, rg, numS, numU, psS, psU, kpS, odS, kpU, odU, hS0, hU0, rfl⟩ := hX
        have hnc : ∀ r, ¬ goC P n tk sl wk k r := by
          intro r hc
          rcases hc with ⟨M, sn, e, -⟩ | ⟨-, -, e, -⟩
          · rw [hst] at e; cases e
          · omega
        refine met_frS (c_Vb_go_free_no l D ka v pa ta te wv w r s u n tk k m (nI sl) (nI hz) tn nx dn ld oc wf hk hm2 (by omega) (by omega) hw) (pm_6 (pm_a _ _ _ _ _ _) (pm_hd hp)) ?_
        intro r1 t1 hr1 hPY hDY
        exact ⟨(), fun hc => absurd hc (hnc _), P, tk, sl, hz, wk, td, tl, ⟨goR_id hI hd hnc, hT⟩, hPY, hDY⟩
    | some q =>
      obtain ⟨j, M, sn0⟩ := q
      obtain ⟨hj1, hj2, hfo⟩ := hI5 k j M sn0 hk hst
      obtain ⟨X, T, rest, a, hp, hX, hta, hTx, hback⟩ := vbT_wt hT hk (show j < nT by omega)
      rw [hw, hst] at hX
      obtain ⟨r, s, sn, sk, so, u, un, uk, uo, t, nx, rg, numS, numU, psS, psU, kpS, odS, kpU, odU, na, d, L, o, hS0, hU0, htj, hnx, ho3, hq, rfl⟩ := hX
      obtain ⟨xa, xb, xc, ops, fs, ss, kn, toc, tdn, tld, tsr, trs, rfl, hpg, htd⟩ := hTx
      obtain rfl : a = t := Option.some.inj (hta.symm.trans htj)
      obtain ⟨rfl, rfl⟩ := Prod.mk.inj hq
      dsimp only at hp hnx htj
      by_cases ho : o = 0
      · subst ho
        have hd300 : d ≤ 300 := wk_fo_dn hfo rfl
        refine met_fr (c_Vb_go_step l D ka sz v pa ta te wv w r s sn sk so u un uk uo a xa xb xc d L k m (nI n) (nI tk) (nI sl) (nI hz) (nI j) nx na P wf kn toc tdn tld tsr trs ops fs ss (pgs j) rg numS numU psS psU kpS odS kpU odU hk hm2 hw hS0 hU0 hpg hnx hd300) (pm_6 (pm_c _ _ _ _ _ _) hp) ?_
        intro r1 u1 t1 hr1 hB
        obtain ⟨rg', psS', numS', kpS', odS', psU', numU', kpU', odU', nx', a', d', L', o', ⟨g1, g2, g3, g4, g5, g6⟩, hP1, hD1⟩ := hB
        refine ⟨_, hP1, hD1, fun hP2 hD2 => ?_⟩
        obtain ⟨tl', hp', hT'⟩ := hback (cWk ka w r s sn sk so u un uk uo (.ref a) (nI j) nx' (nI d') (nI L') (nI o') rg' numS' numU' kpS' odS' kpU' odU' (nI psS'.length) (nI psU'.length)) (some w) (some (j, sp_st (pgs j) (wk_ld (dm psS numS) P) (rg, dm psU numU, psU.length, na, d, L, 0), wk_sn (pgs j) P (rg, dm psU numU, psU.length, na, d, L, 0) (dm psS numS))) _ (td j)
          ⟨r, s, sn, sk, so, u, un, uk, uo, a, nx', rg', numS', numU', psS', psU', kpS', odS', kpU', odU', a', d', L', o', g1, g2, hta, g3, g4, by rw [g5, g6], rfl⟩ ⟨xa, xb, xc, ops, fs, ss, kn, toc, tdn, tld, tsr, trs, rfl, hpg, htd⟩
        rw [va_up_eq hw, va_up_id] at hT'
        exact ⟨(), fun _ => hr1, P, tk, sl, hz, _, td, tl', ⟨goR_step hI hd hk hst rfl, hT'⟩, pe_P (pm_6 (pm_c _ _ _ _ _ _) hp').symm hP2, pe_D (pm_6 (pm_c _ _ _ _ _ _) hp').symm hD2⟩
      · have hoc : ¬ nI o = 0 := fun q => ho ((nI_eq (b := 0) (by omega) (by decide)).mp q)
        by_cases hjs : j = sl
        · subst hjs
          by_cases hag : wk_ag (dm psS numS) P
          · have hoo : o = 1 ∨ o = 2 ∨ o = 3 := by omega
            rcases hoo with rfl | rfl | rfl
            · refine met_fr (c_Vb_go_hand1 l D ka sz v pa ta te wv w r s sn sk so u un uk uo a xa xb xc j hz k m (nI n) (nI tk) nx (nI d) (nI L) (nI (pgs j).length) kn toc tdn tld tsr trs ops fs ss P wf rg numS numU psS psU kpS odS kpU odU hk hm2 hw hS0 hU0 hag) (pm_6 (pm_c _ _ _ _ _ _) hp) ?_
              intro r1 u1 t1 hr1 hB
              obtain ⟨-, hP1, hD1⟩ := hB
              refine ⟨_, hP1, hD1, fun hP2 hD2 => ?_⟩
              obtain ⟨tl', hp', hT'⟩ := hback (cWk ka w r s sn sk so u un uk uo .null (nI j) nx (nI d) (nI L) (nI 1) rg numS numU kpS odS kpU odU (nI psS.length) (nI psU.length)) (some w) none (cTr ka a xa xb xc ops fs ss (nI (pgs j).length) 1 (nI 1) (nI d) (nI L) (nI psU.length) (rg 0)) (some (tdM (rg, dm psU numU, psU.length, na, d, L, 1)))
                ⟨r, s, sn, sk, so, u, un, uk, uo, nI j, nx, nI d, nI L, nI 1, rg, numS, numU, psS, psU, kpS, odS, kpU, odU, hS0, hU0, rfl⟩ ⟨xa, xb, xc, ops, fs, ss, 1, nI 1, nI d, nI L, (nI psU.length), (rg 0), rfl, hpg, rfl, rfl, rfl, rfl, rfl, rfl⟩
              rw [va_up_eq hw] at hT'
              exact ⟨(), fun _ => hr1, (fun p => (dm psU numU p).getD (P p)), tk, j + 1, (hz + 1), _, _, tl', ⟨goR_hand hI hd hk hst ho hag, hT'⟩, pe_P (pm_6 (pm_c _ _ _ _ _ _) hp').symm hP2, pe_D (pm_6 (pm_c _ _ _ _ _ _) hp').symm hD2⟩
            · refine met_fr (c_Vb_go_hand2 l D ka sz v pa ta te wv w r s sn sk so u un uk uo a xa xb xc j hz k m (nI n) (nI tk) nx (nI d) (nI L) (nI (pgs j).length) kn toc tdn tld tsr trs ops fs ss P wf rg numS numU psS psU kpS odS kpU odU hk hm2 hw hS0 hU0 hag) (pm_6 (pm_c _ _ _ _ _ _) hp) ?_
              intro r1 u1 t1 hr1 hB
              obtain ⟨-, hP1, hD1⟩ := hB
              refine ⟨_, hP1, hD1, fun hP2 hD2 => ?_⟩
              obtain ⟨tl', hp', hT'⟩ := hback (cWk ka w r s sn sk so u un uk uo .null (nI j) nx (nI d) (nI L) (nI 2) rg numS numU kpS odS kpU odU (nI psS.length) (nI psU.length)) (some w) none (cTr ka a xa xb xc ops fs ss (nI (pgs j).length) 1 (nI 2) (nI d) (nI L) 0 (rg 0)) (some (tdM (rg, dm psU numU, psU.length, na, d, L, 2)))
                ⟨r, s, sn, sk, so, u, un, uk, uo, nI j, nx, nI d, nI L, nI 2, rg, numS, numU, psS, psU, kpS, odS, kpU, odU, hS0, hU0, rfl⟩ ⟨xa, xb, xc, ops, fs, ss, 1, nI 2, nI d, nI L, 0, (rg 0), rfl, hpg, rfl, rfl, rfl, rfl, rfl, rfl⟩
              rw [va_up_eq hw] at hT'
              exact ⟨(), fun _ => hr1, P, tk, j + 1, hz, _, _, tl', ⟨goR_hand hI hd hk hst ho hag, hT'⟩, pe_P (pm_6 (pm_c _ _ _ _ _ _) hp').symm hP2, pe_D (pm_6 (pm_c _ _ _ _ _ _) hp').symm hD2⟩
            · refine met_fr (c_Vb_go_hand3 l D ka sz v pa ta te wv w r s sn sk so u un uk uo a xa xb xc j hz k m (nI n) (nI tk) nx (nI d) (nI L) (nI (pgs j).length) kn toc tdn tld tsr trs ops fs ss P wf rg numS numU psS psU kpS odS kpU odU hk hm2 hw hS0 hU0 hag) (pm_6 (pm_c _ _ _ _ _ _) hp) ?_
              intro r1 u1 t1 hr1 hB
              obtain ⟨-, hP1, hD1⟩ := hB
              refine ⟨_, hP1, hD1, fun hP2 hD2 => ?_⟩
              obtain ⟨tl', hp', hT'⟩ := hback (cWk ka w r s sn sk so u un uk uo .null (nI j) nx (nI d) (nI L) (nI 3) rg numS numU kpS odS kpU odU (nI psS.length) (nI psU.length)) (some w) none (cTr ka a xa xb xc ops fs ss (nI (pgs j).length) 1 (nI 3) (nI d) (nI L) 0 0) (some (tdM (rg, dm psU numU, psU.length, na, d, L, 3)))
                ⟨r, s, sn, sk, so, u, un, uk, uo, nI j, nx, nI d, nI L, nI 3, rg, numS, numU, psS, psU, kpS, odS, kpU, odU, hS0, hU0, rfl⟩ ⟨xa, xb, xc, ops, fs, ss, 1, nI 3, nI d, nI L, 0, 0, rfl, hpg, rfl, rfl, rfl, rfl, rfl, rfl⟩
              rw [va_up_eq hw] at hT'
              exact ⟨(), fun _ => hr1, P, tk, j + 1, hz, _, _, tl', ⟨goR_hand hI hd hk hst ho hag, hT'⟩, pe_P (pm_6 (pm_c _ _ _ _ _ _) hp').symm hP2, pe_D (pm_6 (pm_c _ _ _ _ _ _) hp').symm hD2⟩
          · refine met_fr (c_Vb_go_anew l D ka sz v pa ta te wv w r s sn sk so u un uk uo a k m (nI n) (nI tk) (nI j) (nI hz) nx (nI d) (nI L) (nI o) P wf rg numS numU psS psU kpS odS kpU odU hk hm2 hw hoc hS0 hU0 hag) (pm_6 (pm_c _ _ _ _ _ _) (pm_as hp)) ?_
            intro r1 u1 t1 hr1 hB
            obtain ⟨kpS', kpU', ⟨hS1, hU1⟩, hP1, hD1⟩ := hB
            refine ⟨_, hP1, hD1, fun hP2 hD2 => ?_⟩
            obtain ⟨tl', hp', hT'⟩ := hback (cWk ka w r s sn sk so u un uk uo (.ref a) (nI j) (nI 0) (nI 0) (nI 0) (nI 0) (fun _ => 0) numS numU kpS' odS kpU' odU (nI 0) (nI 0)) (some w) (some (j, sp_0 (pgs j).length, fun _ => none)) _ (td j)
              ⟨r, s, sn, sk, so, u, un, uk, uo, a, nI 0, fun _ => 0, numS, numU, [], [], kpS', odS, kpU', odU, sp_nx (pgs j).length 0, 0, 0, 0, hS1, hU1, hta, nxR_0 _, by omega, by rw [dm_nil, dm_nil]; rfl, rfl⟩ ⟨xa, xb, xc, ops, fs, ss, kn, toc, tdn, tld, tsr, trs, rfl, hpg, htd⟩
            rw [va_up_eq hw, va_up_id] at hT'
            exact ⟨(), fun _ => hr1, P, tk, j, hz, _, td, tl', ⟨goR_anew hI hd hk hst ho hag, hT'⟩, pe_P (pm_6 (pm_c _ _ _ _ _ _) (pm_as hp')).symm hP2, pe_D (pm_6 (pm_c _ _ _ _ _ _) (pm_as hp')).symm hD2⟩
        · have hnc : ∀ r, ¬ goC P n tk sl wk k r := by
            intro r hc
            rcases hc with ⟨M, sn, e, -⟩ | ⟨e, -⟩
            · rw [hst] at e; cases e; exact hjs rfl
            · rw [hst] at e; cases e
          refine met_frS (c_Vb_go_wait l D ka v pa ta te wv w r s u a k m (nI n) (nI tk) (nI sl) (nI hz) (nI j) nx (nI d) (nI L) (nI o) wf hk hm2 hw hoc (fun q => hjs ((nI_eq (by omega) (by omega)).mp q))) (pm_6 (pm_a _ _ _ _ _ _) (pm_hd (pm_as hp))) ?_
          intro r1 t1 hr1 hPY hDY
          exact ⟨(), fun hc => absurd hc (hnc _), P, tk, sl, hz, wk, td, tl, ⟨goR_id hI hd hnc, hT⟩, hPY, hDY⟩
set_option maxHeartbeats 4000000 in
set_option maxRecDepth 100000 in
theorem c_go_new (l : Launch) (D : va_G) (ka : Nat → ClassId) (sz : Nat) (v pa ta te wv wd n nT m tk sl hz wl K k : Nat) (P wo : Nat → Int64) (tf wf : Nat → Option Nat) (tl : va_W) (pgs : Nat → Pg) (P0 : Nat → Int64) (td : Nat → Option Td) (wk : Wk) (hT : vbT ka n nT m tf wf pgs td wk tl) (hI : ex_I pgs P0 n m P tk sl hz wk) (hd : tdI pgs P0 sl td) (hk : k < m) (hno : wf k = none) (htn : tk < n) : Met l y_Vb_goOn w_Vb_goOn ({ frames := 4, cells := 10, slots := 1561, locals := 95 }) (pW classes (tyS ka) D [.ref v, .int (nI k)] ([(v, .inr (4, [.ref pa, .ref ta, .ref te, .ref wv, .int (nI n), .int (nI tk), .int (nI sl), .int (nI hz)])), (pa, .inl ((ka 0), 256, .inr (.inl P))), (ta, .inl ((ka 3), 64, .inr (.inr (.inr (.inr tf))))), (te, .inl ((ka 4), m, .inr (.inr (.inr (.inr wf))))), (wv, .inr (2, [.ref wd, .int (nI wl)])), (wd, .inl ((ka 0), K, .inr (.inl wo)))] ++ tl) sz) (va_Qi (fun (r : Int32) (_ : Unit) => goC P n tk sl wk k 605 → r = 1) (fun (_ : Unit) t9 => ∃ (P' : Nat → Int64) (tk' sl' hz' : Nat) (wk' : Wk) (td' : Nat → Option Td) (tl' : va_W) (wf' : Nat → Option Nat), (goR pgs P0 n m k P tk sl hz wk P' tk' sl' hz' wk' td' ∧ vbT ka n nT m tf wf' pgs td' wk' tl' ∧ ∃ w, wf' = va_up wf k (some w)) ∧ va_P D classes ([(v, .inr (4, [.ref pa, .ref ta, .ref te, .ref wv, .int (nI n), .int (nI tk'), .int (nI sl'), .int (nI hz')])), (pa, .inl ((ka 0), 256, .inr (.inl P'))), (ta, .inl ((ka 3), 64, .inr (.inr (.inr (.inr tf))))), (te, .inl ((ka 4), m, .inr (.inr (.inr (.inr wf'))))), (wv, .inr (2, [.ref wd, .int (nI wl)])), (wd, .inl ((ka 0), K, .inr (.inl wo)))] ++ tl') t9.heap ∧ va_D (va_A ([(v, .inr (4, [.ref pa, .ref ta, .ref te, .ref wv, .int (nI n), .int (nI tk), .int (nI sl), .int (nI hz)])), (pa, .inl ((ka 0), 256, .inr (.inl P))), (ta, .inl ((ka 3), 64, .inr (.inr (.inr (.inr tf))))), (te, .inl ((ka 4), m, .inr (.inr (.inr (.inr wf))))), (wv, .inr (2, [.ref wd, .int (nI wl)])), (wd, .inl ((ka 0), K, .inr (.inl wo)))] ++ tl) sz) ([(v, .inr (4, [.ref pa, .ref ta, .ref te, .ref wv, .int (nI n), .int (nI tk'), .int (nI sl'), .int (nI hz')])), (pa, .inl ((ka 0), 256, .inr (.inl P'))), (ta, .inl ((ka 3), 64, .inr (.inr (.inr (.inr tf))))), (te, .inl ((ka 4), m, .inr (.inr (.inr (.inr wf'))))), (wv, .inr (2, [.ref wd, .int (nI wl)])), (wd, .inl ((ka 0), K, .inr (.inl wo)))] ++ tl')) (va_A ([(v, .inr (4, [.ref pa, .ref ta, .ref te, .ref wv, .int (nI n), .int (nI tk), .int (nI sl), .int (nI hz)])), (pa, .inl ((ka 0), 256, .inr (.inl P))), (ta, .inl ((ka 3), 64, .inr (.inr (.inr (.inr tf))))), (te, .inl ((ka 4), m, .inr (.inr (.inr (.inr wf))))), (wv, .inr (2, [.ref wd, .int (nI wl)])), (wd, .inl ((ka 0), K, .inr (.inl wo)))] ++ tl) sz)) 10 1561 (va_A ([(v, .inr (4, [.ref pa, .ref ta, .ref te, .ref wv, .int (nI n), .int (nI tk), .int (nI sl), .int (nI hz)])), (pa, .inl ((ka 0), 256, .inr (.inl P))), (ta, .inl ((ka 3), 64, .inr (.inr (.inr (.inr tf))))), (te, .inl ((ka 4), m, .inr (.inr (.inr (.inr wf))))), (wv, .inr (2, [.ref wd, .int (nI wl)])), (wd, .inl ((ka 0), K, .inr (.inl wo)))] ++ tl) sz) := by
  obtain ⟨hn1, hn2, hm1, hm2, tc0, wc0, -, hta0, -, -⟩ := id hT
  obtain ⟨X, rest, hp, hX, hback⟩ := vbT_w hT hk
  rw [hno] at hX
  obtain ⟨rfl, hst⟩ : X = [] ∧ wk k = none := hX
  obtain ⟨t, hta, -⟩ := hta0 tk (by omega)
  refine met_fr (c_Vb_go_null_take l D ka sz v pa ta te wv t n tk k m (nI sl) (nI hz) tf wf htn (by omega) hta hk hm2 hno) (pm_6 (X := []) (pm_b _ _ _ _ _ _) hp) ?_
  intro r1 u1 t1 hr1 hB
  obtain ⟨w, r, s, sn, sk, so, u, un, uk, uo, kpS', kpU', ⟨hS1, hU1⟩, hP1, hD1⟩ := hB
  refine ⟨_, hP1, hD1, fun hP2 hD2 => ?_⟩
  obtain ⟨tl', hp', hT'⟩ := hback (cWk ka w r s sn sk so u un uk uo (.ref t) (nI tk) (nI 0) (nI 0) (nI 0) (nI 0) (fun _ => 0) (fun _ => 0) (fun _ => 0) kpS' (fun _ => 0) kpU' (fun _ => 0) (nI 0) (nI 0)) (some w) (some (tk, sp_0 (pgs tk).length, fun _ => none))
    ⟨r, s, sn, sk, so, u, un, uk, uo, t, nI 0, fun _ => 0, fun _ => 0, fun _ => 0, [], [], kpS', fun _ => 0, kpU', fun _ => 0, sp_nx (pgs tk).length 0, 0, 0, 0, hS1, hU1, hta, nxR_0 _, by omega, by rw [dm_nil]; rfl, rfl⟩
  exact ⟨(), fun _ => hr1, P, tk + 1, sl, hz, _, td, tl', _, ⟨goR_take hI hd hk hst htn, hT', w, rfl⟩, pe_P (pm_6 (pm_b _ _ _ _ _ _) hp').symm hP2, pe_D (pm_6 (pm_b _ _ _ _ _ _) hp').symm hD2⟩
