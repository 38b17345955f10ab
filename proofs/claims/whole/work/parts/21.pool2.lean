/-! ===== the cells of a transaction, of a worker, of the block ===== -/
abbrev cTr (ka : Nat → ClassId) (t xa xb xc : Nat) (ops fs : Nat → Int32) (ss : Nat → Int64) (ln kn oc dn ld sr : Int32) (rs : Int64) : va_W := [(t, .inr (1, [.ref xa, .ref xb, .ref xc, .int ln, .int kn, .int oc, .int dn, .int ld, .int sr, .long rs])), (xa, .inl ((ka 1), 32, .inl ops)), (xb, .inl ((ka 1), 32, .inl fs)), (xc, .inl ((ka 0), 32, .inr (.inl ss)))]
abbrev cWk (ka : Nat → ClassId) (w r s sn sk so u un uk uo : Nat) (task : Value) (tn nx dn ld oc : Int32) (rg numS numU : Nat → Int64) (kpS odS kpU odU : Nat → Int32) (lS lU : Int32) : va_W := [(w, .inr (3, [.ref r, .ref s, .ref u, task, .int tn, .int nx, .int dn, .int ld, .int oc])), (r, .inl ((ka 0), 8, .inr (.inl rg))), (s, .inr (0, [.ref sn, .ref sk, .ref so, .int lS])), (sn, .inl ((ka 0), 256, .inr (.inl numS))), (sk, .inl ((ka 2), 256, .inl kpS)), (so, .inl ((ka 1), 256, .inl odS)), (u, .inr (0, [.ref un, .ref uk, .ref uo, .int lU])), (un, .inl ((ka 0), 256, .inr (.inl numU))), (uk, .inl ((ka 2), 256, .inl kpU)), (uo, .inl ((ka 1), 256, .inl odU))]
abbrev vbX (ka : Nat → ClassId) (v pa ta te wv wd : Nat) (n tk sl hz : Nat) (P : Nat → Int64) (tf : Nat → Option Nat) (m : Nat) (wf : Nat → Option Nat) (wl K : Nat) (wo : Nat → Int64) : va_W := [(v, .inr (4, [.ref pa, .ref ta, .ref te, .ref wv, .int (nI n), .int (nI tk), .int (nI sl), .int (nI hz)])), (pa, .inl ((ka 0), 256, .inr (.inl P))), (ta, .inl ((ka 3), 64, .inr (.inr (.inr (.inr tf))))), (te, .inl ((ka 4), m, .inr (.inr (.inr (.inr wf))))), (wv, .inr (2, [.ref wd, .int (nI wl)])), (wd, .inl ((ka 0), K, .inr (.inl wo)))]
/-- what is told of a transaction: outcome, done, loads, stores, result -/
abbrev Td : Type := Nat × Nat × Nat × Nat × Int64
def tdM (M : Ms) : Td := (sp_oc M, sp_dn M, sp_ls M, (if sp_oc M = 1 then sp_ct M else 0), (if sp_oc M = 3 then 0 else M.1 0))
def tdR (td : Option Td) (kn oc dn ld sr : Int32) (rs : Int64) : Prop := match td with
  | none => kn = 0
  | some q => kn = 1 ∧ oc = nI q.1 ∧ dn = nI q.2.1 ∧ ld = nI q.2.2.1 ∧ sr = nI q.2.2.2.1 ∧ rs = q.2.2.2.2
def txW (ka : Nat → ClassId) (X : va_W) (a : Nat) (pg : Pg) (td : Option Td) : Prop := ∃ xa xb xc ops fs ss kn oc dn ld sr rs, X = cTr ka a xa xb xc ops fs ss (nI pg.length) kn oc dn ld sr rs ∧ pgC pg ops fs ss ∧ tdR td kn oc dn ld sr rs
/-- a worker that is free -/
def wkF (ka : Nat → ClassId) (X : va_W) (w : Nat) : Prop := ∃ r s sn sk so u un uk uo tn nx dn ld oc rg numS numU psS psU kpS odS kpU odU, dOK psS kpS odS ∧ dOK psU kpU odU ∧ X = cWk ka w r s sn sk so u un uk uo .null tn nx dn ld oc rg numS numU kpS odS kpU odU (nI psS.length) (nI psU.length)
/-- a worker with transaction j in hand -/
def wkB (ka : Nat → ClassId) (X : va_W) (w : Nat) (tf : Nat → Option Nat) (pgs : Nat → Pg) (q : Nat × Ms × (Nat → Option Int64)) : Prop := ∃ r s sn sk so u un uk uo t nx rg numS numU psS psU kpS odS kpU odU na d L o, dOK psS kpS odS ∧ dOK psU kpU odU ∧ tf q.1 = some t ∧ nxR (pgs q.1).length nx na ∧ o ≤ 3 ∧ q.2 = ((rg, dm psU numU, psU.length, na, d, L, o), dm psS numS) ∧ X = cWk ka w r s sn sk so u un uk uo (.ref t) (nI q.1) nx (nI d) (nI L) (nI o) rg numS numU kpS odS kpU odU (nI psS.length) (nI psU.length)
def wkW (ka : Nat → ClassId) (X : va_W) (a : Option Nat) (tf : Nat → Option Nat) (pgs : Nat → Pg) (st : Option (Nat × Ms × (Nat → Option Int64))) : Prop := match a with
  | none => X = [] ∧ st = none
  | some w => match st with
    | none => wkF ka X w
    | some q => wkB ka X w tf pgs q
def vbT (ka : Nat → ClassId) (n nT m : Nat) (tf wf : Nat → Option Nat) (pgs : Nat → Pg) (td : Nat → Option Td) (wk : Wk) (tl : va_W) : Prop := n ≤ nT ∧ nT ≤ 64 ∧ 1 ≤ m ∧ m ≤ 16 ∧ ∃ tc wc : Nat → va_W, tl = (List.range nT).flatMap tc ++ (List.range m).flatMap wc ∧ (∀ t, t < nT → ∃ a, tf t = some a ∧ txW ka (tc t) a (pgs t) (td t)) ∧ (∀ t, nT ≤ t → t < 64 → tf t = none) ∧ ∀ w, w < m → wkW ka (wc w) (wf w) tf pgs (wk w)
theorem va_up_id {α : Type} (f : Nat → α) (k : Nat) : va_up f k (f k) = f := by
  funext j
  by_cases h : j = k
  · subst h; rw [va_up_self]
  · rw [va_up_ne _ _ h]
theorem va_up_eq {α : Type} {f : Nat → α} {k : Nat} {x : α} (h : f k = x) : va_up f k x = f := by subst h; exact va_up_id f k
theorem pm_4 {A B C E : va_W} : ((A ++ B) ++ (C ++ E)).Perm ((C ++ A) ++ (B ++ E)) := by
  rw [List.append_assoc, List.append_assoc]
  refine List.Perm.trans (List.Perm.append_left A (List.perm_append_comm_assoc B C E)) ?_
  exact List.perm_append_comm_assoc A C (B ++ E)
theorem vbT_w {ka : Nat → ClassId} {n nT m : Nat} {tf wf : Nat → Option Nat} {pgs : Nat → Pg} {td : Nat → Option Td} {wk : Wk} {tl : va_W} (h : vbT ka n nT m tf wf pgs td wk tl) {k : Nat} (hk : k < m) :
    ∃ X rest, tl.Perm (X ++ rest) ∧ wkW ka X (wf k) tf pgs (wk k) ∧ ∀ X' a' s', wkW ka X' a' tf pgs s' → ∃ tl', tl'.Perm (X' ++ rest) ∧ vbT ka n nT m tf (va_up wf k a') pgs td (va_up wk k s') tl' := by
  obtain ⟨h1, h2, h3, h4, tc, wc, rfl, h5, h6, h7⟩ := h
  have hm : k ∈ List.range m := List.mem_range.mpr hk
  refine ⟨wc k, (List.range nT).flatMap tc ++ ((List.range m).erase k).flatMap wc, ?_, h7 k hk, fun X' a' s' hX => ?_⟩
  · exact (List.Perm.append_left _ (pm_fl hm)).trans (List.perm_append_comm_assoc _ _ _)
  · refine ⟨(List.range nT).flatMap tc ++ (List.range m).flatMap (va_up wc k X'), ?_, h1, h2, h3, h4, tc, va_up wc k X', rfl, h5, h6, fun w hw => ?_⟩
    · have e := pm_fl (f := va_up wc k X') hm
      rw [pm_up List.nodup_range, va_up_self] at e
      exact (List.Perm.append_left _ e).trans (List.perm_append_comm_assoc _ _ _)
    · by_cases hwk : w = k
      · subst hwk
        rw [va_up_self, va_up_self, va_up_self]
        exact hX
      · rw [va_up_ne _ _ hwk, va_up_ne _ _ hwk, va_up_ne _ _ hwk]
        exact h7 w hw
theorem vbT_wt {ka : Nat → ClassId} {n nT m : Nat} {tf wf : Nat → Option Nat} {pgs : Nat → Pg} {td : Nat → Option Td} {wk : Wk} {tl : va_W} (h : vbT ka n nT m tf wf pgs td wk tl) {k j : Nat} (hk : k < m) (hj : j < nT) :
    ∃ X T rest a, tl.Perm ((X ++ T) ++ rest) ∧ wkW ka X (wf k) tf pgs (wk k) ∧ tf j = some a ∧ txW ka T a (pgs j) (td j) ∧ ∀ X' a' s' T' d', wkW ka X' a' tf pgs s' → txW ka T' a (pgs j) d' → ∃ tl', tl'.Perm ((X' ++ T') ++ rest) ∧ vbT ka n nT m tf (va_up wf k a') pgs (va_up td j d') (va_up wk k s') tl' := by
  obtain ⟨h1, h2, h3, h4, tc, wc, rfl, h5, h6, h7⟩ := h
  have hm : k ∈ List.range m := List.mem_range.mpr hk
  have hjm : j ∈ List.range nT := List.mem_range.mpr hj
  obtain ⟨a, ha, hT⟩ := h5 j hj
  refine ⟨wc k, tc j, ((List.range nT).erase j).flatMap tc ++ ((List.range m).erase k).flatMap wc, a, ?_, h7 k hk, ha, hT, fun X' a' s' T' d' hX hT' => ?_⟩
  · exact ((pm_fl hjm).append (pm_fl hm)).trans pm_4
  · refine ⟨(List.range nT).flatMap (va_up tc j T') ++ (List.range m).flatMap (va_up wc k X'), ?_, h1, h2, h3, h4, va_up tc j T', va_up wc k X', rfl, fun t ht => ?_, h6, fun w hw => ?_⟩
    · have e := pm_fl (f := va_up wc k X') hm
      rw [pm_up List.nodup_range, va_up_self] at e
      have e2 := pm_fl (f := va_up tc j T') hjm
      rw [pm_up List.nodup_range, va_up_self] at e2
      exact (e2.append e).trans pm_4
    · by_cases htj : t = j
      · subst htj
        rw [va_up_self, va_up_self]
        exact ⟨a, ha, hT'⟩
      · rw [va_up_ne _ _ htj, va_up_ne _ _ htj]
        exact h5 t ht
    · by_cases hwk : w = k
      · subst hwk
        rw [va_up_self, va_up_self, va_up_self]
        exact hX
      · rw [va_up_ne _ _ hwk, va_up_ne _ _ hwk, va_up_ne _ _ hwk]
        exact h7 w hw
/-! the block's own cells, some to the front: v te | v ta te | v te pa -/
theorem pm_a (a b c d e f : Nat × va_E) : [a, b, c, d, e, f].Perm ([a, d] ++ [b, c, e, f]) := (show ([0, 1, 2, 3, 4, 5] : List Nat).Perm [0, 3, 1, 2, 4, 5] by decide).map (fun i => [a, b, c, d, e, f].getD i a)
theorem pm_b (a b c d e f : Nat × va_E) : [a, b, c, d, e, f].Perm ([a, c, d] ++ [b, e, f]) := (show ([0, 1, 2, 3, 4, 5] : List Nat).Perm [0, 2, 3, 1, 4, 5] by decide).map (fun i => [a, b, c, d, e, f].getD i a)
theorem pm_c (a b c d e f : Nat × va_E) : [a, b, c, d, e, f].Perm ([a, d, b] ++ [c, e, f]) := (show ([0, 1, 2, 3, 4, 5] : List Nat).Perm [0, 3, 1, 2, 4, 5] by decide).map (fun i => [a, b, c, d, e, f].getD i a)
/-! ===== one step of a worker, over the whole block ===== -/
/-- worker k has the transaction that is due in hand, or may take it: r more steps are enough -/
def goC (P : Nat → Int64) (n tk sl : Nat) (wk : Wk) (k r : Nat) : Prop := (∃ M sn, wk k = some (sl, M, sn) ∧ rk_B P M sn r) ∨ (wk k = none ∧ tk = sl ∧ tk < n ∧ 303 ≤ r)
def tdI (pgs : Nat → Pg) (P0 : Nat → Int64) (sl : Nat) (td : Nat → Option Td) : Prop := ∀ t, t < sl → td t = some (tdM (bk_M pgs P0 t))
def goR (pgs : Nat → Pg) (P0 : Nat → Int64) (n m k : Nat) (P : Nat → Int64) (tk sl hz : Nat) (wk : Wk) (P' : Nat → Int64) (tk' sl' hz' : Nat) (wk' : Wk) (td' : Nat → Option Td) : Prop :=
  ex_I pgs P0 n m P' tk' sl' hz' wk' ∧ tdI pgs P0 sl' td' ∧ ((sl' = sl ∧ P' = P) ∨ sl' = sl + 1) ∧ (∀ w, w ≠ k → wk' w = wk w) ∧ tk ≤ tk' ∧ (∀ r, goC P n tk sl wk k (r + 1) → sl' = sl + 1 ∨ goC P' n tk' sl' wk' k r)
theorem rk_mono {P : Nat → Int64} {M : Ms} {sn : Nat → Option Int64} {r r' : Nat} (h : rk_B P M sn r) (hr : r ≤ r') : rk_B P M sn r' := ⟨fun q => Nat.le_trans (h.1 q) hr, fun q => Nat.le_trans (h.2 q) hr⟩
/-- nothing changes -/
theorem goR_id {pgs : Nat → Pg} {P0 : Nat → Int64} {n m k : Nat} {P : Nat → Int64} {tk sl hz : Nat} {wk : Wk} {td : Nat → Option Td} (hI : ex_I pgs P0 n m P tk sl hz wk) (hd : tdI pgs P0 sl td) (hc : ∀ r, ¬ goC P n tk sl wk k r) : goR pgs P0 n m k P tk sl hz wk P tk sl hz wk td :=
  ⟨hI, hd, Or.inl ⟨rfl, rfl⟩, fun _ _ => rfl, Nat.le_refl _, fun r h => absurd h (hc _)⟩
theorem goR_take {pgs : Nat → Pg} {P0 : Nat → Int64} {n m k : Nat} {P : Nat → Int64} {tk sl hz : Nat} {wk : Wk} {td : Nat → Option Td} (hI : ex_I pgs P0 n m P tk sl hz wk) (hd : tdI pgs P0 sl td) (hk : k < m) (hf : wk k = none) (ht : tk < n) : goR pgs P0 n m k P tk sl hz wk P (tk + 1) sl hz (va_up wk k (some (tk, sp_0 (pgs tk).length, fun _ => none))) td := by
  refine ⟨ex_take hI hk hf ht, hd, Or.inl ⟨rfl, rfl⟩, fun w hw => va_up_ne _ _ hw, Nat.le_succ _, fun r h => Or.inr ?_⟩
  rcases h with ⟨M, sn, e, -⟩ | ⟨-, e, -, hr⟩
  · rw [hf] at e; cases e
  · subst e
    exact Or.inl ⟨_, _, va_up_self _ _ _, rk_mono (rk_0 P _) (by omega)⟩
theorem goR_step {pgs : Nat → Pg} {P0 : Nat → Int64} {n m k j : Nat} {P : Nat → Int64} {tk sl hz : Nat} {wk : Wk} {td : Nat → Option Td} {M : Ms} {sn : Nat → Option Int64} (hI : ex_I pgs P0 n m P tk sl hz wk) (hd : tdI pgs P0 sl td) (hk : k < m) (hf : wk k = some (j, M, sn)) (ho : sp_oc M = 0) : goR pgs P0 n m k P tk sl hz wk P tk sl hz (va_up wk k (some (j, sp_st (pgs j) (wk_ld sn P) M, wk_sn (pgs j) P M sn))) td := by
  have hfo := (hI.2.2.2.2.1 k j M sn hk hf).2.2
  refine ⟨ex_go hI hk hf (wk_fo_st hfo), hd, Or.inl ⟨rfl, rfl⟩, fun w hw => va_up_ne _ _ hw, Nat.le_refl _, fun r h => Or.inr ?_⟩
  rcases h with ⟨M', sn', e, hr⟩ | ⟨e, -⟩
  · rw [hf] at e
    cases e
    exact Or.inl ⟨_, _, va_up_self _ _ _, rk_st hfo ho hr⟩
  · rw [hf] at e; cases e
theorem goR_anew {pgs : Nat → Pg} {P0 : Nat → Int64} {n m k j : Nat} {P : Nat → Int64} {tk sl hz : Nat} {wk : Wk} {td : Nat → Option Td} {M : Ms} {sn : Nat → Option Int64} (hI : ex_I pgs P0 n m P tk sl hz wk) (hd : tdI pgs P0 sl td) (hk : k < m) (hf : wk k = some (j, M, sn)) (ho : sp_oc M ≠ 0) (ha : ¬ wk_ag sn P) : goR pgs P0 n m k P tk sl hz wk P tk sl hz (va_up wk k (some (j, sp_0 (pgs j).length, fun _ => none))) td := by
  refine ⟨ex_go hI hk hf (wk_fo_0 _), hd, Or.inl ⟨rfl, rfl⟩, fun w hw => va_up_ne _ _ hw, Nat.le_refl _, fun r h => Or.inr ?_⟩
  rcases h with ⟨M', sn', e, hr⟩ | ⟨e, -⟩
  · rw [hf] at e
    cases e
    exact Or.inl ⟨_, _, va_up_self _ _ _, rk_anew ho ha hr⟩
  · rw [hf] at e; cases e
theorem goR_hand {pgs : Nat → Pg} {P0 : Nat → Int64} {n m k : Nat} {P : Nat → Int64} {tk sl hz : Nat} {wk : Wk} {td : Nat → Option Td} {M : Ms} {sn : Nat → Option Int64} (hI : ex_I pgs P0 n m P tk sl hz wk) (hd : tdI pgs P0 sl td) (hk : k < m) (hf : wk k = some (sl, M, sn)) (ho : sp_oc M ≠ 0) (ha : wk_ag sn P) : goR pgs P0 n m k P tk sl hz wk (bk_ov P M) tk (sl + 1) (hz + (if sp_oc M = 1 then 1 else 0)) (va_up wk k none) (va_up td sl (some (tdM M))) := by
  obtain ⟨e, hI'⟩ := ex_hand hI hk hf ho ha
  refine ⟨hI', fun t ht => ?_, Or.inr rfl, fun w hw => va_up_ne _ _ hw, Nat.le_refl _, fun r h => Or.inl rfl⟩
  by_cases hts : t = sl
  · subst hts
    rw [va_up_self, e]
  · rw [va_up_ne _ _ hts]
    exact hd t (by omega)
theorem nxR_0 (n : Nat) : nxR n (nI 0) (sp_nx n 0) := by
  unfold sp_nx
  split
  · exact ⟨by assumption, rfl⟩
  · have : n = 0 := by omega
    exact Or.inr (by rw [this])
theorem goC_mono {P : Nat → Int64} {n tk sl k r r' : Nat} {wk : Wk} (h : goC P n tk sl wk k r) (hr : r ≤ r') : goC P n tk sl wk k r' := by
  rcases h with ⟨M, sn, e, h⟩ | ⟨a, b, c, h⟩
  · exact Or.inl ⟨M, sn, e, rk_mono h hr⟩
  · exact Or.inr ⟨a, b, c, by omega⟩
theorem goC_pos {pgs : Nat → Pg} {P0 : Nat → Int64} {n m k r : Nat} {P : Nat → Int64} {tk sl hz : Nat} {wk : Wk} (hI : ex_I pgs P0 n m P tk sl hz wk) (hk : k < m) (h : goC P n tk sl wk k r) : 1 ≤ r := by
  rcases h with ⟨M, sn, e, h⟩ | ⟨a, b, c, h⟩
  · exact rk_pos (hI.2.2.2.2.1 k sl M sn hk e).2.2 h
  · omega
/-- where a worker goes on as far as it can: behind i steps, the last of which said g -/
def faS (n k : Nat) (P : Nat → Int64) (tk sl : Nat) (wk : Wk) (i : Nat) (g : Int32) (P1 : Nat → Int64) (tk1 sl1 : Nat) (wk1 : Wk) : Prop :=
  ((sl1 = sl ∧ P1 = P) ∨ sl1 = sl + 1) ∧ (∀ w, w ≠ k → wk1 w = wk w) ∧ tk ≤ tk1 ∧ (goC P n tk sl wk k 605 → sl1 = sl + 1 ∨ (g = 1 ∧ ∃ r, goC P1 n tk1 sl1 wk1 k r ∧ r + i ≤ 605))
theorem faS_0 (n k : Nat) (P : Nat → Int64) (tk sl : Nat) (wk : Wk) : faS n k P tk sl wk 0 1 P tk sl wk := ⟨Or.inl ⟨rfl, rfl⟩, fun _ _ => rfl, Nat.le_refl _, fun h => Or.inr ⟨rfl, 605, h, Nat.le_refl _⟩⟩
theorem faS_s {pgs : Nat → Pg} {P0 : Nat → Int64} {n m k i : Nat} {g g' : Int32} {P P1 P2 : Nat → Int64} {tk sl tk1 sl1 hz1 tk2 sl2 hz2 : Nat} {wk wk1 wk2 : Wk} {td2 : Nat → Option Td} (hk : k < m) (hI1 : ex_I pgs P0 n m P1 tk1 sl1 hz1 wk1) (h : faS n k P tk sl wk i g P1 tk1 sl1 wk1) (hs : sl1 = sl) (hr : goC P1 n tk1 sl1 wk1 k 605 → g' = 1) (hg : goR pgs P0 n m k P1 tk1 sl1 hz1 wk1 P2 tk2 sl2 hz2 wk2 td2) : faS n k P tk sl wk (i + 1) g' P2 tk2 sl2 wk2 := by
  obtain ⟨a1, a2, a3, a4⟩ := h
  obtain ⟨b1, b2, b3, b4, b5, b6⟩ := hg
  subst hs
  have hP1 : P1 = P := by
    rcases a1 with a1 | a1
    · exact a1.2
    · omega
  refine ⟨?_, fun w hw => (b4 w hw).trans (a2 w hw), by omega, fun hc => ?_⟩
  · rcases b3 with b3 | b3
    · exact Or.inl ⟨b3.1, b3.2.trans hP1⟩
    · exact Or.inr b3
  · rcases a4 hc with a4 | ⟨-, r, hr1, hr2⟩
    · omega
    · have hp := goC_pos hI1 hk hr1
      obtain ⟨r0, rfl⟩ : ∃ r0, r = r0 + 1 := ⟨r - 1, by omega⟩
      rcases b6 r0 hr1 with b6 | b6
      · exact Or.inl b6
      · exact Or.inr ⟨hr (goC_mono hr1 (by omega)), r0, b6, by omega⟩
/-- behind all its steps -/
def faE (n k : Nat) (P : Nat → Int64) (tk sl : Nat) (wk : Wk) (P1 : Nat → Int64) (tk1 sl1 : Nat) (wk1 : Wk) : Prop :=
  ((sl1 = sl ∧ P1 = P) ∨ sl1 = sl + 1) ∧ (∀ w, w ≠ k → wk1 w = wk w) ∧ tk ≤ tk1 ∧ (goC P n tk sl wk k 605 → sl1 = sl + 1)
theorem faE_of {n k : Nat} {P : Nat → Int64} {tk sl : Nat} {wk : Wk} {i : Nat} {g : Int32} {P1 : Nat → Int64} {tk1 sl1 : Nat} {wk1 : Wk} (h : faS n k P tk sl wk i g P1 tk1 sl1 wk1) (hx : 1000 ≤ i ∨ g = 0 ∨ ¬ sl1 = sl) : faE n k P tk sl wk P1 tk1 sl1 wk1 := by
  obtain ⟨a1, a2, a3, a4⟩ := h
  refine ⟨a1, a2, a3, fun hc => ?_⟩
  rcases a4 hc with a4 | ⟨e, r, -, hr⟩
  · exact a4
  · rcases hx with hx | hx | hx
    · omega
    · rw [hx] at e; exact absurd e (by decide)
    · rcases a1 with a1 | a1
      · exact absurd a1.1 hx
      · exact a1
