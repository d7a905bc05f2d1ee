/-! A CALL of the pure machine is a call of the machine; a whole method keeps its contract. -/
def q_rm (j : Nat) : Room := { frames := qmF j, cells := 0, slots := 0, locals := qmW j }
def q_Pre (D : va_G) (ad : Nat → Nat) (cI cZ cQ : ClassId) (h : HP) (U : State) : Prop := va_P D qCl (q_W ad cI cZ cQ h) U.heap ∧ q_Sta D ad cI cZ cQ U
def q_Q (D : va_G) (ad : Nat → Nat) (cI cZ cQ : ClassId) (v : Option Int32) (h' : HP) : Array Value → State → Outcome → State → Prop := match v with
  | some r => va_Qi (fun (r' : Int32) (_ : Unit) => r' = r) (fun _ t => va_P D qCl (q_W ad cI cZ cQ h') t.heap) (q_A ad)
  | none => va_Qv (fun (_ : Unit) => True) (fun _ t => va_P D qCl (q_W ad cI cZ cQ h') t.heap) (q_A ad)
/-- the contract: method j, called with these values on this heap, comes to that end -/
def q_Met (l : Launch) (D : va_G) (ad : Nat → Nat) (cI cZ cQ : ClassId) (j : Nat) (as : List PV) (h : HP) (v : Option Int32) (h' : HP) : Prop :=
  Met l (qmY j) (q_ws j) (q_rm j) (va_Pc (as.map (q_tr ad)) (q_Pre D ad cI cZ cQ h)) (q_Q D ad cI cZ cQ v h') 0 0 (q_A ad)
theorem q_Sta_at {D : va_G} {ad : Nat → Nat} {cI cZ cQ : ClassId} {s U : State} {H : Heap} {locs : List Loc} (hSt : q_Sta D ad cI cZ cQ s) (hS : va_S (q_A ad) s.heap H locs) (hU : U.heap = H) (hW : s.WarmedH U.vm) : q_Sta D ad cI cZ cQ U := by
  obtain ⟨hK, hZ, hT, hN, hap⟩ := hSt
  subst hU
  exact ⟨va_K.moved hW.alike hK, (hZ.kept hS.2.1).moved hW.alike, (hT.kept hS.2.1).moved hW.alike, ⟨hN.1.warmM hW, hN.2.warmF hW⟩, hap⟩
theorem q_blind {D : va_G} {ad : Nat → Nat} {cI cZ cQ : ClassId} {as : List Value} {h : HP} : FrameBlind (va_Pc as (q_Pre D ad cI cZ cQ h)) := by
  intro a U g mk hv
  obtain ⟨h0, hP, hK, hZ, hT, hN, hap⟩ := hv
  exact ⟨h0, hP, va_K.moved (u := U) (U := U.calling g mk a) (Vm.Alike.refl U.vm) hK, va_Z.moved (u := U) (U := U.calling g mk a) (Vm.Alike.refl U.vm) hZ, va_T.moved (u := U) (U := U.calling g mk a) (Vm.Alike.refl U.vm) hT, ⟨hN.1.same rfl rfl, hN.2.same rfl rfl⟩, hap⟩
theorem q_recv {D : va_G} {ad : Nat → Nat} {cI cZ cQ : ClassId} {h : HP} {s : State} {H : Heap} {o c : Nat} (hK : va_K D qCl (q_Tys cI cZ cQ) s) (hP : va_P D qCl (q_W ad cI cZ cQ h) H) (hsh : qSh o = some (.inl c)) (h8 : c < 8) : ∃ cellB : Cell, H[ad o]? = some cellB ∧ cellB.vm.isStatics = false ∧ s.vm.findClass (qC c).1 = some cellB.cls := by
  have hoW : o < qNW := q_sh_W hsh (fun n z => by cases z)
  have he : (q_W ad cI cZ cQ h)[o]? = some (ad o, .inr (c, q_fs ad h o c)) := by rw [q_W_at hoW]; simp only [q_cell, hsh]
  obtain ⟨r, hr, cell, g1, g2, g3, -⟩ := hP o _ he
  have hk := (hK.1 c _ (q_class h8)).2.1
  exact ⟨cell, g1, by rw [g3]; rfl, by rw [g2]; exact hk⟩
theorem q_wp {j : Nat} (h2 : 2 ≤ j) (hj : j < 137) : Cond.initialized (q_own j) ∈ q_WS ∧ ((qmY j).cls ≠ "java/lang/invoke/MethodHandle" ∧ (qmY j).cls ≠ "java/lang/invoke/VarHandle") ∧ (parseMethodDescriptor (qmY j).desc).map (fun d => d.parameters.length) = some (if qmS j = true then qmN j else qmN j - 1) ∧ plainName (qmY j).cls = true ∧ (qmS j = true ∨ 1 ≤ qmN j) ∧ qmN j ≤ qmL j := by
  have h := qWp_ok h2 hj
  simp only [qWpOk, Bool.and_eq_true, decide_eq_true_eq] at h
  exact ⟨q_inAt h.1.1.1.1.1.1.2 rfl, h.1.1.1.1.2, h.1.1.1.2, h.1.1.2, h.1.2, h.2⟩
theorem q_wpI {j : Nat} (h2 : 2 ≤ j) (hj : j < 137) (hs : qmS j = false) : Cond.instanceMethod (qmY j) ∈ q_WS ∧ Cond.selects (q_own j) (qmY j) (qmY j) ∈ q_WS ∧ qmC j < 8 ∧ (qC (qmC j)).1 = q_own j := by
  have h := qWp_ok h2 hj
  simp only [qWpOk, Bool.and_eq_true, decide_eq_true_eq, hs, Bool.false_eq_true, if_false] at h
  have g := h.1.1.1.1.1.2
  exact ⟨q_inAt g.1.1.1 rfl, q_inAt g.1.1.2 rfl, g.1.2, g.2⟩
theorem q_wpS {j : Nat} (h2 : 2 ≤ j) (hj : j < 137) (hs : qmS j = true) : Cond.static (qmY j) ∈ q_WS := by
  have h := qWp_ok h2 hj
  simp only [qWpOk, Bool.and_eq_true, decide_eq_true_eq, hs, if_true] at h
  exact q_inAt h.1.1.1.1.1.2 rfl
section QCALL
variable {p : Program} {l : Launch} {e : Env} {R : Room} {s : State} {m : MethodId} {args : Array Value} {below : List Frame} {meth : Method} {c : Code} {H : Heap} {locs : List Loc} {cells slots : Nat} {Q : State → Prop}
variable {D : va_G} {ad : Nat → Nat} {cI cZ cQ : ClassId} {j : Nat} {ls : Array Slot}
/-- behind a call: an answer or none -/
theorem q_goon {a : Array Value} {pc : Nat} {st0 : List Value} {t : List PV} {v : Option Int32} {h' : HP} (hr : va_Run p l e R s m args below meth c H locs cells slots 0 0 (F0 m pc ls st0) (t.map (q_tr ad)) (q_Q D ad cI cZ cQ v h' a) (q_A ad)) (hS : va_S (q_A ad) s.heap H locs)
    (kk : ∀ (H' : Heap) (locs' : List Loc), va_P D qCl (q_W ad cI cZ cQ h') H' → va_S (q_A ad) s.heap H' locs' → W p l e R s m args below meth c H' locs' cells slots Q (F0 m (pc + 3) ls (((v.map Sum.inl).toList ++ t).map (q_tr ad)))) : W p l e R s m args below meth c H locs cells slots Q (F0 m pc ls st0) := by
  cases v with
  | some r =>
    refine va_calli (S := Unit) (a := a) hr hS (fun _ _ z => z) (fun _ z => z) (fun r' u t1 H1 locs1 ht hvm hpost hB hz hk hS1 => ?_)
    have hpost : r' = r := hpost
    subst hpost
    have hB : va_P D qCl (q_W ad cI cZ cQ h') t1.heap := hB
    rw [ht] at hB
    exact kk H1 locs1 hB hS1
  | none =>
    refine va_callv (S := Unit) (a := a) hr hS (fun _ _ z => z) (fun _ z => z) (fun u t1 H1 locs1 ht hvm hpost hB hz hk hS1 => ?_)
    have hB : va_P D qCl (q_W ad cI cZ cQ h') t1.heap := hB
    rw [ht] at hB
    exact kk H1 locs1 hB hS1
set_option maxHeartbeats 4000000 in
set_option maxRecDepth 100000 in
theorem q_call1 (hj : j < 137) (hE : q_Env p s m args meth c j) (hSt : q_Sta D ad cI cZ cQ s) (hRf : qmF j ≤ R.frames) (hRl : qmW j ≤ R.locals) (hc0 : cells ≤ R.cells) (hs0 : slots ≤ R.slots)
    {pc j' : Nat} {L : PL} {st as t : List PV} {h h' : HP} {v : Option Int32} (h1 : p1 j (pc, L, st, h) = some (.inr (.inr (j', as, t)))) (hM : 2 ≤ j' → j' < 137 → as.length = qmN j' → q_Met l D ad cI cZ cQ j' as h v h') (hl : lv_has ls (qmL j) (q_tl ad L)) (hP : va_P D qCl (q_W ad cI cZ cQ h) H) (hS : va_S (q_A ad) s.heap H locs)
    (kk : ∀ (H' : Heap) (locs' : List Loc), va_P D qCl (q_W ad cI cZ cQ h') H' → va_S (q_A ad) s.heap H' locs' → W p l e R s m args below meth c H' locs' cells slots Q (F0 m (pc + 3) ls (((v.map Sum.inl).toList ++ t).map (q_tr ad)))) :
    W p l e R s m args below meth c H locs cells slots Q (F0 m pc ls (st.map (q_tr ad))) := by
  obtain ⟨hx, hb, hml, hown, hts, hret, hlk⟩ := hE
  simp only [p1] at h1
  cases hq : pe_at (qCod j) pc with
  | none => rw [hq] at h1; cases h1
  | some w =>
    obtain ⟨i, n, ax⟩ := w
    rw [hq] at h1
    obtain ⟨hd, hok⟩ := q_row hj hq
    dsimp only at h1
    cases i with
    | invokevirtual idx =>
      simp only [q_okc, Bool.and_eq_true, beq_iff_eq] at hok
      obtain ⟨rfl, ht⟩ := hok
      rcases ax with _ | ⟨j'', _ | ⟨na, _ | ⟨a3, ax'⟩⟩⟩ <;> first | (cases ht; done) | skip
      simp only [Bool.and_eq_true, q_cal, decide_eq_true_eq, beq_iff_eq, Bool.not_eq_true'] at ht
      obtain ⟨⟨hlnk, ⟨⟨hna, hj'⟩, hF⟩, hW⟩, hst⟩ := ht
      simp only [p1i] at h1
      split at h1
      · rename_i hcnd
        obtain ⟨hn1, hn2, hrec⟩ := hcnd
        simp only [Option.some.injEq, Sum.inr.injEq, Prod.mk.injEq] at h1
        obtain ⟨rfl, rfl, rfl⟩ := h1
        have h2' : 2 ≤ j'' := by
          rcases j'' with _ | _ | k
          · exact absurd hst (by decide +kernel)
          · exact absurd hst (by decide +kernel)
          · omega
        have hlen : (st.take na).reverse.length = qmN j'' := by simp [List.length_take]; omega
        replace hM : Met l (qmY j'') (q_ws j'') (q_rm j'') (va_Pc ((st.take na).reverse.map (q_tr ad)) (q_Pre D ad cI cZ cQ h)) (q_Q D ad cI cZ cQ v h') 0 0 (q_A ad) := hM h2' hj' hlen
        have hw : Cond.methodLink (q_own j) idx (qmY j'') ∈ q_WS := by
          rcases q_link hlnk with ⟨q, -⟩ | ⟨-, q⟩
          · cases q
          · exact q
        obtain ⟨w1, w2, w8, wc⟩ := q_wpI h2' hj' hst
        obtain ⟨u1, u2, u3, -, -, -⟩ := q_wp h2' hj'
        rw [hst] at u3
        have hsplit : st = (st.take na).reverse.reverse ++ st.drop na := by rw [List.reverse_reverse, List.take_append_drop]
        have htl : (st.drop na).length ≤ 8 := by rw [List.length_drop]; omega
        generalize (st.take na).reverse = as at hrec hM hlen hsplit
        generalize st.drop na = t at hsplit htl kk
        subst hsplit
        simp only [p_recv, hst, Bool.false_or] at hrec
        rcases as with _ | ⟨x | o, as⟩
        · cases hrec
        · cases hrec
        · dsimp only at hrec
          split at hrec
          · rename_i c' hsh
            have hc' : c' = qmC j'' := by simpa using hrec
            subst hc'
            obtain ⟨cellB, b1, b2, b3⟩ := q_recv (s := s) hSt.1 hP hsh w8
            rw [wc] at b3
            have hrun := va_runV (p := p) (l := l) (e := e) (R := R) (s := s) (m := m) (args := args) (below := below) (meth := meth) (c := c) (H := H) (locs := locs) (cells := cells) (slots := slots) (Ts := q_WS) (own := q_own j) (C := q_own j'') (b := ad o) (As := as.map (q_tr ad)) (rest := t.map (q_tr ad)) (g := F0 m pc ls (((Sum.inr o :: as).reverse ++ t).map (q_tr ad))) ⟨hx, hb, hml, hown, hts⟩ hM
              (cw := ⟨callB_of (qmN j'' - 1) hts (q_goodIn h2' hj' (fun _ z => z)) rfl rfl rfl (hts _ u1) (hts _ hw) ⟨u2.1, u2.2, u3⟩ ⟨by show qmF j'' + 1 ≤ R.frames; omega, by show 8 + (qmL j'' + 11) + qmW j'' ≤ R.locals; omega⟩, hts _ w1, hts _ w2⟩)
              ⟨q_blind, ⟨cellB, b1, b2, b3⟩, fun U hU hWU => ⟨rfl, by rw [hU]; exact hP, q_Sta_at hSt hS hU hWU⟩⟩ rfl (by simp at hlen ⊢; omega) hl.1 (by simp [q_tr]) (by rw [q_sum]; show 2 * 0 + _ ≤ 8; omega) hd ⟨hc0, hs0⟩
            exact q_goon hrun hS kk
          · cases hrec
      · cases h1
    | invokestatic idx =>
      simp only [q_okc, Bool.and_eq_true, beq_iff_eq] at hok
      obtain ⟨rfl, ht⟩ := hok
      rcases ax with _ | ⟨j'', _ | ⟨na, _ | ⟨a3, ax'⟩⟩⟩ <;> first | (cases ht; done) | skip
      simp only [Bool.and_eq_true, Bool.or_eq_true, q_cal, decide_eq_true_eq, beq_iff_eq] at ht
      obtain ⟨⟨hlnk, ⟨⟨hna, hj'⟩, hF⟩, hW⟩, hst⟩ := ht
      have h2' : 2 ≤ j'' := by
        rcases j'' with _ | _ | k
        · simp only [p1i] at h1
          split at h1
          · split at h1 <;> cases h1
          · cases h1
        · simp only [p1i] at h1
          split at h1
          · split at h1 <;> cases h1
          · cases h1
        · omega
      obtain ⟨k, rfl⟩ : ∃ k, j'' = k + 2 := ⟨j'' - 2, by omega⟩
      simp only [p1i] at h1
      split at h1
      · rename_i hcnd
        obtain ⟨hn1, hn2⟩ := hcnd
        simp only [Option.some.injEq, Sum.inr.injEq, Prod.mk.injEq] at h1
        obtain ⟨rfl, rfl, rfl⟩ := h1
        have hlen : (st.take na).reverse.length = qmN (k + 2) := by simp [List.length_take]; omega
        replace hM : Met l (qmY (k + 2)) (q_ws (k + 2)) (q_rm (k + 2)) (va_Pc ((st.take na).reverse.map (q_tr ad)) (q_Pre D ad cI cZ cQ h)) (q_Q D ad cI cZ cQ v h') 0 0 (q_A ad) := hM h2' hj' hlen
        have w1 := q_wpS h2' hj' hst
        obtain ⟨u1, u2, u3, -, -, -⟩ := q_wp h2' hj'
        rw [hst] at u3
        have hsplit : st = (st.take na).reverse.reverse ++ st.drop na := by rw [List.reverse_reverse, List.take_append_drop]
        have htl : (st.drop na).length ≤ 8 := by rw [List.length_drop]; omega
        generalize (st.take na).reverse = as at hM hlen hsplit
        generalize st.drop na = t at hsplit htl kk
        subst hsplit
        have hroom : (q_rm (k + 2)).frames + 1 ≤ R.frames ∧ 8 + (qmL (k + 2) + 11) + (q_rm (k + 2)).locals ≤ R.locals := ⟨by show qmF (k + 2) + 1 ≤ R.frames; omega, by show 8 + (qmL (k + 2) + 11) + qmW (k + 2) ≤ R.locals; omega⟩
        have hpre : PreS s H (va_Pc (as.map (q_tr ad)) (q_Pre D ad cI cZ cQ h)) (as.map (q_tr ad)) := ⟨q_blind, fun U hU hWU => ⟨rfl, by rw [hU]; exact hP, q_Sta_at hSt hS hU hWU⟩⟩
        have hstk : (F0 m pc ls ((as.reverse ++ t).map (q_tr ad))).stack = (as.map (q_tr ad)).reverse ++ t.map (q_tr ad) := by simp
        have hbig : 2 * (F0 m pc ls ((as.reverse ++ t).map (q_tr ad))).monitorRoom + ((t.map (q_tr ad)).map fun v => v.category).sum ≤ 8 := by rw [q_sum]; show 2 * 0 + _ ≤ 8; omega
        rcases hlnk with z | z
        · have hw : Cond.methodLink (q_own j) idx (qmY (k + 2)) ∈ q_WS := by
            rcases q_link z with ⟨q, -⟩ | ⟨-, q⟩
            · cases q
            · exact q
          have hrun := va_runS (p := p) (l := l) (e := e) (R := R) (s := s) (m := m) (args := args) (below := below) (meth := meth) (c := c) (H := H) (locs := locs) (cells := cells) (slots := slots) (Ts := q_WS) (own := q_own j) (As := as.map (q_tr ad)) (rest := t.map (q_tr ad)) (g := F0 m pc ls ((as.reverse ++ t).map (q_tr ad))) ⟨hx, hb, hml, hown, hts⟩ hM
            (cw := ⟨callB_of (qmN (k + 2)) hts (q_goodIn h2' hj' (fun _ z => z)) rfl rfl rfl (hts _ u1) (hts _ hw) ⟨u2.1, u2.2, u3⟩ hroom, hts _ w1⟩) hpre rfl (by simp at hlen ⊢; omega) hl.1 hstk hbig hd ⟨hc0, hs0⟩
          exact q_goon hrun hS kk
        · rcases q_link z with ⟨-, q1, q2, q3⟩ | ⟨q, -⟩
          · have hw : va_Nw (.methodLinkNest (q_own j) idx (qmY (k + 2)) "CashRecycler") s := by rw [q1, q2, q3]; exact hSt.2.2.2.1.1
            have hrun := va_runSN (p := p) (l := l) (e := e) (R := R) (s := s) (m := m) (args := args) (below := below) (meth := meth) (c := c) (H := H) (locs := locs) (cells := cells) (slots := slots) (Ts := q_WS) (own := q_own j) (host := "CashRecycler") (As := as.map (q_tr ad)) (rest := t.map (q_tr ad)) (g := F0 m pc ls ((as.reverse ++ t).map (q_tr ad))) ⟨hx, hb, hml, hown, hts⟩ hM
              (cw := ⟨va_cnB (qmN (k + 2)) hts (q_goodIn h2' hj' (fun _ z => z)) rfl rfl rfl hw (hts _ u1) ⟨u2.1, u2.2, u3⟩ hroom, hts _ w1, trivial⟩) hpre rfl (by simp at hlen ⊢; omega) hl.1 hstk hbig hd ⟨hc0, hs0⟩
            exact q_goon hrun hS kk
          · exact absurd rfl q
      · cases h1
    | _ => exfalso; revert h1; simp only [p1i, p_int, p_br]; (repeat' split) <;> (intro z; cases z)
end QCALL
