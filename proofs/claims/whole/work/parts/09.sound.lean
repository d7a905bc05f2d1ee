/-! WHOLE METHODS: what the pure machine answers, the machine answers. -/
theorem q_sl (ad : Nat → Nat) : ∀ as : List PV, (lg_sl (as.map (q_tr ad))).length = as.length
  | [] => rfl
  | v :: t => by
    have h := q_sl ad t
    simp only [lg_sl, List.map_cons, List.flatMap_cons, List.length_append, List.length_cons] at h ⊢
    rw [h, if_neg (by rw [q_tr_cat]; decide)]
    simp only [List.length_cons, List.length_nil]
    omega
theorem q_args (ad : Nat → Nat) : ∀ (as : List PV) (i : Nat), lv_args i (as.map (q_tr ad)) = q_tl ad (pl_in i as)
  | [], _ => rfl
  | v :: t, i => by
    simp only [List.map_cons, lv_args, pl_in, q_tl]
    rw [if_neg (by rw [q_tr_cat]; decide), q_args ad t (i + 1)]
    rfl
section QSOUND
variable {p : Program} {l : Launch} {e : Env} {R : Room} {s : State} {m : MethodId} {args : Array Value} {below : List Frame} {meth : Method} {c : Code} {cells slots : Nat} {Q : State → Prop}
variable {D : va_G} {ad : Nat → Nat} {cI cZ cQ : ClassId} {j : Nat}
theorem q_walk (h2 : 2 ≤ j) (hj : j < 137) (hE : q_Env p s m args meth c j) (hSt : q_Sta D ad cI cZ cQ s) (hRf : qmF j ≤ R.frames) (hRl : qmW j ≤ R.locals) (hc0 : cells ≤ R.cells) (hs0 : slots ≤ R.slots) {r : PO} {n : Nat}
    (IH : ∀ k, k < n → ∀ (j : Nat) (as : List PV) (h : HP) (v : Option Int32) (h' : HP), pm k j (0, pl_in 0 as, [], h) = some (.inl v, h') → 2 ≤ j → j < 137 → as.length = qmN j → q_Met l D ad cI cZ cQ j as h v h')
    (K : ∀ (pc : Nat) (L : PL) (st : List PV) (h : HP) (H : Heap) (locs : List Loc) (ls : Array Slot), p1 j (pc, L, st, h) = some (.inr (.inl r)) → lv_has ls (qmL j) (q_tl ad L) → va_P D qCl (q_W ad cI cZ cQ h) H → va_S (q_A ad) s.heap H locs → W p l e R s m args below meth c H locs cells slots Q (F0 m pc ls (st.map (q_tr ad)))) :
    ∀ k, k ≤ n → ∀ (pc : Nat) (L : PL) (st : List PV) (h : HP) (H : Heap) (locs : List Loc) (ls : Array Slot), pm k j (pc, L, st, h) = some r → lv_has ls (qmL j) (q_tl ad L) → va_P D qCl (q_W ad cI cZ cQ h) H → va_S (q_A ad) s.heap H locs → W p l e R s m args below meth c H locs cells slots Q (F0 m pc ls (st.map (q_tr ad))) := by
  intro k
  induction k with
  | zero => intro _ pc L st h H locs ls hp; cases hp
  | succ k ih =>
    intro hk pc L st h H locs ls hp hl hP hS
    rw [pm] at hp
    cases h1 : p1 j (pc, L, st, h) with
    | none => rw [h1] at hp; cases hp
    | some z =>
      rw [h1] at hp
      rcases z with g | r' | ⟨j', as, t⟩
      · dsimp only at hp
        exact q_step1 h2 hj hE hSt hRf hRl hc0 hs0 h1 hl hP hS (fun ls' H' locs' hl' hP' hS' => ih (by omega) g.1 g.2.1 g.2.2.1 g.2.2.2 H' locs' ls' hp hl' hP' hS')
      · dsimp only at hp
        cases hp
        exact K pc L st h H locs ls h1 hl hP hS
      · dsimp only at hp
        cases hq : pm k j' (0, pl_in 0 as, [], h) with
        | none => rw [hq] at hp; cases hp
        | some y =>
          rw [hq] at hp
          obtain ⟨o, h'⟩ := y
          cases o with
          | inr x => cases hp
          | inl v =>
            dsimp only at hp
            exact q_call1 hj hE hSt hRf hRl hc0 hs0 h1 (fun a b d => IH k (by omega) j' as h v h' hq a b d) hl hP hS (fun H' locs' hP' hS' => ih (by omega) (pc + 3) L _ h' H' locs' ls hp hl hP' hS')
theorem q_end (hj : j < 137) (hE : q_Env p s m args meth c j) {v : Option Int32} {h' : HP} {pc : Nat} {L : PL} {st : List PV} {h : HP} {H : Heap} {locs : List Loc} {ls : Array Slot} (h1 : p1 j (pc, L, st, h) = some (.inr (.inl (.inl v, h')))) (hP : va_P D qCl (q_W ad cI cZ cQ h) H) (hS : va_S (q_A ad) s.heap H locs) :
    W p l e R s m args below meth c H locs cells slots (MQ below (q_Q D ad cI cZ cQ v h') args s cells slots (q_A ad)) (F0 m pc ls (st.map (q_tr ad))) := by
  obtain ⟨hx, hb, hml, hown, hts, hret, hlk⟩ := hE
  simp only [p1] at h1
  cases hq : pe_at (qCod j) pc with
  | none => rw [hq] at h1; cases h1
  | some w =>
    obtain ⟨i, n, ax⟩ := w
    rw [hq] at h1
    obtain ⟨hd, hok⟩ := q_row hj hq
    dsimp only at h1
    cases i with
    | ireturn =>
      simp only [q_okc, Bool.and_eq_true, beq_iff_eq] at hok
      obtain ⟨rfl, ht⟩ := hok
      rcases ax with _ | ⟨z, _ | ⟨a2, ax'⟩⟩ <;> first | (cases ht; done) | skip
      simp only [Bool.and_eq_true, Bool.or_eq_true, beq_iff_eq, decide_eq_true_eq] at ht
      rcases st with _ | ⟨x | o, _ | ⟨y, t⟩⟩ <;> first | (cases h1; done) | skip
      simp only [p1i] at h1
      split at h1
      · rename_i hz
        simp only [Option.some.injEq, Sum.inr.injEq, Sum.inl.injEq, Prod.mk.injEq] at h1
        obtain ⟨rfl, rfl⟩ := h1
        have hqc : ∀ t : State, t.heap = H → s.WarmedH t.vm → q_Q D ad cI cZ cQ (some x) h args s (.returned (some (.int x))) t := fun t ht _ => ⟨⟨x, (), rfl, rfl, by show va_P _ _ _ t.heap; rw [ht]; exact hP⟩, hS.F ht⟩
        rcases ht with ⟨rfl, e1⟩ | ⟨rfl, e1⟩
        · exact W.zret hx hb (hret.trans e1) rfl hqc hS.2.2 hd
        · exact W.zret hx hb (hret.trans e1) (q_nb (hz.resolve_left (by decide))).1 hqc hS.2.2 hd
      · cases h1
    | return_ =>
      simp only [q_okc, Bool.and_eq_true, beq_iff_eq, decide_eq_true_eq] at hok
      obtain ⟨rfl, e1⟩ := hok
      rcases st with _ | ⟨x, t⟩ <;> first | (cases h1; done) | skip
      simp only [p1i, Option.some.injEq, Sum.inr.injEq, Sum.inl.injEq, Prod.mk.injEq] at h1
      obtain ⟨rfl, rfl⟩ := h1
      exact W.vret hx hb (hret.trans e1) (fun t ht _ => ⟨⟨(), rfl, trivial, by show va_P _ _ _ t.heap; rw [ht]; exact hP⟩, hS.F ht⟩) hS.2.2 hd
    | _ => exfalso; revert h1; simp only [p1i, p_int, p_br]; (repeat' split) <;> (intro z; cases z)
end QSOUND
theorem q_sound (l : Launch) (D : va_G) (ad : Nat → Nat) (cI cZ cQ : ClassId) : ∀ (n j : Nat) (as : List PV) (h : HP) (v : Option Int32) (h' : HP), pm n j (0, pl_in 0 as, [], h) = some (.inl v, h') → 2 ≤ j → j < 137 → as.length = qmN j → q_Met l D ad cI cZ cQ j as h v h' := by
  intro n
  induction n using Nat.strongRecOn with
  | _ n IH =>
    intro j as h v h' hp h2 hj hlen
    obtain ⟨u1, u2, u3, u4, u5, u6⟩ := q_wp h2 hj
    refine Met.ofW (cc := qmB j) (maxL := qmL j) (ret := qmR j) u4 rfl ?_
    intro p e s m args below meth c s₁ B hml hv
    obtain ⟨rfl, hP, hSt⟩ := hv
    have hE : q_Env p s m (as.map (q_tr ad)).toArray meth c j := ⟨B.exec, B.bytes, hml, findClass_of_methodNamed B.named, fun w hw => atoms_spec (ws := q_ws j) B.pre w (List.mem_cons_of_mem _ hw), B.returns, B.notSynchronized⟩
    have hl := lv_entry (as.map (q_tr ad)) (n := qmL j) (by rw [q_sl]; omega)
    rw [lg_entry_eq]
    rw [q_args] at hl
    have key := q_walk (p := p) (l := l) (e := e) (R := (headSpec (q_ws j) (q_rm j)).room) (below := below) (cells := 0) (slots := 0) (Q := MQ below (q_Q D ad cI cZ cQ v h') (as.map (q_tr ad)).toArray s 0 0 (q_A ad)) h2 hj hE hSt (show qmF j ≤ qmF j from Nat.le_refl _) (show qmW j ≤ qmW j from Nat.le_refl _) (Nat.zero_le _) (Nat.zero_le _) (r := (.inl v, h')) (n := n) IH (fun pc L st h H locs ls h1 hl' hP' hS' => q_end hj hE h1 hP' hS') n (Nat.le_refl _)
    exact key 0 (pl_in 0 as) [] h s.heap [] _ hp hl hP va_S.rf
/-- **a call of method j comes to the end that the pure machine gives it** -/
theorem q_met {l : Launch} {D : va_G} {ad : Nat → Nat} {cI cZ cQ : ClassId} {j : Nat} {as : List PV} {h h' : HP} {v : Option Int32} (hq : Ec j as h (.inl v, h')) (h2 : 2 ≤ j) (hj : j < 137) (hlen : as.length = qmN j) : q_Met l D ad cI cZ cQ j as h v h' := by
  obtain ⟨n, hn⟩ := hq
  exact q_sound l D ad cI cZ cQ n j as h v h' hn h2 hj hlen
