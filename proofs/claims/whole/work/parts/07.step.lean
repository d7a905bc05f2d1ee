/-! ONE STEP of the pure machine within a method is a step of the machine. -/
def q_Tys (cI cZ cQ : ClassId) : List (ClassId × FieldType) := [(cI, .int), (cZ, .boolean), (cQ, .array .int)]
def q_Nest (U : State) : Prop := va_Nw (.methodLinkNest "CashRecycler$Magazine" 18 (qmY 29) "CashRecycler") U ∧ va_Nw (.fieldLinkNest "CashRecycler$Track" 26 "CashRecycler" "GOAL_SEGMENT" "[I" "CashRecycler") U
/-- what stays the same while the class and the reference run: the classes, the static array, the nest's links, that the world's cells are apart -/
def q_Sta (D : va_G) (ad : Nat → Nat) (cI cZ cQ : ClassId) (U : State) : Prop :=
  va_K D qCl (q_Tys cI cZ cQ) U ∧ va_Z "CashRecycler" "GOAL_SEGMENT" "[I" (.ref (ad qGS)) (q_A ad) U U.heap ∧ va_T .int (ad qGS) 9 (fun k => .int (qGf k)) (q_A ad) U U.heap ∧ q_Nest U ∧ ∀ i j, i < qNW → j < qNW → ad i = ad j → i = j
/-- what a method's own walk knows -/
def q_Env (p : Program) (s : State) (m : MethodId) (args : Array Value) (meth : Method) (c : Code) (j : Nat) : Prop :=
  p.tables.exec = Jvm.exec ∧ c.code = qmB j ∧ c.maxLocals = qmL j ∧ s.vm.findClass (q_own j) = some m.cls ∧ (∀ w ∈ q_WS, w.before args s = true) ∧ meth.sig.returnType = qmR j ∧ meth.locks = false
theorem q_class {c : Nat} (hc : c < 8) : qCl[c]? = some ((qC c).1, (qC c).2.1, (qC c).2.2) := by
  rcases (show c = 0 ∨ c = 1 ∨ c = 2 ∨ c = 3 ∨ c = 4 ∨ c = 5 ∨ c = 6 ∨ c = 7 by omega) with rfl | rfl | rfl | rfl | rfl | rfl | rfl | rfl <;> rfl
theorem q_lays {c : Nat} (hc : c < 8) : (∀ w ∈ u_ws (qC c).1 (qC c).2.1 (qC c).2.2, w ∈ q_WS) ∧ (∀ k, k < (qC c).2.2 → parseFieldDescriptor ((qC c).2.1 k).2.2.1 = some (qTy c k)) ∧ (∀ a, a < (qC c).2.2 → ∀ b, b < (qC c).2.2 → a ≠ b → ((qC c).2.1 a).2.1 ≠ ((qC c).2.1 b).2.1) := by
  have h := List.all_eq_true.mp qLy_ok c (List.mem_range.mpr hc)
  simp only [qLyOk, Bool.and_eq_true, List.all_eq_true, List.mem_range, decide_eq_true_eq, Bool.or_eq_true, beq_iff_eq] at h
  refine ⟨fun w hw => ?_, fun k hk => (h.1 k hk).2, fun a ha b hb hab => ?_⟩
  · obtain ⟨k, hk, rfl⟩ := List.mem_map.mp hw
    have hk := List.mem_range.mp hk
    refine q_inAt (h.1 k hk).1 ?_
    simp only [u_lay]
    split <;> rfl
  · rcases h.2 a ha b hb with e | e
    · exact absurd e hab
    · exact e
theorem q_field {c idx k : Nat} (h : qFtL.any (fun e => e.1 == c && e.2.1 == idx && e.2.2.1 == k) = true) : c < 8 ∧ k < (qC c).2.2 ∧ Cond.fieldLink (qC c).1 idx ((qC c).2.1 k).1 ((qC c).2.1 k).2.1 ((qC c).2.1 k).2.2.1 ∈ q_WS := by
  obtain ⟨e, he, hh⟩ := List.any_eq_true.mp h
  have h1 := List.all_eq_true.mp qFt_ok e he
  simp only [Bool.and_eq_true, beq_iff_eq] at hh
  obtain ⟨⟨rfl, rfl⟩, rfl⟩ := hh
  simp only [qFtOk, Bool.and_eq_true, decide_eq_true_eq] at h1
  exact ⟨h1.1.2, h1.1.1, q_inAt h1.2 rfl⟩
theorem q_qmC0 : (List.range 137).all (fun j => decide (8 ≤ qmC j) || decide ((qC (qmC j)).1 = q_own j)) = true := by decide +kernel
theorem q_qmC {j c : Nat} (hj : j < 137) (hc : qmC j = c) (h8 : c < 8) : (qC c).1 = q_own j := by
  have h := List.all_eq_true.mp q_qmC0 j (List.mem_range.mpr hj)
  simp only [Bool.or_eq_true, decide_eq_true_eq] at h
  subst hc
  exact h.resolve_left (by omega)
theorem q_only47 : (List.range 48).all (fun a => a == 47 || match qSh a with | some (.inr (3, _)) => false | _ => true) = true := by decide +kernel
theorem q_wGS : lw_tbl[600]? = some (.fieldLink "CashRecycler" 262 "CashRecycler" "GOAL_SEGMENT" "[I") := by decide +kernel
theorem q_tgs_at {pc : Nat} : ∀ {os : List Int} {gs : List Nat} {k g : Nat}, q_tgs pc os gs = true → gs[k]? = some g → ∃ o, os[k]? = some o ∧ (pc : Int) + o = (g : Int)
  | [], [], k, g, _, h => by cases k <;> cases h
  | o :: os, g0 :: gs, 0, g, h, hk => by
    simp only [q_tgs, q_tg, Bool.and_eq_true, decide_eq_true_eq] at h
    cases hk
    exact ⟨o, rfl, h.1⟩
  | o :: os, g0 :: gs, k + 1, g, h, hk => by
    simp only [q_tgs, Bool.and_eq_true] at h
    exact q_tgs_at (os := os) (gs := gs) h.2 hk
  | [], _ :: _, _, _, h, _ => by cases h
  | _ :: _, [], _, _, h, _ => by cases h
theorem q_lk_at {pc : Nat} {d : Int} {g : Nat} {x : Int} (hd : (pc : Int) + d = (g : Int)) : ∀ {ps : List (Int × Int)} {gs : List Nat}, q_tgs pc (ps.map (·.2)) gs = true → (pc : Int) + Op.lookupswitch.offset ps d x = (p_lk (ps.map (·.1)) gs g x : Int)
  | [], [], _ => by simpa [Op.lookupswitch.offset, p_lk] using hd
  | (a, o) :: ps, g0 :: gs, h => by
    simp only [List.map_cons, q_tgs, q_tg, Bool.and_eq_true, decide_eq_true_eq] at h
    simp only [Op.lookupswitch.offset, List.map_cons, p_lk]
    by_cases e : x = a
    · simp [e, h.1]
    · have e' : ¬ a = x := fun z => e z.symm
      simp only [if_neg e, if_neg e']
      exact q_lk_at hd h.2
  | [], _ :: _, h => by cases h
  | _ :: _, [], h => by cases h
theorem q_link {j idx j' how : Nat} (h : q_lnk j idx j' how = true) : (how = 2 ∧ q_own j = "CashRecycler$Magazine" ∧ idx = 18 ∧ j' = 29) ∨ (how ≠ 2 ∧ Cond.methodLink (q_own j) idx (qmY j') ∈ q_WS) := by
  obtain ⟨e, he, hh⟩ := List.any_eq_true.mp h
  have h1 := List.all_eq_true.mp qLk_ok e he
  simp only [Bool.and_eq_true, beq_iff_eq] at hh
  obtain ⟨⟨⟨e1, rfl⟩, rfl⟩, rfl⟩ := hh
  unfold qLkOk at h1
  split at h1
  · rename_i h2
    simp only [decide_eq_true_eq] at h1
    exact Or.inl ⟨h2, by rw [← e1]; exact h1.1, h1.2.1, h1.2.2⟩
  · rename_i h2
    simp only [decide_eq_true_eq] at h1
    exact Or.inr ⟨h2, by rw [← e1]; exact q_inAt h1 rfl⟩
theorem q_sum (ad : Nat → Nat) (t : List PV) : ((t.map (q_tr ad)).map fun v => v.category).sum = t.length := by
  induction t with
  | nil => rfl
  | cons v t ih => simp only [List.map_cons, List.sum_cons, ih, q_tr_cat, List.length_cons]; omega
theorem q_nb {x : Int32} (h : x = 0 ∨ x = 1) : narrow .boolean (.int x) = .int x ∧ fits .boolean (.int x) = true ∧ vp_nar .boolean x = x := by
  rcases h with rfl | rfl <;> decide +kernel
section QSTEP
variable {p : Program} {l : Launch} {e : Env} {R : Room} {s : State} {m : MethodId} {args : Array Value} {below : List Frame} {meth : Method} {c : Code} {H : Heap} {locs : List Loc} {cells slots : Nat} {Q : State → Prop}
variable {D : va_G} {ad : Nat → Nat} {cI cZ cQ : ClassId} {j : Nat} {ls : Array Slot}
set_option maxHeartbeats 4000000 in
set_option maxRecDepth 100000 in
theorem q_step1 (h2 : 2 ≤ j) (hj : j < 137) (hE : q_Env p s m args meth c j) (hSt : q_Sta D ad cI cZ cQ s) (hRf : qmF j ≤ R.frames) (hRl : qmW j ≤ R.locals) (hc0 : cells ≤ R.cells) (hs0 : slots ≤ R.slots)
    {pc : Nat} {L : PL} {st : List PV} {h : HP} {g : PG} (h1 : p1 j (pc, L, st, h) = some (.inl g)) (hl : lv_has ls (qmL j) (q_tl ad L)) (hP : va_P D qCl (q_W ad cI cZ cQ h) H) (hS : va_S (q_A ad) s.heap H locs)
    (kk : ∀ (ls' : Array Slot) (H' : Heap) (locs' : List Loc), lv_has ls' (qmL j) (q_tl ad g.2.1) → va_P D qCl (q_W ad cI cZ cQ g.2.2.2) H' → va_S (q_A ad) s.heap H' locs' → W p l e R s m args below meth c H' locs' cells slots Q (F0 m g.1 ls' (g.2.2.1.map (q_tr ad)))) :
    W p l e R s m args below meth c H locs cells slots Q (F0 m pc ls (st.map (q_tr ad))) := by
  obtain ⟨hx, hb, hml, hown, hts, hret, hlk⟩ := hE
  obtain ⟨hK, hZ, hT, hN, hap⟩ := hSt
  have hD : va_D (q_A ad) (q_W ad cI cZ cQ h) := q_D hap
  simp only [p1] at h1
  cases hq : pe_at (qCod j) pc with
  | none => rw [hq] at h1; cases h1
  | some w =>
    obtain ⟨i, n, ax⟩ := w
    rw [hq] at h1
    obtain ⟨hd, hok⟩ := q_row hj hq
    dsimp only at h1
    cases i with
    | iconst v =>
      simp only [q_okc, beq_iff_eq] at hok; subst hok
      simp only [p1i, p_int, Option.some.injEq, Sum.inl.injEq] at h1; subst h1
      exact lv_iconst hx hb hd rfl (kk ls H locs hl hP hS)
    | bipush v =>
      simp only [q_okc, beq_iff_eq] at hok; subst hok
      simp only [p1i, p_int, Option.some.injEq, Sum.inl.injEq] at h1; subst h1
      exact lv_bipush hx hb hd rfl (kk ls H locs hl hP hS)
    | sipush v =>
      simp only [q_okc, beq_iff_eq] at hok; subst hok
      simp only [p1i, p_int, Option.some.injEq, Sum.inl.injEq] at h1; subst h1
      exact lv_sipush hx hb hd rfl (kk ls H locs hl hP hS)
    | iload_n k =>
      simp only [q_okc, beq_iff_eq] at hok; subst hok
      simp only [p1i] at h1
      cases hv : pl_at L k.val with
      | none => rw [hv] at h1; cases h1
      | some v =>
        rw [hv] at h1
        cases v with
        | inr o => cases h1
        | inl x =>
          simp only [p_int, Option.some.injEq, Sum.inl.injEq] at h1; subst h1
          exact lv_iload_n hx hb hd rfl (q_loc hl hv) (kk ls H locs hl hP hS)
    | iload k =>
      simp only [q_okc, beq_iff_eq] at hok; subst hok
      simp only [p1i] at h1
      cases hv : pl_at L k with
      | none => rw [hv] at h1; cases h1
      | some v =>
        rw [hv] at h1
        cases v with
        | inr o => cases h1
        | inl x =>
          simp only [p_int, Option.some.injEq, Sum.inl.injEq] at h1; subst h1
          exact lv_iload hx hb hd (q_loc hl hv) (kk ls H locs hl hP hS)
    | aload_n k =>
      simp only [q_okc, beq_iff_eq] at hok; subst hok
      simp only [p1i] at h1
      cases hv : pl_at L k.val with
      | none => rw [hv] at h1; cases h1
      | some v =>
        rw [hv] at h1
        cases v with
        | inl o => cases h1
        | inr x =>
          simp only [Option.some.injEq, Sum.inl.injEq] at h1; subst h1
          exact lv_aload_n hx hb hd rfl (q_loc hl hv) (kk ls H locs hl hP hS)
    | istore_n k =>
      simp only [q_okc, beq_iff_eq] at hok; subst hok
      simp only [p1i] at h1
      rcases st with _ | ⟨x | o, t⟩
      · cases h1
      · dsimp only at h1
        split at h1
        · rename_i hk
          simp only [Option.some.injEq, Sum.inl.injEq] at h1; subst h1
          exact lv_istore_n hx hb hd rfl hl hk (q_tl_put (v := .inl x)) (fun ls' hl' => kk ls' H locs hl' hP hS)
        · cases h1
      · cases h1
    | istore k =>
      simp only [q_okc, beq_iff_eq] at hok; subst hok
      simp only [p1i] at h1
      rcases st with _ | ⟨x | o, t⟩
      · cases h1
      · dsimp only at h1
        split at h1
        · rename_i hk
          simp only [Option.some.injEq, Sum.inl.injEq] at h1; subst h1
          exact lv_istore hx hb hd hl hk (q_tl_put (v := .inl x)) (fun ls' hl' => kk ls' H locs hl' hP hS)
        · cases h1
      · cases h1
    | iinc k v =>
      simp only [q_okc, beq_iff_eq] at hok; subst hok
      simp only [p1i] at h1
      cases hv : pl_at L k with
      | none => rw [hv] at h1; cases h1
      | some v =>
        rw [hv] at h1
        cases v with
        | inr o => cases h1
        | inl x =>
          dsimp only at h1
          split at h1
          · rename_i hk
            simp only [Option.some.injEq, Sum.inl.injEq] at h1; subst h1
            obtain ⟨k0, hk0⟩ := List.getElem?_of_mem (List.mem_map.mpr ⟨(k, Sum.inl x), pl_at_mem hv, rfl⟩ : (k, q_tr ad (.inl x)) ∈ q_tl ad L)
            exact lv_iinc hx hb hd hl hk0 rfl hk (q_tl_put (v := .inl _)) (fun ls' hl' => kk ls' H locs hl' hP hS)
          · cases h1
    | dup =>
      simp only [q_okc, beq_iff_eq] at hok; subst hok
      simp only [p1i] at h1
      rcases st with _ | ⟨v, t⟩
      · cases h1
      · simp only [Option.some.injEq, Sum.inl.injEq] at h1; subst h1
        exact lv_dup hx hb hd (q_tr_cat ad v) (kk ls H locs hl hP hS)
    | dup2 =>
      simp only [q_okc, beq_iff_eq] at hok; subst hok
      simp only [p1i] at h1
      rcases st with _ | ⟨v, _ | ⟨u, t⟩⟩
      · cases h1
      · cases h1
      · simp only [Option.some.injEq, Sum.inl.injEq] at h1; subst h1
        exact lv_dup2_11 hx hb hd (q_tr_cat ad v) (q_tr_cat ad u) (kk ls H locs hl hP hS)
    | iadd =>
      simp only [q_okc, beq_iff_eq] at hok; subst hok
      simp only [p1i] at h1
      rcases st with _ | ⟨y | o, _ | ⟨x | o, t⟩⟩ <;> first | (cases h1; done) | skip
      simp only [p_int, Option.some.injEq, Sum.inl.injEq] at h1; subst h1
      exact lv_iadd hx hb hd (kk ls H locs hl hP hS)
    | isub =>
      simp only [q_okc, beq_iff_eq] at hok; subst hok
      simp only [p1i] at h1
      rcases st with _ | ⟨y | o, _ | ⟨x | o, t⟩⟩ <;> first | (cases h1; done) | skip
      simp only [p_int, Option.some.injEq, Sum.inl.injEq] at h1; subst h1
      exact lv_isub hx hb hd (kk ls H locs hl hP hS)
    | imul =>
      simp only [q_okc, beq_iff_eq] at hok; subst hok
      simp only [p1i] at h1
      rcases st with _ | ⟨y | o, _ | ⟨x | o, t⟩⟩ <;> first | (cases h1; done) | skip
      simp only [p_int, Option.some.injEq, Sum.inl.injEq] at h1; subst h1
      exact lv_imul hx hb hd (kk ls H locs hl hP hS)
    | idiv =>
      simp only [q_okc, beq_iff_eq] at hok; subst hok
      simp only [p1i] at h1
      rcases st with _ | ⟨y | o, _ | ⟨x | o, t⟩⟩ <;> first | (cases h1; done) | skip
      dsimp only at h1
      split at h1
      · cases h1
      · rename_i hy
        simp only [p_int, Option.some.injEq, Sum.inl.injEq] at h1; subst h1
        exact lv_idiv hx hb hd hy (kk ls H locs hl hP hS)
    | irem =>
      simp only [q_okc, beq_iff_eq] at hok; subst hok
      simp only [p1i] at h1
      rcases st with _ | ⟨y | o, _ | ⟨x | o, t⟩⟩ <;> first | (cases h1; done) | skip
      dsimp only at h1
      split at h1
      · cases h1
      · rename_i hy
        simp only [p_int, Option.some.injEq, Sum.inl.injEq] at h1; subst h1
        exact lv_irem hx hb hd hy (kk ls H locs hl hP hS)
    | ineg =>
      simp only [q_okc, beq_iff_eq] at hok; subst hok
      simp only [p1i] at h1
      rcases st with _ | ⟨x | o, t⟩ <;> first | (cases h1; done) | skip
      simp only [p_int, Option.some.injEq, Sum.inl.injEq] at h1; subst h1
      exact lv_ineg hx hb hd (kk ls H locs hl hP hS)
    | ifCond cn off =>
      simp only [q_okc, Bool.and_eq_true, beq_iff_eq] at hok
      obtain ⟨rfl, ht⟩ := hok
      rcases ax with _ | ⟨g', _ | ⟨a2, ax'⟩⟩ <;> first | (cases ht; done) | skip
      simp only [q_tg, decide_eq_true_eq] at ht
      rcases st with _ | ⟨x | o, t⟩ <;> first | (cases h1; done) | skip
      simp only [p1i] at h1
      cases cn with
      | eq =>
        simp only [p_br] at h1
        refine lv_if_eq hx hb hd ht (fun hc => ?_) (fun hc => ?_)
        · rw [if_pos hc] at h1; simp only [Option.some.injEq, Sum.inl.injEq] at h1; subst h1; exact kk ls H locs hl hP hS
        · rw [if_neg hc] at h1; simp only [Option.some.injEq, Sum.inl.injEq] at h1; subst h1; exact kk ls H locs hl hP hS
      | ne =>
        simp only [p_br] at h1
        refine lv_if_ne hx hb hd ht (fun hc => ?_) (fun hc => ?_)
        · rw [if_neg hc] at h1; simp only [Option.some.injEq, Sum.inl.injEq] at h1; subst h1; exact kk ls H locs hl hP hS
        · rw [if_pos hc] at h1; simp only [Option.some.injEq, Sum.inl.injEq] at h1; subst h1; exact kk ls H locs hl hP hS
      | lt =>
        simp only [p_br] at h1
        refine lv_if_lt hx hb hd ht (fun hc => ?_) (fun hc => ?_)
        · rw [if_pos hc] at h1; simp only [Option.some.injEq, Sum.inl.injEq] at h1; subst h1; exact kk ls H locs hl hP hS
        · rw [if_neg hc] at h1; simp only [Option.some.injEq, Sum.inl.injEq] at h1; subst h1; exact kk ls H locs hl hP hS
      | ge =>
        simp only [p_br] at h1
        refine lv_if_ge hx hb hd ht (fun hc => ?_) (fun hc => ?_)
        · rw [if_pos hc] at h1; simp only [Option.some.injEq, Sum.inl.injEq] at h1; subst h1; exact kk ls H locs hl hP hS
        · rw [if_neg hc] at h1; simp only [Option.some.injEq, Sum.inl.injEq] at h1; subst h1; exact kk ls H locs hl hP hS
      | gt =>
        simp only [p_br] at h1
        refine lv_if_gt hx hb hd ht (fun hc => ?_) (fun hc => ?_)
        · rw [if_pos hc] at h1; simp only [Option.some.injEq, Sum.inl.injEq] at h1; subst h1; exact kk ls H locs hl hP hS
        · rw [if_neg hc] at h1; simp only [Option.some.injEq, Sum.inl.injEq] at h1; subst h1; exact kk ls H locs hl hP hS
      | le =>
        simp only [p_br] at h1
        refine lv_if_le hx hb hd ht (fun hc => ?_) (fun hc => ?_)
        · rw [if_pos hc] at h1; simp only [Option.some.injEq, Sum.inl.injEq] at h1; subst h1; exact kk ls H locs hl hP hS
        · rw [if_neg hc] at h1; simp only [Option.some.injEq, Sum.inl.injEq] at h1; subst h1; exact kk ls H locs hl hP hS
    | if_icmp cn off =>
      simp only [q_okc, Bool.and_eq_true, beq_iff_eq] at hok
      obtain ⟨rfl, ht⟩ := hok
      rcases ax with _ | ⟨g', _ | ⟨a2, ax'⟩⟩ <;> first | (cases ht; done) | skip
      simp only [q_tg, decide_eq_true_eq] at ht
      rcases st with _ | ⟨y | o, _ | ⟨x | o, t⟩⟩ <;> first | (cases h1; done) | skip
      simp only [p1i] at h1
      cases cn with
      | eq =>
        simp only [p_br] at h1
        refine lv_icmp_eq hx hb hd ht (fun hc => ?_) (fun hc => ?_)
        · rw [if_pos hc] at h1; simp only [Option.some.injEq, Sum.inl.injEq] at h1; subst h1; exact kk ls H locs hl hP hS
        · rw [if_neg hc] at h1; simp only [Option.some.injEq, Sum.inl.injEq] at h1; subst h1; exact kk ls H locs hl hP hS
      | ne =>
        simp only [p_br] at h1
        refine lv_icmp_ne hx hb hd ht (fun hc => ?_) (fun hc => ?_)
        · rw [if_neg hc] at h1; simp only [Option.some.injEq, Sum.inl.injEq] at h1; subst h1; exact kk ls H locs hl hP hS
        · rw [if_pos hc] at h1; simp only [Option.some.injEq, Sum.inl.injEq] at h1; subst h1; exact kk ls H locs hl hP hS
      | lt =>
        simp only [p_br] at h1
        refine lv_icmp_lt hx hb hd ht (fun hc => ?_) (fun hc => ?_)
        · rw [if_pos hc] at h1; simp only [Option.some.injEq, Sum.inl.injEq] at h1; subst h1; exact kk ls H locs hl hP hS
        · rw [if_neg hc] at h1; simp only [Option.some.injEq, Sum.inl.injEq] at h1; subst h1; exact kk ls H locs hl hP hS
      | ge =>
        simp only [p_br] at h1
        refine lv_icmp_ge hx hb hd ht (fun hc => ?_) (fun hc => ?_)
        · rw [if_pos hc] at h1; simp only [Option.some.injEq, Sum.inl.injEq] at h1; subst h1; exact kk ls H locs hl hP hS
        · rw [if_neg hc] at h1; simp only [Option.some.injEq, Sum.inl.injEq] at h1; subst h1; exact kk ls H locs hl hP hS
      | gt =>
        simp only [p_br] at h1
        refine lv_icmp_gt hx hb hd ht (fun hc => ?_) (fun hc => ?_)
        · rw [if_pos hc] at h1; simp only [Option.some.injEq, Sum.inl.injEq] at h1; subst h1; exact kk ls H locs hl hP hS
        · rw [if_neg hc] at h1; simp only [Option.some.injEq, Sum.inl.injEq] at h1; subst h1; exact kk ls H locs hl hP hS
      | le =>
        simp only [p_br] at h1
        refine lv_icmp_le hx hb hd ht (fun hc => ?_) (fun hc => ?_)
        · rw [if_pos hc] at h1; simp only [Option.some.injEq, Sum.inl.injEq] at h1; subst h1; exact kk ls H locs hl hP hS
        · rw [if_neg hc] at h1; simp only [Option.some.injEq, Sum.inl.injEq] at h1; subst h1; exact kk ls H locs hl hP hS
    | goto off =>
      simp only [q_okc, Bool.and_eq_true, beq_iff_eq] at hok
      obtain ⟨rfl, ht⟩ := hok
      rcases ax with _ | ⟨g', _ | ⟨a2, ax'⟩⟩ <;> first | (cases ht; done) | skip
      simp only [q_tg, decide_eq_true_eq] at ht
      simp only [p1i, Option.some.injEq, Sum.inl.injEq] at h1; subst h1
      exact lv_goto hx hb hd ht (kk ls H locs hl hP hS)
    | tableswitch d lo hi offs =>
      simp only [q_okc, Bool.and_eq_true] at hok
      obtain ⟨-, ht⟩ := hok
      rcases ax with _ | ⟨g', gs⟩
      · cases ht
      simp only [q_tg, Bool.and_eq_true, decide_eq_true_eq] at ht
      rcases st with _ | ⟨x | o, t⟩ <;> first | (cases h1; done) | skip
      simp only [p1i] at h1
      split at h1
      · rename_i hc
        simp only [Option.some.injEq, Sum.inl.injEq] at h1; subst h1
        exact lv_tableOut hx hb hd hc ht.1 (kk ls H locs hl hP hS)
      · rename_i hc
        split at h1
        · rename_i g2 hg2
          simp only [Option.some.injEq, Sum.inl.injEq] at h1; subst h1
          obtain ⟨off, ho, ht2⟩ := q_tgs_at ht.2 hg2
          exact lv_tableIn hx hb hd (fun z => hc (Or.inl z)) (fun z => hc (Or.inr z)) (by rw [← Array.getElem?_toList]; exact ho) ht2 (kk ls H locs hl hP hS)
        · cases h1
    | lookupswitch d ps =>
      simp only [q_okc, Bool.and_eq_true] at hok
      obtain ⟨hs, ht⟩ := hok
      rcases ax with _ | ⟨g', gs⟩
      · cases ht
      simp only [q_tg, Bool.and_eq_true, decide_eq_true_eq] at ht
      rcases st with _ | ⟨x | o, t⟩ <;> first | (cases h1; done) | skip
      simp only [p1i, Option.some.injEq, Sum.inl.injEq] at h1; subst h1
      exact lv_lookup hx hb hd hs rfl (q_lk_at ht.1 ht.2) (kk ls H locs hl hP hS)
    | getfield idx =>
      simp only [q_okc, Bool.and_eq_true, beq_iff_eq] at hok
      obtain ⟨rfl, ht⟩ := hok
      rcases ax with _ | ⟨ci, _ | ⟨k, _ | ⟨a3, ax'⟩⟩⟩ <;> first | (cases ht; done) | skip
      simp only [Bool.and_eq_true, beq_iff_eq] at ht
      obtain ⟨h8, hk, hw⟩ := q_field ht.1
      have ho := q_qmC hj ht.2 h8
      rcases st with _ | ⟨x | o, t⟩ <;> first | (cases h1; done) | skip
      simp only [p1i] at h1
      split at h1
      · rename_i c' hsh
        split at h1
        · rename_i e; subst e
          have hoW : o < qNW := q_sh_W hsh (fun n z => by cases z)
          have he : (q_W ad cI cZ cQ h)[o]? = some (ad o, .inr (c', q_fs ad h o c')) := by rw [q_W_at hoW]; simp only [q_cell, hsh]
          have hv : (q_fs ad h o c')[k]? = some (q_fv ad h o k) := by simp [q_fs, hk]
          have hlink : (Cond.fieldLink (q_own j) idx ((qC c').2.1 k).1 ((qC c').2.1 k).2.1 ((qC c').2.1 k).2.2.1).before args s = true := by rw [← ho]; exact hts _ hw
          refine va_get (D := D) hx hb hts (q_lays h8).1 hown hK hP o he (q_class h8) k hk hlink (fun _ z => z) hv hd ?_
          split at h1
          · rename_i r hr
            simp only [Option.some.injEq, Sum.inl.injEq] at h1; subst h1
            have ev : q_fv ad h o k = q_tr ad (.inr r) := by simp only [q_fv, hr, q_tr]
            rw [ev]
            exact kk ls H locs hl hP hS
          · rename_i hr
            simp only [p_int, Option.some.injEq, Sum.inl.injEq] at h1; subst h1
            have ev : q_fv ad h o k = q_tr ad (.inl (h o k)) := by simp only [q_fv, hr, q_tr]
            rw [ev]
            exact kk ls H locs hl hP hS
        · cases h1
      · cases h1
    | putfield idx =>
      simp only [q_okc, Bool.and_eq_true, beq_iff_eq] at hok
      obtain ⟨rfl, ht⟩ := hok
      rcases ax with _ | ⟨ci, _ | ⟨k, _ | ⟨z, _ | ⟨a4, ax'⟩⟩⟩⟩ <;> first | (cases ht; done) | skip
      simp only [Bool.and_eq_true, beq_iff_eq, Bool.or_eq_true, decide_eq_true_eq, Bool.not_eq_true'] at ht
      obtain ⟨⟨⟨hf, hcj⟩, hz⟩, hfin⟩ := ht
      obtain ⟨h8, hk, hw⟩ := q_field hf
      have ho := q_qmC hj hcj h8
      rcases st with _ | ⟨v | o', _ | ⟨x | o, t⟩⟩ <;> first | (cases h1; done) | skip
      simp only [p1i] at h1
      split at h1
      · rename_i c' hsh
        split at h1
        · rename_i hcnd
          obtain ⟨rfl, hr, hv⟩ := hcnd
          simp only [Option.some.injEq, Sum.inl.injEq] at h1; subst h1
          have hoW : o < qNW := q_sh_W hsh (fun n z => by cases z)
          have he : (q_W ad cI cZ cQ h)[o]? = some (ad o, .inr (c', q_fs ad h o c')) := by rw [q_W_at hoW]; simp only [q_cell, hsh]
          have hlink : (Cond.fieldLink (q_own j) idx ((qC c').2.1 k).1 ((qC c').2.1 k).2.1 ((qC c').2.1 k).2.2.1).before args s = true := by rw [← ho]; exact hts _ hw
          have hty : narrow (qTy c' k) (.int v) = .int v ∧ fits (qTy c' k) (.int v) = true := by
            rcases hz with ⟨rfl, e⟩ | ⟨rfl, e⟩
            · rw [e]; exact ⟨rfl, rfl⟩
            · rw [e]; exact ⟨(q_nb (hv.resolve_left (by decide))).1, (q_nb (hv.resolve_left (by decide))).2.1⟩
          have e1 : (q_W ad cI cZ cQ h).set o (ad o, .inr (c', (q_fs ad h o c').set k (.int v))) = q_W ad cI cZ cQ (hu h o k v) := by
            have e2 := q_W_set (ad := ad) (cI := cI) (cZ := cZ) (cQ := cQ) (h := h) (o := o) (k := k) (x := v)
            simp only [q_cell, hsh] at e2
            rw [q_fs_put hk hr]
            exact e2
          refine va_put (D := D) hx hb hts (q_lays h8).1 (qTy c') (q_lays h8).2.1 (q_lays h8).2.2 hown hK hP hD hS o he (q_class h8) k hk hlink (fun _ z => z) hfin ((q_lays h8).2.1 k hk) hty.1 hty.2 (by simp [q_fs, hk]) hd (fun H1 locs1 hP1 hD1 hS1 => ?_)
          have hP1 : va_P D qCl ((q_W ad cI cZ cQ h).set o (ad o, .inr (c', (q_fs ad h o c').set k (.int v)))) H1 := hP1
          rw [e1] at hP1
          exact kk ls H1 locs1 hl hP1 hS1
        · cases h1
      · cases h1
    | getstatic idx =>
      simp only [q_okc, Bool.and_eq_true, beq_iff_eq] at hok
      obtain ⟨rfl, ht⟩ := hok
      rcases ax with _ | ⟨g', _ | ⟨a2, ax'⟩⟩ <;> first | (cases ht; done) | skip
      simp only [Bool.and_eq_true, beq_iff_eq, Bool.or_eq_true] at ht
      obtain ⟨rfl, ht⟩ := ht
      simp only [p1i, Option.some.injEq, Sum.inl.injEq] at h1; subst h1
      rcases ht with ⟨e1, rfl⟩ | ⟨e1, rfl⟩
      · rw [e1] at hown
        exact va_gets hx hb hZ hS hown (hts _ (q_inAt q_wGS rfl)) (fun _ z => z) hd (kk ls H locs hl hP hS)
      · rw [e1] at hown
        exact va_getsN hx hb hZ hS hown (va_Nw.use rfl hN.2) (fun _ z => z) hd (kk ls H locs hl hP hS)
    | iaload =>
      simp only [q_okc, beq_iff_eq] at hok; subst hok
      simp only [p1i] at h1
      rcases st with _ | ⟨i | o, _ | ⟨x | a, t⟩⟩ <;> first | (cases h1; done) | skip
      dsimp only at h1
      split at h1
      · rename_i n hsh
        split at h1
        · cases h1
        · rename_i hin
          simp only [p_int, Option.some.injEq, Sum.inl.injEq] at h1; subst h1
          have hoW : a < qNW := q_sh_W hsh (fun n z => by cases z)
          have he : (q_W ad cI cZ cQ h)[a]? = some (ad a, .inl (cI, n, .inl (h a))) := by rw [q_W_at hoW]; simp only [q_cell, hsh]
          exact va_iald hx hb hK hP a 0 he rfl hin hd (kk ls H locs hl hP hS)
      · rename_i n hsh
        split at h1
        · cases h1
        · rename_i hin
          simp only [p_int, Option.some.injEq, Sum.inl.injEq] at h1; subst h1
          have ha := q_sh_lt hsh
          have h47 : a = qGS := by
            have hh := List.all_eq_true.mp q_only47 a (List.mem_range.mpr ha)
            simp only [hsh, Bool.or_false, beq_iff_eq] at hh
            exact hh
          subst h47
          have hn9 : n = 9 := by cases hsh; rfl
          subst hn9
          exact va_ti hx hb hT hS hin rfl hd (kk ls H locs hl hP hS)
      · cases h1
    | baload =>
      simp only [q_okc, beq_iff_eq] at hok; subst hok
      simp only [p1i] at h1
      rcases st with _ | ⟨i | o, _ | ⟨x | a, t⟩⟩ <;> first | (cases h1; done) | skip
      dsimp only at h1
      split at h1
      · rename_i n hsh
        split at h1
        · cases h1
        · rename_i hin
          simp only [p_int, Option.some.injEq, Sum.inl.injEq] at h1; subst h1
          have hoW : a < qNW := q_sh_W hsh (fun n z => by cases z)
          have he : (q_W ad cI cZ cQ h)[a]? = some (ad a, .inl (cZ, n, .inl (h a))) := by rw [q_W_at hoW]; simp only [q_cell, hsh]
          exact va_zald hx hb hK hP a 1 he rfl hin hd (kk ls H locs hl hP hS)
      · cases h1
    | aaload =>
      simp only [q_okc, beq_iff_eq] at hok; subst hok
      simp only [p1i] at h1
      rcases st with _ | ⟨i | o, _ | ⟨x | a, t⟩⟩ <;> first | (cases h1; done) | skip
      dsimp only at h1
      split at h1
      · rename_i n hsh
        split at h1
        · cases h1
        · rename_i hin
          split at h1
          · rename_i r hr
            simp only [Option.some.injEq, Sum.inl.injEq] at h1; subst h1
            have hoW : a < qNW := q_sh_W hsh (fun n z => by cases z)
            have he : (q_W ad cI cZ cQ h)[a]? = some (ad a, .inl (cQ, n, .inr (.inr (.inr (.inr (fun k => (qRf a k).map ad)))))) := by rw [q_W_at hoW]; simp only [q_cell, hsh]
            have hlt : i.toNatClampNeg < n := Nat.not_le.mp fun q => hin (Or.inr q)
            refine W.aald (v := q_tr ad (.inr r)) (ty := .array .int) hx hb (hP a _ he) ((hK.2 2 _ rfl).1 n (fun j => va_rf ((qRf a j).map ad))) rfl (fun q => by cases q) (by show ¬ (i < 0 ∨ (arrV _ _ _).slots.size ≤ _); rw [arrV_size]; exact hin) (by show (arrV _ _ _).slots[_]? = _; rw [arrV_read _ _ hlt]; show some (va_rf ((qRf a i.toNatClampNeg).map ad)) = _; rw [hr]; rfl) rfl rfl hd ?_
            exact kk ls H locs hl hP hS
          · cases h1
      · cases h1
    | iastore =>
      simp only [q_okc, beq_iff_eq] at hok; subst hok
      simp only [p1i] at h1
      rcases st with _ | ⟨x | o, _ | ⟨i | o, _ | ⟨y | a, t⟩⟩⟩ <;> first | (cases h1; done) | skip
      dsimp only at h1
      split at h1
      · rename_i n hsh
        split at h1
        · cases h1
        · rename_i hin
          simp only [Option.some.injEq, Sum.inl.injEq] at h1; subst h1
          have hoW : a < qNW := q_sh_W hsh (fun n z => by cases z)
          have he : (q_W ad cI cZ cQ h)[a]? = some (ad a, .inl (cI, n, .inl (h a))) := by rw [q_W_at hoW]; simp only [q_cell, hsh]
          have e1 : (q_W ad cI cZ cQ h).set a (ad a, .inl (cI, n, .inl (upd (h a) i.toNatClampNeg x))) = q_W ad cI cZ cQ (hu h a i.toNatClampNeg x) := by
            have e2 := q_W_set (ad := ad) (cI := cI) (cZ := cZ) (cQ := cQ) (h := h) (o := a) (k := i.toNatClampNeg) (x := x)
            simp only [q_cell, hsh] at e2
            rw [q_upd]
            exact e2
          refine va_iast hx hb hK hP hD hS a 0 he rfl hin hd (fun H1 locs1 hP1 hD1 hS1 => ?_)
          rw [e1] at hP1
          exact kk ls H1 locs1 hl hP1 hS1
      · cases h1
    | bastore =>
      simp only [q_okc, beq_iff_eq] at hok; subst hok
      simp only [p1i] at h1
      rcases st with _ | ⟨x | o, _ | ⟨i | o, _ | ⟨y | a, t⟩⟩⟩ <;> first | (cases h1; done) | skip
      dsimp only at h1
      split at h1
      · rename_i n hsh
        split at h1
        · cases h1
        · rename_i hin
          split at h1
          · rename_i hx01
            simp only [Option.some.injEq, Sum.inl.injEq] at h1; subst h1
            have hoW : a < qNW := q_sh_W hsh (fun n z => by cases z)
            have he : (q_W ad cI cZ cQ h)[a]? = some (ad a, .inl (cZ, n, .inl (h a))) := by rw [q_W_at hoW]; simp only [q_cell, hsh]
            have e1 : (q_W ad cI cZ cQ h).set a (ad a, .inl (cZ, n, .inl (upd (h a) i.toNatClampNeg (vp_nar .boolean x)))) = q_W ad cI cZ cQ (hu h a i.toNatClampNeg x) := by
              have e2 := q_W_set (ad := ad) (cI := cI) (cZ := cZ) (cQ := cQ) (h := h) (o := a) (k := i.toNatClampNeg) (x := x)
              simp only [q_cell, hsh] at e2
              rw [(q_nb hx01).2.2, q_upd]
              exact e2
            refine va_zast hx hb hK hP hD hS a 1 he rfl hin hd (fun H1 locs1 hP1 hD1 hS1 => ?_)
            rw [e1] at hP1
            exact kk ls H1 locs1 hl hP1 hS1
          · cases h1
      · cases h1
    | invokestatic idx =>
      simp only [q_okc, Bool.and_eq_true, beq_iff_eq] at hok
      obtain ⟨rfl, ht⟩ := hok
      rcases ax with _ | ⟨j', _ | ⟨na, _ | ⟨a3, ax'⟩⟩⟩ <;> first | (cases ht; done) | skip
      simp only [Bool.and_eq_true, Bool.or_eq_true, q_cal, decide_eq_true_eq, beq_iff_eq] at ht
      obtain ⟨⟨hlnk, ⟨⟨hna, hj'⟩, hF⟩, hW⟩, hst⟩ := ht
      rcases j' with _ | _ | j'
      · have hw : Cond.methodLink (q_own j) idx (qmY 0) ∈ q_WS := by
          rcases hlnk with z | z <;> rcases q_link z with ⟨-, -, -, q⟩ | ⟨-, q⟩ <;> first | exact q | cases q
        rw [q_yMath.1] at hw
        have hW' : 20 ≤ qmW j := hW
        have hF' : 1 ≤ qmF j := hF
        rcases st with _ | ⟨x | o, t⟩ <;> first | (cases h1; done) | skip
        simp only [p1i] at h1
        split at h1
        · rename_i hlen
          simp only [p_int, Option.some.injEq, Sum.inl.injEq] at h1; subst h1
          exact va_mabs hx hb (hml.trans hl.1.symm) hown (hts _ hw) (hts _ (q_inAt q_wAbs.2 rfl)) (hts _ (q_inAt q_wMath rfl)) (hts _ (q_inAt q_wAbs.1 rfl)) (by omega) (by rw [q_sum]; omega) hc0 hs0 hd (kk ls H locs hl hP hS)
        · cases h1
      · have hw : Cond.methodLink (q_own j) idx (qmY 1) ∈ q_WS := by
          rcases hlnk with z | z <;> rcases q_link z with ⟨-, -, -, q⟩ | ⟨-, q⟩ <;> first | exact q | cases q
        rw [q_yMath.2] at hw
        have hW' : 21 ≤ qmW j := hW
        have hF' : 1 ≤ qmF j := hF
        rcases st with _ | ⟨y | o, _ | ⟨x | o, t⟩⟩ <;> first | (cases h1; done) | skip
        simp only [p1i] at h1
        split at h1
        · rename_i hlen
          simp only [p_int, Option.some.injEq, Sum.inl.injEq] at h1; subst h1
          exact va_mmin hx hb (hml.trans hl.1.symm) hown (hts _ hw) (hts _ (q_inAt q_wMin.2 rfl)) (hts _ (q_inAt q_wMath rfl)) (hts _ (q_inAt q_wMin.1 rfl)) (by omega) (by rw [q_sum]; omega) hc0 hs0 hd (kk ls H locs hl hP hS)
        · cases h1
      · simp only [p1i] at h1
        split at h1 <;> cases h1
    | invokevirtual idx =>
      simp only [p1i] at h1
      split at h1
      · split at h1 <;> cases h1
      · cases h1
    | ireturn =>
      simp only [p1i] at h1
      split at h1
      · split at h1 <;> cases h1
      · cases h1
    | return_ =>
      simp only [p1i] at h1
      split at h1 <;> cases h1
    | new idx =>
      simp only [p1i] at h1
      split at h1 <;> cases h1
    | _ => cases h1
end QSTEP
