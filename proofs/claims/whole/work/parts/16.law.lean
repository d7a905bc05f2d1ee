/-! THE LAW'S OWN WORLD: the class, the reference, and the array 'out'. -/
def q_O (aO : Nat) (cL : ClassId) (o : Int64) : va_W := [(aO, .inl (cL, 1, .inr (.inl (fun _ => o))))]
def q_J (ad : Nat → Nat) (cI cZ cQ : ClassId) (aO : Nat) (cL : ClassId) (h : HP) (o : Int64) : va_W := q_W ad cI cZ cQ h ++ q_O aO cL o
def q_AL (ad : Nat → Nat) (aO : Nat) : Nat → Prop := fun q => q_A ad q ∨ q = aO
theorem q_Wlen {ad : Nat → Nat} {cI cZ cQ : ClassId} {h : HP} : (q_W ad cI cZ cQ h).length = 47 := by simp [q_W, qNW]
section QJ
variable {D : va_G} {ad : Nat → Nat} {cI cZ cQ cL : ClassId} {aO : Nat} {h : HP} {o x : Int64} {H : Heap}
theorem q_J_47 : (q_J ad cI cZ cQ aO cL h o)[47]? = some (aO, .inl (cL, 1, .inr (.inl (fun _ => o)))) := by
  unfold q_J
  rw [List.getElem?_append_right (Nat.le_of_eq q_Wlen), q_Wlen]
  rfl
theorem q_J_lo {i : Nat} (hi : i < 47) : (q_J ad cI cZ cQ aO cL h o)[i]? = (q_W ad cI cZ cQ h)[i]? := by
  unfold q_J
  rw [List.getElem?_append_left (by rw [q_Wlen]; exact hi)]
theorem q_J_W (hP : va_P D qCl (q_J ad cI cZ cQ aO cL h o) H) : va_P D qCl (q_W ad cI cZ cQ h) H := fun k q hk => by
  obtain ⟨h1, -⟩ := q_Wat hk
  exact hP k q (by rw [q_J_lo h1]; exact hk)
theorem q_J_O (hP : va_P D qCl (q_J ad cI cZ cQ aO cL h o) H) : H[aO]? = some (vp_cell cL (1, .inr (.inl (fun _ => o)))) := hP 47 _ q_J_47
theorem q_J_mk (hP : va_P D qCl (q_W ad cI cZ cQ h) H) (hO : H[aO]? = some (vp_cell cL (1, .inr (.inl (fun _ => o))))) : va_P D qCl (q_J ad cI cZ cQ aO cL h o) H :=
  va_P.app hP (fun k q hk => by
    rcases k with _ | k
    · cases hk; exact hO
    · cases hk)
theorem q_J_D (hap : ∀ i j, i < qNW → j < qNW → ad i = ad j → i = j) (hO : ¬ q_A ad aO) {A : Nat → Prop} (hA : ∀ q, q_AL ad aO q → A q) : va_D A (q_J ad cI cZ cQ aO cL h o) := by
  refine va_D.app ((q_D hap).weaken (fun _ _ _ z => hA _ (Or.inl z))) ⟨fun i j p q hp hq _ => ?_, fun k q hk => ?_⟩ (fun i j p q hp hq e => ?_)
  · rcases i with _ | i <;> rcases j with _ | j <;> first | rfl | (cases hp; done) | (cases hq; done)
  · rcases k with _ | k
    · cases hk; exact hA _ (Or.inr rfl)
    · cases hk
  · obtain ⟨h1, rfl⟩ := q_Wat hp
    rcases j with _ | j
    · cases hq; exact hO ⟨i, h1, e.symm⟩
    · cases hq
theorem q_long1 {f : Nat → Int64} (hf : f 0 = x) : vp_cell cL (1, .inr (.inl f)) = vp_cell cL (1, .inr (.inl (fun _ => x))) := by
  rw [vp_cell_l, vp_cell_l]
  unfold arrV
  congr 1
  congr 1
  funext j
  have : j.val = 0 := by omega
  rw [this]
  show Value.long (f 0) = Value.long x
  rw [hf]
theorem q_J_set {f : Nat → Int64} (hf : f 0 = x) (hP : va_P D qCl ((q_J ad cI cZ cQ aO cL h o).set 47 (aO, .inl (cL, 1, .inr (.inl f)))) H) : va_P D qCl (q_J ad cI cZ cQ aO cL h x) H := by
  refine q_J_mk (fun k q hk => ?_) ?_
  · obtain ⟨h1, -⟩ := q_Wat hk
    have h1' : k < 47 := h1
    exact hP k q (by rw [List.getElem?_set_ne (by omega), q_J_lo h1]; exact hk)
  · have h1 := hP 47 (aO, .inl (cL, 1, .inr (.inl f))) (by rw [List.getElem?_set_self (by unfold q_J; rw [List.length_append, q_Wlen]; show 47 < 47 + 1; decide)])
    have h2 : H[aO]? = some (vp_cell cL (1, .inr (.inl f))) := h1
    rw [h2, q_long1 hf]
end QJ
/-- what the law's methods ask: the world, what stays, what a throw asks, that no exception is another -/
def q_PreL (D : va_G) (ad : Nat → Nat) (cI cZ cQ : ClassId) (aO : Nat) (cL : ClassId) (h : HP) (o : Int64) (U : State) : Prop :=
  va_P D qCl (q_J ad cI cZ cQ aO cL h o) U.heap ∧ q_Sta D ad cI cZ cQ U ∧ q_Thr ad U ∧ va_K D qCl [(cL, .long)] U ∧ (∀ X ∈ qEx, ∀ Y ∈ qEx, X ≠ Y → va_Nc X Y U) ∧ ¬ q_A ad aO
def q_MetL (l : Launch) (D : va_G) (ad : Nat → Nat) (cI cZ cQ : ClassId) (aO : Nat) (cL : ClassId) (y : MethodName) (ws : List Cond) (rm : Room) (av : List Value) (h : HP) (o : Int64) (k : Int32) (h' : HP) (o' : Int64) : Prop :=
  Met l y ws rm (va_Pc av (q_PreL D ad cI cZ cQ aO cL h o)) (va_Qi (fun (r : Int32) (_ : Unit) => r = k) (fun _ t => va_P D qCl (q_J ad cI cZ cQ aO cL h' o') t.heap) (q_AL ad aO)) 1 6 (q_AL ad aO)
theorem q_es1 {α β : Type} {f : α → β} {es : List α} {a : β} (h : es.map f = [a]) : ∃ e1, es = [e1] ∧ f e1 = a := by
  rcases es with _ | ⟨e1, _ | ⟨e2, es⟩⟩ <;> simp at h
  exact ⟨e1, rfl, h⟩
theorem q_es2 {α β : Type} {f : α → β} {es : List α} {a b : β} (h : es.map f = [a, b]) : ∃ e1 e2, es = [e1, e2] ∧ f e1 = a ∧ f e2 = b := by
  rcases es with _ | ⟨e1, _ | ⟨e2, _ | ⟨e3, es⟩⟩⟩ <;> simp at h
  exact ⟨e1, e2, rfl, h.1, h.2⟩
theorem q_es3 {α β : Type} {f : α → β} {es : List α} {a b d : β} (h : es.map f = [a, b, d]) : ∃ e1 e2 e3, es = [e1, e2, e3] ∧ f e1 = a ∧ f e2 = b ∧ f e3 = d := by
  rcases es with _ | ⟨e1, _ | ⟨e2, _ | ⟨e3, _ | ⟨e4, es⟩⟩⟩⟩ <;> simp at h
  exact ⟨e1, e2, e3, rfl, h.1, h.2.1, h.2.2⟩
