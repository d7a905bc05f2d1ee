/-! ALL 24 CALLS. -/
theorem a_1 (a : Int32) : ∀ v ∈ ([.inl a] : List PV), ∃ x, v = Sum.inl x := fun v h => ⟨a, by simpa using h⟩
theorem a_2 (a b : Int32) : ∀ v ∈ ([.inl a, .inl b] : List PV), ∃ x, v = Sum.inl x := fun v h => by
  rcases List.mem_cons.mp h with h | h
  · exact ⟨a, h⟩
  · exact ⟨b, by simpa using h⟩
theorem a_0 : ∀ v ∈ ([] : List PV), ∃ x, v = Sum.inl x := fun _ h => absurd h List.not_mem_nil
theorem all_RR : q_All (fun h => RR h h) :=
  ⟨fun a => P_opW RR_dep (by decide) (by decide) (a_1 a) (o_insert a),
   fun a => P_opW RR_dep (by decide) (by decide) (a_1 a) (o_verdict a),
   P_opW RR_dep (by decide) (by decide) a_0 o_deposit,
   P_opW RR_dep (by decide) (by decide) a_0 o_confirm,
   P_opW RR_dep (by decide) (by decide) a_0 o_giveBack,
   fun a => P_opW RR_dep (by decide) (by decide) (a_1 a) (o_payout a),
   fun a b => P_opW RR_dep (by decide) (by decide) (a_2 a b) (o_plan a b),
   fun a => P_opW RR_dep (by decide) (by decide) (a_1 a) (o_step a),
   P_opD RR_dep (by decide) (by decide) o_taken,
   fun a => P_opW RR_dep (by decide) (by decide) (a_1 a) (o_stick a),
   P_opW RR_dep (by decide) (by decide) a_0 o_open,
   fun a => P_opW RR_dep (by decide) (by decide) (a_1 a) (o_remove a),
   fun a => P_opZ RR_dep (by decide) (by decide) (a_1 a) (o_free a),
   P_opW RR_dep (by decide) (by decide) a_0 o_close,
   P_opD RR_dep (by decide) (by decide) o_power,
   P_opZ RR_dep (by decide) (by decide) a_0 o_service,
   fun a b => P_opW RR_dep (by decide) (by decide) (a_2 a b) (o_kind a b),
   fun a b => P_opW RR_dep (by decide) (by decide) (a_2 a b) (o_refill a b),
   fun a => P_opW RR_dep (by decide) (by decide) (a_1 a) (o_empty a),
   P_opD RR_dep (by decide) (by decide) o_state,
   fun a b => P_opW RR_dep (by decide) (by decide) (a_2 a b) (o_notes a b),
   fun a b => P_opW RR_dep (by decide) (by decide) (a_2 a b) (o_cassette a b),
   fun a b => P_opW RR_dep (by decide) (by decide) (a_2 a b) (o_belt a b),
   P_opD RR_dep (by decide) (by decide) o_balance⟩
