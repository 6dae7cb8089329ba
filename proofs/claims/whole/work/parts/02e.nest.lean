def NWS : List Cond := [.methodLinkNest RX0 103 yX6_rankBy "SwornElsewhere"]
theorem NWS_form : ∀ w ∈ NWS, ∃ (a : String) (i : Nat) (x : MethodName) (h : String), w = .methodLinkNest a i x h := (show ∀ w ∈ [Cond.methodLinkNest RX0 103 yX6_rankBy "SwornElsewhere"], ∃ (a : String) (i : Nat) (x : MethodName) (h : String), w = .methodLinkNest a i x h from List.forall_mem_cons.mpr ⟨⟨_, _, _, _, rfl⟩, fun _ h => absurd h List.not_mem_nil⟩)
theorem NWS_t0 : Cond.methodLinkNest RX0 103 yX6_rankBy "SwornElsewhere" ∈ lw_tbl := List.mem_of_getElem? (i := 455) (by decide +kernel)
