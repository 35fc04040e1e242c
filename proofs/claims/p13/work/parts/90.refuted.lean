/-! THE STATEMENT IS FALSE: on this script the law ends with at least 1378678 new cells, where it is claimed to make at most 789898 -/
/-- the run itself: it ends, and how many cells there are then -/
theorem sR_run : ∃ (n : Nat) (o : Outcome), (∀ k, k < n → Within (stepsAlone start1.p0.tables eR k sR) Lib.HandBits.below0) ∧ (stepsAlone start1.p0.tables eR n sR).status = .running ∧ Ended (stepsAlone start1.p0.tables eR n sR) Lib.HandBits.below0 o ∧ sR.heap.size + 1378678 ≤ (stepsAlone start1.p0.tables eR n sR).heap.size :=
  b_walk launch0 0 (hY := hX16) (by decide +kernel) (by decide +kernel) gX1 gX2 gM start1.p0 eR (launch0.admits_env _ _ _) fairChoices_fair.cas fairChoices_fair.clock sR ⟨0, 0⟩ start1.args0 Lib.HandBits.below0 rfl ((Spec.applies_iff_loose rfl).mp (sR_applies bigR rfl (by decide) (by decide) rfl)).1 ⟨rfl, sR_ints⟩ trivial
theorem not_framed {s t : State} {o : Outcome} {L : List Loc} (h : s.heap.size + 1378678 ≤ t.heap.size) : ¬ Framed s o t L 789898 6732554 := by
  rintro ⟨-, -, -, -, h2, -⟩
  have h3 : t.heap.size ≤ s.heap.size + 789898 := h2
  omega
theorem not_1_1 : ¬ Claimed_1_1 := by
  intro hC
  obtain ⟨n, o, h1, h2, h3, h4⟩ := hC launch0 rfl lists_1 trivial start1.p0 eR (launch0.admits_env _ _ _) fairChoices_fair.cas fairChoices_fair.clock sR ⟨0, 0⟩ start1.args0 Lib.HandBits.below0 rfl sR_argsFit sR_heapFits (sR_applies room_1 rfl (by decide) (by decide) rfl) ⟨trivial, sR_rest, sR_given⟩
  obtain ⟨n2, o2, k1, k2, k3, k4⟩ := sR_run
  obtain ⟨rfl, rfl⟩ := the_end_unique h1 h3 k1 k3
  exact not_framed k4 h4.2
theorem not_1_2 : ¬ Claimed_1_2 := by
  intro hC
  obtain ⟨n, o, h1, h2, h3, h4⟩ := hC launch0 rfl lists_1 trivial start1.p0 eR (launch0.admits_env _ _ _) fairChoices_fair.cas fairChoices_fair.clock sR ⟨0, 0⟩ start1.args0 Lib.HandBits.below0 rfl sR_argsFit sR_heapFits (sR_applies room_1 rfl (by decide) (by decide) rfl) ⟨trivial, sR_rest, sR_given⟩
  obtain ⟨n2, o2, k1, k2, k3, k4⟩ := sR_run
  obtain ⟨rfl, rfl⟩ := the_end_unique h1 h3 k1 k3
  exact not_framed k4 h4.2
/-- the owed statement itself -/
theorem not_i_vc : ¬ (Claimed_1_1 ∧ Claimed_1_2) := fun h => not_1_1 h.1
