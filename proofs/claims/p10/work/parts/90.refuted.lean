/-! THE STATEMENT IS FALSE: on this script the law ends with at least 742020 new cells, where it is claimed to make at most 600000 -/
/-- the run itself: it ends, and how many cells there are then -/
theorem sR_run : ∃ (n : Nat) (o : Outcome), (∀ k, k < n → Within (stepsAlone start1.p0.tables (launchR.env 0 0 0) k sR) Lib.HandBits.below0) ∧ (stepsAlone start1.p0.tables (launchR.env 0 0 0) n sR).status = .running ∧ Ended (stepsAlone start1.p0.tables (launchR.env 0 0 0) n sR) Lib.HandBits.below0 o ∧ sR.heap.size + 742020 ≤ (stepsAlone start1.p0.tables (launchR.env 0 0 0) n sR).heap.size :=
  b_walk launchR 0 (hY := hX15) (by decide +kernel) (by decide +kernel) gX1 gX2 gM start1.p0 (launchR.env 0 0 0) (launchR.admits_env _ _ _) fairChoices_fair.cas fairChoices_fair.clock sR ⟨0, 0⟩ start1.args0 Lib.HandBits.below0 rfl ((Spec.applies_iff_loose rfl).mp (sR_applies bigR rfl (by decide) (by decide) rfl)).1 ⟨rfl, sR_ints⟩ trivial
theorem not_framed {s t : State} {o : Outcome} {L : List Loc} (h : s.heap.size + 742020 ≤ t.heap.size) : ¬ Framed s o t L 600000 7302249 := by
  rintro ⟨-, -, -, -, h2, -⟩
  have h3 : t.heap.size ≤ s.heap.size + 600000 := h2
  omega
/-- THE REFUTATION, in the Statement's own words -/
theorem refuted_1_1 : RefutedClaimed_1_1 := by
  obtain ⟨n, o, h1, h2, h3, h4⟩ := sR_run
  exact ⟨launchR, start1.p0, launchR.env 0 0 0, sR, ⟨0, 0⟩, start1.args0, Lib.HandBits.below0, rfl, sR_start, n, o, h1, h2, h3, fun h => not_framed h4 h.2⟩
theorem refuted_1_2 : RefutedClaimed_1_2 := by
  obtain ⟨n, o, h1, h2, h3, h4⟩ := sR_run
  exact ⟨launchR, start1.p0, launchR.env 0 0 0, sR, ⟨0, 0⟩, start1.args0, Lib.HandBits.below0, rfl, sR_start, n, o, h1, h2, h3, fun h => not_framed h4 h.2⟩
theorem not_1_1 : ¬ Claimed_1_1 := by
  intro hC
  obtain ⟨a1, a2, a3, a4, a5, a6, a7, a8, a9, a10, a11, a12, a13⟩ := sR_start
  obtain ⟨n, o, h1, h2, h3, h4⟩ := hC launchR rfl a1 a2 start1.p0 (launchR.env 0 0 0) a3 a5 a6 sR ⟨0, 0⟩ start1.args0 Lib.HandBits.below0 a7 a8 a9 a10 ⟨a11, a12, a13⟩
  obtain ⟨n2, o2, k1, k2, k3, k4⟩ := sR_run
  obtain ⟨rfl, rfl⟩ := the_end_unique h1 h3 k1 k3
  exact not_framed k4 h4.2
theorem not_1_2 : ¬ Claimed_1_2 := by
  intro hC
  obtain ⟨a1, a2, a3, a4, a5, a6, a7, a8, a9, a10, a11, a12, a13⟩ := sR_start
  obtain ⟨n, o, h1, h2, h3, h4⟩ := hC launchR rfl a1 a2 start1.p0 (launchR.env 0 0 0) a3 a5 a6 sR ⟨0, 0⟩ start1.args0 Lib.HandBits.below0 a7 a8 a9 a10 ⟨a11, a12, a13⟩
  obtain ⟨n2, o2, k1, k2, k3, k4⟩ := sR_run
  obtain ⟨rfl, rfl⟩ := the_end_unique h1 h3 k1 k3
  exact not_framed k4 h4.2
/-- the owed statement itself -/
theorem not_i_vc : ¬ (Claimed_1_1 ∧ Claimed_1_2) := fun h => not_1_1 h.1
