/-! A START OF WHICH THE STATEMENT SPEAKS: the witness's state (the kit's own start1.aboutOf) with the script in it, in an environment with more room -/
def scrV : Array Value := ((List.range 3072).map fun j => Value.int (scr j)).toArray
def sR : State := start1.aboutOf scrV
def isAC : Cond → Bool
  | .arrayClass _ => true
  | _ => false
set_option maxRecDepth 16384 in
theorem sR_others : tables_1.all (fun c => (c.onTables && c.keeps) || isAC c || c.before start1.args0 sR) = true := by decide +kernel
theorem ab_vm (a b : Array Value) : (start1.aboutOf a).vm = (start1.aboutOf b).vm := rfl
theorem sR_words : ∀ c ∈ (Cond.code x code maxLocals ret :: tables_1), c.before start1.args0 sR = true := by
  intro c hc
  have h0 := start1.words c hc
  have hw : start1.about.WarmedH sR.vm := by
    unfold sR
    rw [ab_vm scrV start1.cells0]
    exact State.WarmedH.refl start1.about
  rcases List.mem_cons.mp hc with h | h
  · subst h
    exact word_at hw (Or.inl (by decide +kernel)) h0
  · have h1 := List.all_eq_true.mp sR_others c h
    simp only [Bool.or_eq_true] at h1
    rcases h1 with (h1 | h1) | h1
    · exact word_at hw (Or.inl h1) h0
    · refine word_at hw (Or.inr ?_) h0
      cases c <;> first | (simp [isAC] at h1; done) | exact ⟨_, rfl⟩
    · exact h1
