/-! THE LAUNCH WITH MORE ROOM has the same files: what the Statement asks of its lists -/
theorem lR_file (n : String) : launchR.file? n = launch0.file? n := rfl
theorem lR_held_0 : List.all (List.take 120 tables_1) (fun c => Jvm.D.heldByFiles launchR c) = true := by decide +kernel
theorem lR_held_1 : List.all (List.take 120 (List.drop 120 tables_1)) (fun c => Jvm.D.heldByFiles launchR c) = true := by decide +kernel
theorem lR_held_2 : List.all (List.take 120 (List.drop 120 (List.drop 120 tables_1))) (fun c => Jvm.D.heldByFiles launchR c) = true := by decide +kernel
theorem lR_held_3 : List.all (List.take 120 (List.drop 120 (List.drop 120 (List.drop 120 tables_1)))) (fun c => Jvm.D.heldByFiles launchR c) = true := by decide +kernel
theorem lR_held_4 : List.all (List.take 120 (List.drop 120 (List.drop 120 (List.drop 120 (List.drop 120 tables_1))))) (fun c => Jvm.D.heldByFiles launchR c) = true := by decide +kernel
theorem lR_held_5 : List.all (List.take 120 (List.drop 120 (List.drop 120 (List.drop 120 (List.drop 120 (List.drop 120 tables_1)))))) (fun c => Jvm.D.heldByFiles launchR c) = true := by decide +kernel
theorem lR_held_6 : List.all (List.take 120 (List.drop 120 (List.drop 120 (List.drop 120 (List.drop 120 (List.drop 120 (List.drop 120 tables_1))))))) (fun c => Jvm.D.heldByFiles launchR c) = true := by decide +kernel
theorem lR_held_7 : List.all (List.take 120 (List.drop 120 (List.drop 120 (List.drop 120 (List.drop 120 (List.drop 120 (List.drop 120 (List.drop 120 tables_1)))))))) (fun c => Jvm.D.heldByFiles launchR c) = true := by decide +kernel
theorem lR_held_8 : List.all (List.drop 120 (List.drop 120 (List.drop 120 (List.drop 120 (List.drop 120 (List.drop 120 (List.drop 120 (List.drop 120 tables_1)))))))) (fun c => Jvm.D.heldByFiles launchR c) = true := by decide +kernel
theorem lR_held : List.all tables_1 (fun c => Jvm.D.heldByFiles launchR c) = true := (cut_step _ 120 _ lR_held_0 (cut_step _ 120 _ lR_held_1 (cut_step _ 120 _ lR_held_2 (cut_step _ 120 _ lR_held_3 (cut_step _ 120 _ lR_held_4 (cut_step _ 120 _ lR_held_5 (cut_step _ 120 _ lR_held_6 (cut_step _ 120 _ lR_held_7 lR_held_8))))))))
theorem lR_sound : launchR.sound = true := by decide +kernel
theorem lR_lists : Jvm.D.Lists launchR classFile x code maxLocals ret tables_1 room_1 := by
  obtain ⟨-, h2, ⟨c1, c2, c3, c4⟩, -⟩ := lists_1
  refine ⟨lR_sound, h2, ⟨c1, c2, c3, fun y hy => ?_⟩, lR_held⟩
  have h := c4 y hy
  cases y <;> exact h
