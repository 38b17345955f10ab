theorem dOK_new : dOK [] (fun _ => 0) (fun _ => 0) := ⟨List.nodup_nil, fun p hp => by simp at hp, fun j hj => by simp at hj, fun p _ => by simp⟩
