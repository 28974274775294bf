theorem A0_WS : WS (ar0 1) 0 := ⟨⟨⟨by omega, rfl⟩, fun i hi => by omega, fun i j hi => by omega, by decide, by decide, by decide, by decide, by decide⟩, by omega⟩
theorem XI0 : XI ci0 cz0 (ar0 1) 0 [] (fun _ => none) (fun _ => 0) 0 := by
  refine ⟨⟨⟨⟨rfl, rfl, rfl, rfl⟩, fun i hi => ?_, fun i hi => by omega, fun i hi => by omega, fun i hi => by omega, fun i hi => by omega, fun i hi => by omega⟩, A0_WS⟩, ⟨⟨rfl, by omega⟩, fun i hi => by omega⟩, ⟨0, ⟨by omega, by simp⟩, ⟨rfl, rfl⟩, fun j B hj => by simp at hj⟩, fun i _ => bit_0 i⟩
  rfl
