/-! THE FIRST WORLDS -/
def w0 : Wd := (fun c => if c = 2 then fillG (fun _ => 0) else if c = 9 then (fun j => nI (j + 2)) else if c < 10 then (fun _ => 0) else if (c - 10) % 4 = 0 then (fun _ => 3) else if (c - 10) % 4 = 1 then va_cpy fWaves (fun _ => 0) 0 0 3 else if (c - 10) % 4 = 2 then va_cpy fSets (fun _ => 0) 0 0 6 else (fun _ => 0), 0)
def v0now : Nat → Int32 := (upd (upd (upd (upd (upd (upd (upd (upd (upd (upd (upd (fun _ => 0) (0 : Int32).toNatClampNeg 3) (1 : Int32).toNatClampNeg 3) (2 : Int32).toNatClampNeg 500) (3 : Int32).toNatClampNeg 700) (4 : Int32).toNatClampNeg 1100) (5 : Int32).toNatClampNeg 4) (6 : Int32).toNatClampNeg 20) (7 : Int32).toNatClampNeg 4000) (8 : Int32).toNatClampNeg 5000) (9 : Int32).toNatClampNeg 50) (10 : Int32).toNatClampNeg 10)
def v0 : Wd := (fun c => if c = 1 then v0now else (fun _ => 0), 0)
theorem v0_hi {k : Nat} (h : 11 ≤ k) : v0now k = 0 := by
  unfold v0now
  simp only [upd_1]
  rw [if_neg (by show ¬ k = 10; omega), if_neg (by show ¬ k = 9; omega), if_neg (by show ¬ k = 8; omega), if_neg (by show ¬ k = 7; omega), if_neg (by show ¬ k = 6; omega), if_neg (by show ¬ k = 5; omega), if_neg (by show ¬ k = 4; omega), if_neg (by show ¬ k = 3; omega), if_neg (by show ¬ k = 2; omega), if_neg (by show ¬ k = 1; omega), if_neg (by show ¬ k = 0; omega)]
theorem RM_0 {k : Nat} : RM v0 k = v0now k := by
  unfold RM
  by_cases h : k < 395
  · rw [if_pos h]; rfl
  · rw [if_neg h, v0_hi (by omega)]
theorem VR_first : VR (RM v0) := by
  refine ⟨⟨3, by omega, by omega, ?_⟩, ⟨3, by omega, by omega, ?_⟩, fun k hk => ?_, ⟨4, by omega, by omega, ?_⟩, ⟨20, by omega, by omega, ?_⟩, ⟨4000, by omega, by omega, ?_⟩, ⟨5000, by omega, by omega, ?_⟩, ⟨50, by omega, by omega, ?_⟩, ⟨10, by omega, by omega, ?_⟩, fun j hj => ⟨0, by omega, by omega, ?_⟩⟩
  · rw [RM_0]; decide
  · rw [RM_0]; decide
  · rcases (by omega : k = 0 ∨ k = 1 ∨ k = 2) with rfl | rfl | rfl
    · exact ⟨500, by omega, by omega, by rw [RM_0]; decide⟩
    · exact ⟨700, by omega, by omega, by rw [RM_0]; decide⟩
    · exact ⟨1100, by omega, by omega, by rw [RM_0]; decide⟩
  · rw [RM_0]; decide
  · rw [RM_0]; decide
  · rw [RM_0]; decide
  · rw [RM_0]; decide
  · rw [RM_0]; decide
  · rw [RM_0]; decide
  · rw [RM_0, v0_hi (by omega)]; rfl
theorem rows_first : RC w0 10 = RM v0 := by
  funext k
  rw [RM_0]
  by_cases h : 11 ≤ k
  · rw [v0_hi h]
    unfold RC
    rw [if_neg (by omega), if_neg (by omega), if_neg (by omega), if_neg (by omega)]
    by_cases h2 : k < 395
    · rw [if_pos h2]; rfl
    · rw [if_neg h2]
  · rcases (by omega : k = 0 ∨ k = 1 ∨ k = 2 ∨ k = 3 ∨ k = 4 ∨ k = 5 ∨ k = 6 ∨ k = 7 ∨ k = 8 ∨ k = 9 ∨ k = 10) with rfl | rfl | rfl | rfl | rfl | rfl | rfl | rfl | rfl | rfl | rfl <;> decide
theorem Sim_first : Sim w0 v0 := by
  refine ⟨rows_first, VR_first, fun c hc => .inl ?_, ⟨rfl, rfl, rfl⟩, ⟨0, by omega, rfl, rfl, fun k hk => by omega⟩, 0, (fun i => i + 2), by omega, rfl, rfl, fun i hi => ⟨by show 2 ≤ i + 2; omega, by show i + 2 ≤ 6; omega, rfl⟩, fun i j _ _ h => by have h' : i + 2 = j + 2 := h; omega, fun i hi => by omega⟩
  show fillG (fun _ => 0) c = -1
  exact fillG_v _ c hc
