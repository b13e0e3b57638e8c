/-! ===== the clerk of the class, on ===== -/
theorem WI_0 {K : Int → Int} {tl st mn gd : Int} : WI K 0 0 tl st mn gd := by
  unfold WI
  exact ⟨fun h => by omega, fun _ => ⟨fun h => by omega, fun h => by omega, fun h => by omega, fun h => by omega, fun h => by omega⟩⟩
