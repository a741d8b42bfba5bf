/-! rows that say the same from a place on -/
theorem jall_get2 (lo hi : Nat) {X : List Int} {x : Int} {j : Nat} (h : (List.range hi).all (fun j => Nat.blt j lo || decide (X[j]? = some x)) = true) (h1 : lo ≤ j) (h2 : j < hi) : X[j]? = some x := by
  have h3 := List.all_eq_true.mp h j (List.mem_range.mpr h2)
  rcases Bool.or_eq_true_iff.mp h3 with h4 | h4
  · have := Nat.le_of_ble_eq_true h4
    omega
  · exact of_decide_eq_true h4
