theorem zk_split {α : Type} (l : List α) (n k : Nat) {P : α → Prop} (h1 : ∀ x ∈ (l.drop n).take k, P x) (h2 : ∀ x ∈ l.drop (n + k), P x) : ∀ x ∈ l.drop n, P x := by
  intro x hx
  rw [← List.take_append_drop k (l.drop n), List.drop_drop] at hx
  rcases List.mem_append.mp hx with h | h
  · exact h1 x h
  · exact h2 x h
theorem zk_L_law_end : ∀ x ∈ zi_L_law.drop 720, zokE zm_L_law x = true := fun x h => by
  rw [List.drop_of_length_le (Nat.le_of_ble_eq_true (by decide +kernel))] at h
  cases h
theorem zk_L_law : ∀ x ∈ zi_L_law, zokE zm_L_law x = true := zk_split zi_L_law 0 60 zk_L_law_0 (zk_split zi_L_law 60 60 zk_L_law_60 (zk_split zi_L_law 120 60 zk_L_law_120 (zk_split zi_L_law 180 60 zk_L_law_180 (zk_split zi_L_law 240 60 zk_L_law_240 (zk_split zi_L_law 300 60 zk_L_law_300 (zk_split zi_L_law 360 60 zk_L_law_360 (zk_split zi_L_law 420 60 zk_L_law_420 (zk_split zi_L_law 480 60 zk_L_law_480 (zk_split zi_L_law 540 60 zk_L_law_540 (zk_split zi_L_law 600 60 zk_L_law_600 (zk_split zi_L_law 660 60 zk_L_law_660 (zk_L_law_end))))))))))))
