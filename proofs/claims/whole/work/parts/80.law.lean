/-! ===== the law, as a run of the small machine ===== -/
def S00 : Sto := ([], fun _ _ => 0, fun _ _ => 0, fun _ _ => none)
theorem law_pure : ∀ (L : Nat) (xs : Nat → Int32), L ≤ 3584 → ∃ d, d ≤ 2000 ∧ Runs (Ex d) code 12 false 4 (some .boolean) (some (L, xs)) (600000, 7302250) (fun r _ => r = some (.int 1)) 0 [(0, .retAddr 0)] [] S00 0 0 := sorry
