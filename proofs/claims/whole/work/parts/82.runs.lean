-- deps: 81.law2 78.house
theorem law_runs {L : Nat} (xs : Nat → Int32) (hL : L ≤ 320) : ∃ hE : AHp, Rf 1000 217 0 [.ref 31, noV, noV, noV] [] (h0A L xs) = some (some (.int 1), hE) ∧ hE.2.1 ≤ 600032 ∧ hE.2.2 ≤ 7302250 := law_all (fun _ G Lo sg => pr_house G Lo sg) xs hL
