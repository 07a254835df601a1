/-- the law's run on the plain machine is all that is owed -/
theorem whole_of {p : Program} {e : Env} {s : State} {m : MethodId} {below : List Frame} {meth : Method} {c : Code} (l : Launch) {b L : Nat} {xs : Nat → Int32} (C0 : lw_At p s m meth c b L xs) (hrun : ∃ hE : AHp, Rf 1000 217 0 [.ref 31, noV, noV, noV] [] (h0A L xs) = some (some (.int 1), hE) ∧ hE.2.1 ≤ 600032 ∧ hE.2.2 ≤ 7302250) : W p l e room_1 s m #[Value.ref b] below meth c s.heap [] 0 0 (lw_Z below #[Value.ref b] s) (entryFrame m ([Value.ref b] : List Value).toArray 4) := by
  obtain ⟨hE, hrf, hc1, hc2⟩ := hrun
  obtain ⟨n, hn⟩ := Rf_ex hrf
  obtain ⟨ro, D, tyC, hro, hEv⟩ := ev0 C0
  obtain ⟨hx, hb, hr, hml, hown, hts, hX, hbl, hlocks, hgv⟩ := C0
  have hmB : mB 217 = code := rfl
  have hmL : (mH 217).2.1 = 4 := rfl
  have hC : Cn s.heap.size ro D tyC L xs (h0A L xs) s.heap := h0_Cn rfl
  rw [lg_entry_eq]
  have hL : LR (adr s.heap.size ro) [.ref 31, noV, noV, noV] ((lg_sl ([.ref b] : List Value) ++ List.replicate (4 - (lg_sl ([.ref b] : List Value)).length) Slot.unset).toArray) := by
    have h1 := LR_entry (ad := adr s.heap.size ro) (c := 217) (as := [.ref 31]) rfl (by rw [hmL]; decide)
    have h2 : ([Value.ref 31].map (cvV (adr s.heap.size ro))) = [.ref b] := by
      show [Value.ref (adr s.heap.size ro 31)] = _
      rw [adr_lo (by omega), hro]
    rw [h2, hmL] at h1
    exact h1
  refine run_sim l n 1000 217 0 [.ref 31, noV, noV, noV] [] (h0A L xs) (some (.int 1), hE) hn hmL.symm s.heap.size ro D tyC L xs p e room_1 s m _ below meth c s.heap [] _ 0 0 _ ⟨hx, by rw [hmB]; exact hb, by rw [hmL]; exact hml, hown, fun z => absurd z (by decide), fun w hw => hts w (lwG_good hw).1, hEv⟩ hC va_S.rf hL rfl ?_ ?_ (by decide) (by decide) ?_
  · show 0 + (hE.2.1 - 32) ≤ 600000
    omega
  · show 0 + (hE.2.2 - 0) ≤ 7302250
    omega
  · intro pc' st' ls' H' locs' hw hC' hS'
    rcases hw with ⟨hd, x, rfl, hx1, hx2⟩ | ⟨hd, x, rfl, hx1, hx2⟩ | ⟨hd, rfl, hx1, hx2⟩
    · have hx3 : x = 1 := by
        have := Option.some.inj hx1
        exact (Value.int.inj this).symm
      subst hx3
      refine va_forget (fun q hq => hS'.2.2 q hq) ?_
      refine W.widen (k := 600000) (n := 7302250) (by show 0 + (hE.2.1 - 32) ≤ 600000; omega) (by show 0 + (hE.2.2 - 0) ≤ 7302250; omega) ?_
      exact lw_ret hx hb hr hlocks (by rw [← hmB]; exact hd)
    · cases hx1
    · cases hx1
