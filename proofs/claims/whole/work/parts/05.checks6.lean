def okz : List (En × List Nat) := (cdA.getD 217 []).zip (psA.getD 217 [])
theorem okl_0 : ((okz.drop 0).take 50).all (fun q => okE 217 q.1 q.2) = true := by decide +kernel
theorem okl_1 : ((okz.drop 50).take 50).all (fun q => okE 217 q.1 q.2) = true := by decide +kernel
theorem okl_2 : ((okz.drop 100).take 50).all (fun q => okE 217 q.1 q.2) = true := by decide +kernel
theorem okl_3 : ((okz.drop 150).take 50).all (fun q => okE 217 q.1 q.2) = true := by decide +kernel
theorem okl_4 : ((okz.drop 200).take 50).all (fun q => okE 217 q.1 q.2) = true := by decide +kernel
theorem okl_5 : ((okz.drop 250).take 50).all (fun q => okE 217 q.1 q.2) = true := by decide +kernel
theorem okl_6 : ((okz.drop 300).take 50).all (fun q => okE 217 q.1 q.2) = true := by decide +kernel
theorem okl_7 : ((okz.drop 350).take 50).all (fun q => okE 217 q.1 q.2) = true := by decide +kernel
theorem okl_8 : ((okz.drop 400).take 50).all (fun q => okE 217 q.1 q.2) = true := by decide +kernel
theorem okl_9 : ((okz.drop 450).take 50).all (fun q => okE 217 q.1 q.2) = true := by decide +kernel
theorem okl_10 : ((okz.drop 500).take 50).all (fun q => okE 217 q.1 q.2) = true := by decide +kernel
theorem okl_11 : ((okz.drop 550).take 50).all (fun q => okE 217 q.1 q.2) = true := by decide +kernel
theorem okl_12 : ((okz.drop 600).take 50).all (fun q => okE 217 q.1 q.2) = true := by decide +kernel
theorem okl_13 : ((okz.drop 650).take 50).all (fun q => okE 217 q.1 q.2) = true := by decide +kernel
theorem all_cut {α : Type} (f : α → Bool) (l : List α) (n : Nat) (h1 : (l.take n).all f = true) (h2 : (l.drop n).all f = true) : l.all f = true := by
  rw [← List.take_append_drop n l, List.all_append, h1, h2]; rfl
theorem okl_e : (okz.drop 700).all (fun q => okE 217 q.1 q.2) = true := by decide +kernel
theorem okd_13 : (okz.drop 650).all (fun q => okE 217 q.1 q.2) = true := all_cut _ _ 50 okl_13 (by rw [List.drop_drop]; exact okl_e)
theorem okd_12 : (okz.drop 600).all (fun q => okE 217 q.1 q.2) = true := all_cut _ _ 50 okl_12 (by rw [List.drop_drop]; exact okd_13)
theorem okd_11 : (okz.drop 550).all (fun q => okE 217 q.1 q.2) = true := all_cut _ _ 50 okl_11 (by rw [List.drop_drop]; exact okd_12)
theorem okd_10 : (okz.drop 500).all (fun q => okE 217 q.1 q.2) = true := all_cut _ _ 50 okl_10 (by rw [List.drop_drop]; exact okd_11)
theorem okd_9 : (okz.drop 450).all (fun q => okE 217 q.1 q.2) = true := all_cut _ _ 50 okl_9 (by rw [List.drop_drop]; exact okd_10)
theorem okd_8 : (okz.drop 400).all (fun q => okE 217 q.1 q.2) = true := all_cut _ _ 50 okl_8 (by rw [List.drop_drop]; exact okd_9)
theorem okd_7 : (okz.drop 350).all (fun q => okE 217 q.1 q.2) = true := all_cut _ _ 50 okl_7 (by rw [List.drop_drop]; exact okd_8)
theorem okd_6 : (okz.drop 300).all (fun q => okE 217 q.1 q.2) = true := all_cut _ _ 50 okl_6 (by rw [List.drop_drop]; exact okd_7)
theorem okd_5 : (okz.drop 250).all (fun q => okE 217 q.1 q.2) = true := all_cut _ _ 50 okl_5 (by rw [List.drop_drop]; exact okd_6)
theorem okd_4 : (okz.drop 200).all (fun q => okE 217 q.1 q.2) = true := all_cut _ _ 50 okl_4 (by rw [List.drop_drop]; exact okd_5)
theorem okd_3 : (okz.drop 150).all (fun q => okE 217 q.1 q.2) = true := all_cut _ _ 50 okl_3 (by rw [List.drop_drop]; exact okd_4)
theorem okd_2 : (okz.drop 100).all (fun q => okE 217 q.1 q.2) = true := all_cut _ _ 50 okl_2 (by rw [List.drop_drop]; exact okd_3)
theorem okd_1 : (okz.drop 50).all (fun q => okE 217 q.1 q.2) = true := all_cut _ _ 50 okl_1 (by rw [List.drop_drop]; exact okd_2)
theorem okd_0 : (okz.drop 0).all (fun q => okE 217 q.1 q.2) = true := all_cut _ _ 50 okl_0 (by rw [List.drop_drop]; exact okd_1)
theorem okm_217 : okM 217 = true := by
  have h : okz.all (fun q => okE 217 q.1 q.2) = true := okd_0
  unfold okM
  rw [Bool.and_eq_true]
  exact ⟨by decide +kernel, h⟩
