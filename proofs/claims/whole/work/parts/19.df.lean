theorem df0 : defV 0 = [.int 0, .int 0] := by decide +kernel
theorem df1 : defV 1 = [.int 0, .int 0] := by decide +kernel
theorem df2 : defV 2 = [.int 0, .int 0] := by decide +kernel
theorem df3 : defV 3 = [.int 0, .int 0, .null, .int 0, .int 0, .null, .null, .null, .null, .int 0] := by decide +kernel
theorem df4 : defV 4 = [.int 0, .int 0] := by decide +kernel
theorem df5 : defV 5 = [.int 0, .int 0] := by decide +kernel
theorem df6 : defV 6 = [.int 0, .null, .null, .null, .null, .null, .null, .null, .int 0, .int 0, .int 0, .null, .null, .null, .null] := by decide +kernel
theorem df7 : defV 7 = [.null, .int 0, .int 0, .null, .null, .null, .int 0, .null, .int 0] := by decide +kernel
theorem df8 : defV 8 = [.int 0, .int 0] := by decide +kernel
theorem df9 : defV 9 = [.int 0, .int 0] := by decide +kernel
theorem df10 : defV 10 = [.null, .int 0] := by decide +kernel
theorem df11 : defV 11 = [.null, .null, .null, .null, .null, .null, .int 0] := by decide +kernel
theorem df12 : defV 12 = [.null, .null, .int 0, .int 0, .int 0, .int 0, .null, .null, .null, .null, .int 0, .null] := by decide +kernel
