/-! a row of the library's far shelf, told first: so the round goes over the whole library from the start -/
theorem wide_n64 {x : UInt64} : Jvm.Free.Fl.NoNaN64 x ↔ Jvm.FP.Core.dIsNaN x = false := Jvm.Free.Fl.noNaN64_no
