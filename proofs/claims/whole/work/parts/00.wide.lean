/-! ===== arrays of arrays: the rest of the library is read from here on ===== -/
theorem zwide_ {s U : State} (h : s.vm.Alike U.vm) (q : (Cond.arrayOver (.array .int)).before #[] s = true) : (Cond.arrayOver (.array .int)).before #[] U = true := arrayOver_alikeB h q
