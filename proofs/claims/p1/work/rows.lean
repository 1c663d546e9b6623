section
/-! No step on the way to p1: a fact of its premises. Every start that the Statement allows has loaded the array class of StackTraceElement
(the printed start of witness.lean.txt has no such class in its table, so its row start1.narrow_hold_2 can't be closed: REPORT.md, 'TRANSLATOR'). -/
theorem zz_array_class_is_loaded (args : Array Value) (s : State) (h : (Jvm.Cond.and given_1 narrow_1).before args s = true) : ∃ c, s.vm.findClass "[Ljava/lang/StackTraceElement;" = some c := by
  have hs := flat_of_before _ h
  have hc : (Cond.not (Cond.castable "[Ljava/lang/StackTraceElement;" "java/lang/String")).before args s = true := hs _ (by decide +kernel)
  cases hf : s.vm.findClass "[Ljava/lang/StackTraceElement;" with
  | none => simp [Cond.before, Cond.holds, Cond.value, hf] at hc
  | some c => exact ⟨c, rfl⟩
end
