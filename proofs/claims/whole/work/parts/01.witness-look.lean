/-! Why the printed witness can't stand: whatever meets narrow_1_2 lists the class of StackTraceElement's arrays; the start that the printed witness builds doesn't list it. -/
theorem wl_need {args : Array Value} {s : State} (h : narrow_1_2.before args s = true) : ∃ c, s.vm.findClass "[Ljava/lang/StackTraceElement;" = some c := by
  have hc := flat_of_before _ h (Cond.not (Cond.castable "[Ljava/lang/StackTraceElement;" "java/util/List")) (by decide +kernel)
  cases hf : s.vm.findClass "[Ljava/lang/StackTraceElement;" with
  | some c => exact ⟨c, rfl⟩
  | none => simp [Cond.before, Cond.holds, Cond.value, hf] at hc
