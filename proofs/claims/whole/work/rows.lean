section
/-! What the statement itself says, for REPORT.md: S1 (the room) and T1 (the witness). No proof of the claim. -/
/-- S1: an end that the claim's first arm allows has at most 7224033 new slots -/
theorem zs_room {tb : Tables} {e : Env} {a : Array Value} {s : State} {o : Outcome} {t : State} (h : Post_1_1 tb e a s o t) : t.slotsUsed ≤ s.slotsUsed + 7224033 := by
  obtain ⟨-, -, -, hq⟩ := h
  obtain ⟨-, -, -, h4, h5, -⟩ := hq
  have h6 : t.slotsUsed = s.slotsUsed + _ := h4
  omega
/-- T1: a start that meets the premises has the class of the trace's array in its table of classes -/
theorem zt_wants {a : Array Value} {s : State} (h : (Jvm.Cond.and given_1 narrow_1).before a s = true) : ∃ c, s.vm.findClass "[Ljava/lang/StackTraceElement;" = some c := by
  have hs := flat_of_before _ h
  have hc : (Cond.not (Cond.castable "[Ljava/lang/StackTraceElement;" "java/lang/String")).before a s = true := hs _ (by decide +kernel)
  cases hf : s.vm.findClass "[Ljava/lang/StackTraceElement;" with
  | some c => exact ⟨c, rfl⟩
  | none => simp [Cond.before, Cond.holds, Cond.value, hf] at hc
end
