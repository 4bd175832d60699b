section
/-! REPORT.md, T1: the printed premises can't be met by a start whose tables lack the class of StackTraceElement's arrays -/
theorem ta_and {args : Array Value} {first : State} {o : Option Outcome} {s : State} {idx : List Nat} {a b : Cond}
    (h : Cond.value args first o s idx (.and a b) = some true) : Cond.value args first o s idx a = some true ∧ Cond.value args first o s idx b = some true := by
  simp only [Cond.value] at h
  split at h
  · rename_i ha
    exact ⟨ha, h⟩
  · rename_i hn
    exact absurd h hn
theorem ta_castable (args : Array Value) (first s : State) (o : Option Outcome) (idx : List Nat) (a b : String) (h : s.vm.findClass a = none) :
    Cond.value args first o s idx (.not (.castable a b)) = none := by
  simp only [Cond.value, h, Option.map]
theorem ta_narrow (args : Array Value) (s : State) (h : s.vm.findClass "[Ljava/lang/StackTraceElement;" = none) : narrow_1_1.before args s = false := by
  cases hb : narrow_1_1.before args s with
  | false => rfl
  | true =>
    have h0 : Cond.value args s none s [] narrow_1_1 = some true := by
      unfold Cond.before Cond.holds at hb
      exact eq_of_beq hb
    have h1 := (ta_and h0).2
    have h2 := (ta_and h1).2
    have h3 := (ta_and h2).2
    have h4 := (ta_and h3).1
    have h5 := (ta_and h4).1
    have h6 := (ta_and h5).2
    have h7 := (ta_and h6).1
    have h8 := (ta_and h7).2
    have h9 := (ta_and h8).2
    have hc := ta_castable args s s none [] "[Ljava/lang/StackTraceElement;" "java/lang/String" h
    rw [hc] at h9
    exact absurd h9 (by simp)
end
