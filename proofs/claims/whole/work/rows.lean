section
/-! What the printed witness runs into: a start among whose tables the array of StackTraceElement isn't can't meet this claim's premises. -/
theorem wi_and_left {a b : Cond} {args : Array Value} {s : State} (h : a.before args s = false) : (Cond.and a b).before args s = false := by
  rw [Cond.before_and, h, Bool.false_and]
theorem wi_and_right {a b : Cond} {args : Array Value} {s : State} (h : b.before args s = false) : (Cond.and a b).before args s = false := by
  rw [Cond.before_and, h, Bool.and_false]
theorem wi_no_cast {n t : String} {args : Array Value} {s : State} (h : s.vm.findClass n = none) : (Cond.not (Cond.castable n t)).before args s = false := by
  have h1 : Cond.value args s none s [] (Cond.castable n t) = none := by
    show (match s.vm.findClass n, s.vm.findClass t with
      | some c, some t => some (s.vm.assignable c t)
      | _, _ => none) = none
    rw [h]
  show (((Cond.value args s none s [] (Cond.castable n t)).map (!·)) == some true) = false
  rw [h1]
  rfl
theorem wi_needs_the_array (args : Array Value) (s : State) (h : s.vm.findClass "[Ljava/lang/StackTraceElement;" = none) : (Cond.and given_1 narrow_1).before args s = false := by
  refine wi_and_right ?_
  delta narrow_1
  exact wi_and_left (wi_and_right (wi_and_left (wi_and_right (wi_and_right (wi_and_right (wi_and_left (wi_and_right (wi_no_cast h))))))))
theorem wi_not_met (tb : Jvm.Tables) (e : Jvm.Env) (args : Array Value) (s : State) (h : s.vm.findClass "[Ljava/lang/StackTraceElement;" = none) (hp : Pre_1 tb e args s) : False := by
  have h1 : (Cond.and given_1 narrow_1).before args s = true := hp
  rw [wi_needs_the_array args s h] at h1
  exact absurd h1 (by decide)
end
