section CALL2
variable {T : pm_T} {K : pm_K} {cR : Nat → ClassId} {D : va_G} {M : pm_I} {pc : Nat}
theorem pm_back_of {cont : Nat → pm_L → List Value → pm_H → pm_R} {nx : Nat} {L : pm_L} {rest : List Value} {h h' : pm_H} {o : pm_R} {r : Option Value} (hb : pm_back cont nx L rest h o = some (r, h')) :
    ∃ (r2 : Option Value) (h2 : pm_H), o = some (r2, h2) ∧ (rest.map fun v => v.category).sum ≤ 8 ∧ (h2.length = h.length ∨ (pm_rL h.length h2.length L = true ∧ pm_rS h.length h2.length rest = true)) ∧ cont nx L (r2.toList ++ rest) h2 = some (r, h') := by
  unfold pm_back at hb
  split at hb
  · next r2 h2 =>
    split at hb
    · next hc => exact ⟨r2, h2, rfl, hc.1, hc.2, hb⟩
    · cases hb
  · cases hb
theorem pm_good {big : List Cond} (h : ∀ w ∈ big, w ∈ pm_w) : GoodIn pm_w big := fun w hw => ⟨h w hw, pm_w_good w (h w hw)⟩
/-- what a call of a method asks of its words and of the room -/
def pm_lk (M : pm_I) (t : MethodName × pm_I) (n : Nat) : Prop := Cond.code t.1 t.2.2.1 t.2.2.2.1 t.2.2.2.2.1 ∈ pm_w ∧ Cond.initialized t.1.cls ∈ pm_w ∧ (t.1.cls ≠ "java/lang/invoke/MethodHandle" ∧ t.1.cls ≠ "java/lang/invoke/VarHandle" ∧ (parseMethodDescriptor t.1.desc).map (fun d => d.parameters.length) = some n) ∧ t.2.2.2.2.2.2.1 + 1 ≤ M.2.2.2.2.2.1 ∧ 8 + (t.2.2.2.1 + 11) + t.2.2.2.2.2.2.2 ≤ M.2.2.2.2.2.2
theorem pm_ws_in {t : MethodName × pm_I} (h : Cond.code t.1 t.2.2.1 t.2.2.2.1 t.2.2.2.2.1 ∈ pm_w) : ∀ w ∈ pm_ws t, w ∈ pm_w := fun w hw => by
  rcases List.mem_cons.mp hw with rfl | z
  · exact h
  · exact z
end CALL2
