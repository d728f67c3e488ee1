def gMo (cd : Nat) (V : Value) (W1 : va_W → Prop) (W2 : va_W) : Option Value → va_W → Prop := fun u w => (cd = 0 ∧ u = some V ∧ W1 w) ∨ (¬ cd = 0 ∧ u = some (.int 0) ∧ w = W2)
theorem gz_not (b : Bool) : 1 - gz b = gz (!b) := by cases b <;> decide
theorem oth_flp (p : Pd) : shw (flp p) = oth p := by
  obtain ⟨a, b, c, d, e, f, g, h⟩ := p
  cases g <;> rfl
theorem shw_flp (p : Pd) : oth (flp p) = shw p := by
  obtain ⟨a, b, c, d, e, f, g, h⟩ := p
  cases g <;> rfl
theorem sprS {wet cover : Nat → Int32} {x y w k : Nat} (h : cover (rcl x y w k) = -1) : sprW wet cover x y w (k + 1) = upd (sprW wet cover x y w k) (rcl x y w k) 12 ∧ cnt (sprF cover x y w) (k + 1) = cnt (sprF cover x y w) k + 1 := by
  have e : sprF cover x y w k = true := decide_eq_true h
  exact ⟨by rw [sprW, if_pos e], cnt_t e⟩
theorem sprN {wet cover : Nat → Int32} {x y w k : Nat} (h : ¬ cover (rcl x y w k) = -1) : sprW wet cover x y w (k + 1) = sprW wet cover x y w k ∧ cnt (sprF cover x y w) (k + 1) = cnt (sprF cover x y w) k := by
  have e : sprF cover x y w k = false := decide_eq_false h
  exact ⟨by rw [sprW, e]; rfl, cnt_f e⟩
theorem ones_1 (b : Bool) : 1 - gz b = if b then 0 else 1 := by cases b <;> decide
