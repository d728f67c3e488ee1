/-! small rows for the law's walk -/
theorem gz_and (a b : Bool) : gz a &&& gz b = gz (a && b) := by cases a <;> cases b <;> decide
theorem k_law_d80 : Cond.constantDouble RL 106 4635329916471083008 ∈ wsL_law := by decide +kernel
theorem k_law_x0 : Cond.methodLink RL 68 Lib.Math.max.name ∈ wsL_law := by decide +kernel
theorem k_law_x1 : Cond.static Lib.Math.max.name ∈ wsL_law := by decide +kernel
theorem k_law_x2 : Cond.initialized "java/lang/Math" ∈ wsL_law := by decide +kernel
theorem k_law_x3 : Cond.code Lib.Math.max.name Lib.Math.max.code 2 (some .int) ∈ wsL_law := by decide +kernel
theorem maxN {np : Nat} (hn : np ≤ 100) : ∃ M : Nat, 1 ≤ M ∧ M ≤ 100 ∧ (0 < np → M = np) ∧ (if (1 : Int32) < nI np then nI np else 1) = nI M := by
  by_cases h : 1 < np
  · exact ⟨np, by omega, hn, fun _ => rfl, if_pos (by rw [show (1 : Int32) = nI 1 from rfl, nI_ltI (by omega) (by omega)]; exact h)⟩
  · exact ⟨1, by omega, by omega, fun h0 => by omega, if_neg (by rw [show (1 : Int32) = nI 1 from rfl, nI_ltI (by omega) (by omega)]; exact h)⟩
theorem mat_step {F : Nat → Nat → Int32} {g : Nat → Int32} {x y : Nat} {v : Int32} (h : ∀ i j, (i < x ∧ j ≤ 7) ∨ (i = x ∧ j < y) → F i j = g (10 * j + i)) (hv : v = g (10 * y + x)) : ∀ i j, (i < x ∧ j ≤ 7) ∨ (i = x ∧ j < y + 1) → updF F x (upd (F x) y v) i j = g (10 * j + i) := by
  intro i j hij
  by_cases e : i = x
  · subst e
    rw [updF_s]
    by_cases e2 : j = y
    · subst e2; rw [pk_us]; exact hv
    · rw [pk_un e2]; exact h i j (by omega)
  · rw [updF_n e]; exact h i j (by omega)
