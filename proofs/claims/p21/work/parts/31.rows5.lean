/-! what an act changes -/
theorem gz_ge (b : Bool) : 0 ≤ gz b := by cases b <;> decide
theorem gz_nlt (b : Bool) : ¬ gz b < 0 := by cases b <;> decide
theorem shw_col {p : Pd} (h : Pw p) : ∃ a : Nat, a ≤ 6 ∧ shw p = nI a := by
  obtain ⟨-, ⟨a, ha, ea⟩, ⟨b, hb, eb⟩⟩ := h
  rw [shw]
  cases qs p
  · exact ⟨a, ha, ea⟩
  · exact ⟨b, hb, eb⟩
theorem oth_col {p : Pd} (h : Pw p) : ∃ a : Nat, a ≤ 6 ∧ oth p = nI a := by
  obtain ⟨-, ⟨a, ha, ea⟩, ⟨b, hb, eb⟩⟩ := h
  rw [oth]
  cases qs p
  · exact ⟨b, hb, eb⟩
  · exact ⟨a, ha, ea⟩
theorem cdFl_2 {np v : Nat} {P : Nat → Pd} {wet : Nat → Int32} (hn : np ≤ 100) (hv : v < np) (h : cdFl np P wet (nI v) = 2) : lsp (P v) wet = false := by
  rw [cdFl, pIn_t hn hv, if_pos rfl, show vn (nI v) = v from nI_clamp (by omega)] at h
  cases e : lsp (P v) wet
  · rfl
  · rw [e] at h; simp at h
theorem cdTu_t {np v : Nat} {P : Nat → Pd} {wet cover : Nat → Int32} (hv : v < 2 ^ 31) (h : cdTu np P wet cover (nI v) = 0) : lsp (P v) wet = true := by
  obtain ⟨-, c2⟩ := cd0_2 h
  rw [Bool.and_eq_true, show vn (nI v) = v from nI_clamp hv] at c2
  exact c2.1
section W5
variable {cI cP : ClassId} {h np hr v : Nat} {ad : Nat → Nat} {wet cover sun fs mk fd : Nat → Int32} {pcs : Nat → Option Nat} {pa : Nat → Nat} {P : Nat → Pd} {Y : va_W}
theorem Wtu2 (J : JV np wet cover sun P pcs pa) (hv : v < np) (hc : cdTu np P wet cover (nI v) = 0) : Wtu cI cP h ad np hr wet (setL (setL cover (pcl (P v)) (-1) (ql (P v))) (pcl (trn (P v))) (nI v) (ql (P v))) sun fs mk fd pcs pa (pup P v (trn (P v))) Y v = Wm cI cP h ad np hr wet cover sun fs mk fd pcs pa P Y := by
  obtain ⟨⟨l1, -⟩, hcl, hb⟩ := jv_turn J hv hc
  have e := turn2 J.1 hv J.2.1 J.2.2.2.1 (lsp_o l1) hcl (fun j hj => (hb j hj).2)
  rw [Wtu, pup_s, trn2, pup_pup, pup_same]
  exact congrArg (fun t => Wm cI cP h ad np hr wet t sun fs mk fd pcs pa P Y) e
theorem flip_le (J : JV np wet cover sun P pcs pa) (hv : v < np) (hl : lsp (P v) wet = true) : ∀ c, c < 80 → wet c - decL wet (pcl (P v)) (ql (P v)) c = 0 ∨ (wet c - decL wet (pcl (P v)) (ql (P v)) c = 1 ∧ cover c = nI v) := by
  intro c hc
  rcases inout (P v) c with hi | hi
  · rw [decL_in (cl := pcl (P v)) (fun i j e => cel_inj e) hi]
    refine Or.inr ⟨?_, (J.2.2.2.1.2 v hv c hc).mpr ⟨lsp_o hl, hi⟩⟩
    obtain ⟨j, hj, hjc⟩ := hi
    have h1 := lsp_1 hl j hj
    rw [hjc] at h1
    rcases J.2.2.2.2.1 c hc with e | ⟨w, hw, e⟩
    · rw [e] at h1; exact absurd h1 (by decide)
    · rw [e] at h1 ⊢
      rw [show (1 : Int32) = nI 1 from rfl, nI_leI (by omega) (by omega)] at h1
      rw [sub1N w h1, pk_sub (by omega), show w - (w - 1) = 1 by omega]
      rfl
  · rw [decL_out hi]; exact Or.inl (Int32.sub_self _)
theorem take_le : ∀ c, c < 80 → wet c - (if lsp (P v) wet = true then wet else setL wet (pcl (P v)) (-1) (ql (P v))) c = 0 ∨ (lsp (P v) wet = false ∧ (if lsp (P v) wet = true then wet else setL wet (pcl (P v)) (-1) (ql (P v))) c = -1) := by
  intro c hc
  cases e : lsp (P v) wet
  · rw [if_neg (by decide)]
    rcases inout (P v) c with hi | hi
    · exact Or.inr ⟨rfl, setL_in hi⟩
    · rw [setL_out hi]; exact Or.inl (Int32.sub_self _)
  · rw [if_pos rfl]; exact Or.inl (Int32.sub_self _)
end W5
