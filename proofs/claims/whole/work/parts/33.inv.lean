/-! what holds between two calls -/
def SunOk (sun : Nat → Int32) : Prop := ∀ i, i < 8 → ∃ k : Nat, k ≤ 4 ∧ sun i = nI k
def WQ (x : Int32) : Prop := x = -1 ∨ ∃ w : Nat, w ≤ 12 ∧ x = nI w
def CQ (np : Nat) (x : Int32) : Prop := x = -1 ∨ ∃ k, k < np ∧ x = nI k
def IV (N np hr : Nat) (wet cover sun : Nat → Int32) (P : Nat → Pd) (fi le ac se hh ou : Nat → Int32) (pcs : Nat → Option Nat) (pa : Nat → Nat) : Prop :=
  np ≤ 100 ∧ Pok np P ∧ Mrel np P fi le ac se hh ou ∧ CovOk np cover ∧ WetOk wet ∧ SunOk sun ∧ hr ≤ 100 * N ∧ ∀ k, k < np → pcs k = some (pa k)
theorem upd_q {Q : Int32 → Prop} {N : Nat} {f : Nat → Int32} {k : Nat} {v : Int32} (h : ∀ c, c < N → Q (f c)) (hv : Q v) : ∀ c, c < N → Q (upd f k v c) := by
  intro c hc
  by_cases e : c = k
  · subst e; rw [pk_us]; exact hv
  · rw [pk_un e]; exact h c hc
theorem setL_q {Q : Int32 → Prop} {N : Nat} {f : Nat → Int32} {cl : Nat → Nat} {v : Int32} (h : ∀ c, c < N → Q (f c)) (hv : Q v) : ∀ n, ∀ c, c < N → Q (setL f cl v n c) := by
  intro n
  induction n with
  | zero => exact h
  | succ n ih => exact upd_q ih hv
theorem spr_q {wet cover : Nat → Int32} {x y w : Nat} (h : WetOk wet) : ∀ n, WetOk (sprW wet cover x y w n) := by
  intro n
  induction n with
  | zero => exact h
  | succ n ih =>
    rw [sprW]
    split
    · exact upd_q (Q := WQ) ih (Or.inr ⟨12, Nat.le_refl _, rfl⟩)
    · exact ih
theorem cel_inj {x y : Nat} {ac : Bool} {i j : Nat} (h : cel x y ac i = cel x y ac j) : i = j := by
  cases ac
  · simp only [cel, Bool.false_eq_true, if_false] at h; omega
  · simp only [cel, if_true] at h; omega
theorem decL_q {f : Nat → Int32} {cl : Nat → Nat} {N : Nat} (hc : ∀ i j, cl i = cl j → i = j) (h1 : ∀ j, j < N → 1 ≤ f (cl j)) (h8 : ∀ j, j < N → cl j < 80) (hf : WetOk f) : ∀ n, n ≤ N → WetOk (decL f cl n) ∧ ∀ j, n ≤ j → decL f cl n (cl j) = f (cl j) := by
  intro n
  induction n with
  | zero => intro _; exact ⟨hf, fun _ _ => rfl⟩
  | succ n ih =>
    intro hn
    obtain ⟨a, b⟩ := ih (by omega)
    refine ⟨?_, fun j hj => ?_⟩
    · rw [decL, b n (Nat.le_refl n)]
      refine upd_q (Q := WQ) a ?_
      have h9 := h1 n (by omega)
      rcases hf (cl n) (h8 n (by omega)) with e | ⟨w, hw, e⟩
      · rw [e] at h9; exact absurd h9 (by decide)
      · rw [e] at h9 ⊢
        rw [fa_le, nI_toInt (by omega)] at h9
        have e1 : (1 : Int32).toInt = 1 := rfl
        exact Or.inr ⟨w - 1, by omega, sub1N w (by omega)⟩
    · rw [decL, pk_un (fun e => by have := hc _ _ e; omega)]
      exact b j (by omega)
theorem dry_v : ∀ w, w < 13 → ∀ k, k < 5 → (if 0 < nI w - nI k then nI w - nI k else 0) = nI (w - k) := by decide +kernel
theorem dry_q {f cover : Nat → Int32} {less : Int32} {ev : Bool} {k : Nat} (hk : k ≤ 4) (hl : less = nI k) (h : WetOk f) : WetOk (dry1 f cover less ev) := by
  intro c hc
  rw [dry1]
  split
  · rename_i h9
    rcases h c hc with e | ⟨w, hw, e⟩
    · rw [e] at h9; exact absurd h9.1 (by decide)
    · rw [e, hl, dry_v w (by omega) k (by omega)]
      exact Or.inr ⟨w - k, by omega, rfl⟩
  · exact h c hc
theorem wetN_q {wet cover sun : Nat → Int32} {hr : Nat} (h : WetOk wet) (hs : SunOk sun) : ∀ n, WetOk (wetN wet cover sun hr n) := by
  intro n
  induction n with
  | zero => exact h
  | succ n ih =>
    obtain ⟨k, hk, e⟩ := hs ((hr + n) % 8) (Nat.mod_lt _ (by omega))
    exact dry_q hk e ih
theorem cd0_2 {a b : Bool} (h : (if a then (if b then 0 else 2) else 1) = 0) : a = true ∧ b = true := by cases a <;> cases b <;> simp at h ⊢
theorem cd0_3 {a b c : Bool} (h : (if a then (if b then (if c then 0 else 3) else 2) else 1) = 0) : a = true ∧ b = true ∧ c = true := by cases a <;> cases b <;> cases c <;> simp at h ⊢
theorem cd0_1 {a : Bool} (h : (if a then 0 else 1) = 0) : a = true := by cases a <;> simp at h ⊢
section IVs
variable {N np hr : Nat} {wet cover sun : Nat → Int32} {P : Nat → Pd} {fi le ac se hh ou : Nat → Int32} {pcs : Nat → Option Nat} {pa : Nat → Nat}
theorem iv_0 (h : IV N np hr wet cover sun P fi le ac se hh ou pcs pa) : IV (N + 1) np hr wet cover sun P fi le ac se hh ou pcs pa := by
  obtain ⟨h1, h2, h3, h4, h5, h6, h7, h8⟩ := h
  exact ⟨h1, h2, h3, h4, h5, h6, by omega, h8⟩
theorem iv_spread (h : IV N np hr wet cover sun P fi le ac se hh ou pcs pa) (x y w n : Nat) : IV (N + 1) np hr (sprW wet cover x y w n) cover sun P fi le ac se hh ou pcs pa := by
  obtain ⟨h1, h2, h3, h4, h5, h6, h7, h8⟩ := h
  exact ⟨h1, h2, h3, h4, spr_q h5 n, h6, by omega, h8⟩
theorem iv_sun (h : IV N np hr wet cover sun P fi le ac se hh ou pcs pa) {v s9 : Int32} (hc : cdSu v s9 = 0) : IV (N + 1) np hr wet cover (putv 8 sun v s9) P fi le ac se hh ou pcs pa := by
  obtain ⟨h1, h2, h3, h4, h5, h6, h7, h8⟩ := h
  obtain ⟨-, c2⟩ := cd0_2 hc
  obtain ⟨j, hj, rfl⟩ := inR_nI (n := 4) rfl c2
  refine ⟨h1, h2, h3, h4, h5, ?_, by omega, h8⟩
  rw [putv]
  split
  · exact upd_q (Q := fun x => ∃ k : Nat, k ≤ 4 ∧ x = nI k) h6 ⟨j, hj, rfl⟩
  · exact h6
theorem iv_press (h : IV N np hr wet cover sun P fi le ac se hh ou pcs pa) {x y ln f b : Int32} {a9 : Bool} (hc : cdPr np wet cover x y ln a9 f b = 0) (q : Nat) : IV (N + 1) (np + 1) hr wet (setL cover (pcl (vn x, vn y, vn ln, f, b, a9, false, false)) (nI np) (vn ln)) sun (pup P np (vn x, vn y, vn ln, f, b, a9, false, false)) (upd fi np (nI (10 * vn y + vn x))) (upd le np (nI (vn ln))) (upd ac np (gz a9)) (upd se np f) (upd hh np b) ou (va_up pcs np (some q)) (va_up pa np q) := by
  obtain ⟨h1, h2, h3, h4, h5, h6, h7, h8⟩ := h
  obtain ⟨c1, c2, c3⟩ := cd0_3 hc
  rw [Bool.and_eq_true] at c2 c3
  have hn := inR99 h1 c3.1
  obtain ⟨n, hn1, hn2, rfl⟩ := inR1_of (N := 3) rfl (by decide) c2.1
  obtain ⟨x9, y9, hx, hy, rfl, rfl⟩ := onW_nat c1
  have hcx : vn (nI x9) = x9 := nI_clamp (by omega)
  have hcy : vn (nI y9) = y9 := nI_clamp (by omega)
  have hcn : vn (nI n) = n := nI_clamp (by omega)
  rw [hcx, hcy, hcn] at c3 ⊢
  refine ⟨by omega, fun k hk => ?_, ⟨fun k hk => ?_, fun k hk hk2 => h3.2 k (by omega) hk2⟩, ?_, h5, h6, by omega, fun k hk => ?_⟩
  · by_cases e : k = np
    · subst e; rw [pup_s]
      exact ⟨hn1, hn2, hx, hy, hrm_cel hx hy hn2 c3.2⟩
    · rw [pup_n e]; exact h2 k (by omega)
  · by_cases e : k = np
    · subst e; rw [pup_s, pk_us, pk_us, pk_us, pk_us, pk_us]
      exact ⟨rfl, rfl, rfl, rfl, rfl, h3.2 k (Nat.le_refl k) (by omega)⟩
    · rw [pup_n e]; simp only [pk_un e]; exact h3.1 k (by omega)
  · refine setL_q (Q := CQ (np + 1)) (fun c hc => ?_) (Or.inr ⟨np, by omega, rfl⟩) n
    rcases h4 c hc with e | ⟨k, hk, e⟩
    · exact Or.inl e
    · exact Or.inr ⟨k, by omega, e⟩
  · by_cases e : k = np
    · subst e; rw [va_up_self, va_up_self]
    · rw [va_up_ne _ _ e, va_up_ne _ _ e]; exact h8 k (by omega)
theorem lsp_1 {p : Pd} {f : Nat → Int32} (h : lsp p f = true) : ∀ j, j < ql p → 1 ≤ f (pcl p j) := by
  rw [lsp, lse, Bool.and_eq_true] at h
  intro j hj
  exact of_decide_eq_true (allB_iff.mp h.2 j hj)
theorem iv_flip (h : IV N np hr wet cover sun P fi le ac se hh ou pcs pa) {v : Int32} (hc : cdFl np P wet v = 0) : IV (N + 1) np hr (decL wet (pcl (P (vn v))) (ql (P (vn v)))) cover sun (pup P (vn v) (flp (P (vn v)))) fi le ac (upd se (vn v) (hh (vn v))) (upd hh (vn v) (se (vn v))) ou pcs pa := by
  obtain ⟨h1, h2, h3, h4, h5, h6, h7, h8⟩ := h
  obtain ⟨c1, c2⟩ := cd0_2 hc
  obtain ⟨k, hk, rfl⟩ := inR_np (by omega) c1
  have hck : vn (nI k) = k := nI_clamp (by omega)
  rw [hck] at c2 ⊢
  have hg := h2 k hk
  refine ⟨h1, fun j hj => ?_, Mrel_flp h3 hk, h4, (decL_q (fun i j e => cel_inj e) (lsp_1 c2) hg.2.2.2.2 h5 _ (Nat.le_refl _)).1, h6, by omega, h8⟩
  by_cases e : j = k
  · subst e; rw [pup_s]; exact hg
  · rw [pup_n e]; exact h2 j hj
theorem shw_trn (p : Pd) : shw (trn p) = shw p := rfl
theorem oth_trn (p : Pd) : oth (trn p) = oth p := rfl
theorem iv_turn (h : IV N np hr wet cover sun P fi le ac se hh ou pcs pa) {v : Int32} (hc : cdTu np P wet cover v = 0) : IV (N + 1) np hr wet (setL (setL cover (pcl (P (vn v))) (-1) (ql (P (vn v)))) (pcl (trn (P (vn v)))) v (ql (P (vn v)))) sun (pup P (vn v) (trn (P (vn v)))) fi le (upd ac (vn v) (gz (!qc (P (vn v))))) se hh ou pcs pa := by
  obtain ⟨h1, h2, h3, h4, h5, h6, h7, h8⟩ := h
  obtain ⟨c1, c2⟩ := cd0_2 hc
  rw [Bool.and_eq_true] at c2
  obtain ⟨k, hk, rfl⟩ := inR_np (by omega) c1
  have hck : vn (nI k) = k := nI_clamp (by omega)
  rw [hck] at c2 ⊢
  obtain ⟨g1, g2, g3, g4, g5⟩ := h2 k hk
  refine ⟨h1, fun j hj => ?_, ⟨fun j hj => ?_, h3.2⟩, ?_, h5, h6, by omega, h8⟩
  · by_cases e : j = k
    · subst e; rw [pup_s]
      exact ⟨g1, g2, g3, g4, hrm_cel g3 g4 g2 c2.2⟩
    · rw [pup_n e]; exact h2 j hj
  · by_cases e : j = k
    · subst e; rw [pup_s, pk_us]
      obtain ⟨m1, m2, m3, m4, m5, m6⟩ := h3.1 j hj
      exact ⟨m1, m2, rfl, m4, m5, m6⟩
    · rw [pup_n e, pk_un e]; exact h3.1 j hj
  · exact setL_q (Q := CQ np) (setL_q (Q := CQ np) h4 (Or.inl rfl) _) (Or.inr ⟨k, hk, rfl⟩) _
theorem iv_take (h : IV N np hr wet cover sun P fi le ac se hh ou pcs pa) {v : Int32} (hc : cdTa np P v = 0) : IV (N + 1) np hr (if lsp (P (vn v)) wet = true then wet else setL wet (pcl (P (vn v))) (-1) (ql (P (vn v)))) (setL cover (pcl (P (vn v))) (-1) (ql (P (vn v)))) sun (pup P (vn v) (tko (P (vn v)))) fi le ac se hh (upd ou (vn v) 1) pcs pa := by
  obtain ⟨h1, h2, h3, h4, h5, h6, h7, h8⟩ := h
  have c1 : pIn np v = true := by
    rw [cdTa] at hc
    cases e : pIn np v
    · rw [e] at hc; simp at hc
    · rfl
  obtain ⟨k, hk, rfl⟩ := inR_np (by omega) c1
  have hck : vn (nI k) = k := nI_clamp (by omega)
  rw [hck]
  have hg := h2 k hk
  refine ⟨h1, fun j hj => ?_, ⟨fun j hj => ?_, fun j hj hj2 => ?_⟩, setL_q (Q := CQ np) h4 (Or.inl rfl) _, ?_, h6, by omega, h8⟩
  · by_cases e : j = k
    · subst e; rw [pup_s]; exact hg
    · rw [pup_n e]; exact h2 j hj
  · by_cases e : j = k
    · subst e; rw [pup_s, pk_us]
      obtain ⟨m1, m2, m3, m4, m5, m6⟩ := h3.1 j hj
      exact ⟨m1, m2, m3, m4, m5, rfl⟩
    · rw [pup_n e, pk_un e]; exact h3.1 j hj
  · rw [pk_un (by omega)]; exact h3.2 j hj hj2
  · split
    · exact h5
    · exact setL_q (Q := WQ) h5 (Or.inl rfl) _
theorem iv_pass (h : IV N np hr wet cover sun P fi le ac se hh ou pcs pa) {v : Int32} (hc : cdPa v = 0) : IV (N + 1) np (hr + vn v) (wetN wet cover sun hr (vn v)) cover sun P fi le ac se hh ou pcs pa := by
  obtain ⟨h1, h2, h3, h4, h5, h6, h7, h8⟩ := h
  have c1 := cd0_1 hc
  obtain ⟨n, hn1, hn2, rfl⟩ := inR1_of (N := 100) rfl (by decide) c1
  have hcn : vn (nI n) = n := nI_clamp (by omega)
  rw [hcn]
  exact ⟨h1, h2, h3, h4, wetN_q h5 h6 _, h6, by omega, h8⟩
end IVs
