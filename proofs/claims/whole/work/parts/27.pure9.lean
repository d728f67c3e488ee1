theorem sw2 {f : Nat → Int32} {k : Nat} {a b : Int32} (h : b = f k) : upd (upd f k a) k b = f := by
  funext j
  by_cases e : j = k
  · subst e; rw [pk_us, h]
  · rw [pk_un e, pk_un e]
theorem Mrel_flp {np k : Nat} {P : Nat → Pd} {fi le ac se hh ou : Nat → Int32} (h : Mrel np P fi le ac se hh ou) (hk : k < np) : Mrel np (pup P k (flp (P k))) fi le ac (upd se k (hh k)) (upd hh k (se k)) ou := by
  refine ⟨fun j hj => ?_, h.2⟩
  by_cases e : j = k
  · subst e
    obtain ⟨h1, h2, h3, h4, h5, h6⟩ := h.1 j hj
    rw [pup_s, pk_us, pk_us]
    exact ⟨h1, h2, h3, by rw [h5, oth_flp], by rw [h4, shw_flp], h6⟩
  · rw [pup_n e, pk_un e, pk_un e]
    exact h.1 j hj
def pfM (fo : Nat → Int32) (ac : Bool) (line st : Nat) : Bool := decide (fo (if ac then 10 * line + st else 10 * st + line) = 1)
def menM (cover rw0 : Nat → Int32) (a : Nat) (ac : Bool) : Int32 := if cover a = -1 then nI (ndL (pfM (flP cover a (fun _ => 0) rw0).1 ac) (if ac then 10 else 8) (if ac then 8 else 10)) else 0
def gapM (cover rw0 : Nat → Int32) (a : Nat) : Int32 := if cover a = -1 then nI (flP cover a (fun _ => 0) rw0).2.2 else 0
def menW (cover rw0 fo : Nat → Int32) (a : Nat) : (Nat → Int32) × (Nat → Int32) := if cover a = -1 then ((flP cover a (fun _ => 0) rw0).1, (flP cover a (fun _ => 0) rw0).2.1) else (fo, rw0)
def dgm (np hr : Nat) (P : Nat → Pd) (wet cover sun rw0 : Nat → Int32) : Int64 := dgN sun 8 (dgN (dg3 P wet) (8 * np) (dgN (dg2 np P wet cover) 240 (dgN (cntm np hr P wet cover rw0) 8 967)))
