theorem upd_z {g : Nat → Int32} {i : Nat} (h : ∀ c, c < i → g c = 0) : ∀ c, c < i + 1 → upd g i 0 c = 0 := by
  intro c hc
  by_cases e : c = i
  · subst e; exact pk_us
  · rw [pk_un e]; exact h c (by omega)
/-- gaps: a state is marks, found, how many -/
abbrev Sg : Type := (Nat → Int32) × (Nat → Int32) × Nat
def rchT (cover mk : Nat → Int32) (x y : Int32) : Bool := onW x y && (decide (atv 80 cover (10 * y + x) = -1) && decide (atv 80 mk (10 * y + x) = 0))
def rch (cover : Nat → Int32) (x y : Int32) (S : Sg) : Sg := if rchT cover S.1 x y then (putv 80 S.1 (10 * y + x) 1, putv 80 S.2.1 (nI S.2.2) (10 * y + x), S.2.2 + 1) else S
theorem rch_n (cover : Nat → Int32) (x y : Int32) (S : Sg) : S.2.2 ≤ (rch cover x y S).2.2 ∧ (rch cover x y S).2.2 ≤ S.2.2 + 1 := by
  rw [rch]; split <;> simp
def mg1 (cover : Nat → Int32) (c : Int32) (S : Sg) : Sg := rch cover (c - c / 10 * 10) (c / 10 + 1) (rch cover (c - c / 10 * 10) (c / 10 - 1) (rch cover (c - c / 10 * 10 + 1) (c / 10) (rch cover (c - c / 10 * 10 - 1) (c / 10) S)))
theorem mg1_n (cover : Nat → Int32) (c : Int32) (S : Sg) : S.2.2 ≤ (mg1 cover c S).2.2 ∧ (mg1 cover c S).2.2 ≤ S.2.2 + 4 := by
  rw [mg1]
  have h1 := rch_n cover (c - c / 10 * 10 - 1) (c / 10) S
  have h2 := rch_n cover (c - c / 10 * 10 + 1) (c / 10) (rch cover (c - c / 10 * 10 - 1) (c / 10) S)
  have h3 := rch_n cover (c - c / 10 * 10) (c / 10 - 1) (rch cover (c - c / 10 * 10 + 1) (c / 10) (rch cover (c - c / 10 * 10 - 1) (c / 10) S))
  have h4 := rch_n cover (c - c / 10 * 10) (c / 10 + 1) (rch cover (c - c / 10 * 10) (c / 10 - 1) (rch cover (c - c / 10 * 10 + 1) (c / 10) (rch cover (c - c / 10 * 10 - 1) (c / 10) S)))
  omega
def mgL (cover : Nat → Int32) : Nat → Nat → Sg → Sg
  | 0, _, S => S
  | f + 1, i, S => if i < S.2.2 ∧ i < 80 then mgL cover f (i + 1) (mg1 cover (S.2.1 i) S) else S
theorem mgL_end {cover : Nat → Int32} {i : Nat} {S : Sg} (hi : i ≤ 80) (h : ¬ (i < S.2.2 ∧ i < 80)) : mgL cover (81 - i) i S = S := by
  rw [show 81 - i = (80 - i) + 1 by omega, mgL, if_neg h]
theorem mgL_step {cover : Nat → Int32} {i : Nat} {S : Sg} (h1 : i < S.2.2) (h2 : i < 80) : mgL cover (81 - i) i S = mgL cover (81 - (i + 1)) (i + 1) (mg1 cover (S.2.1 i) S) := by
  rw [show 81 - i = (81 - (i + 1)) + 1 by omega, mgL, if_pos ⟨h1, h2⟩]
theorem mgL_n (cover : Nat → Int32) : ∀ (f i : Nat) (S : Sg), (mgL cover f i S).2.2 ≤ S.2.2 + 4 * f := by
  intro f
  induction f with
  | zero => intro i S; exact Nat.le_refl _
  | succ f ih =>
    intro i S
    rw [mgL]
    split
    · have h1 := ih (i + 1) (mg1 cover (S.2.1 i) S)
      have h2 := mg1_n cover (S.2.1 i) S
      omega
    · omega
def mgp (cover : Nat → Int32) (x y : Int32) (mk fd : Nat → Int32) : Sg := mgL cover 81 0 (rch cover x y (mk, fd, 0))
theorem mgp_n (cover : Nat → Int32) (x y : Int32) (mk fd : Nat → Int32) : (mgp cover x y mk fd).2.2 ≤ 400 := by
  have h1 := mgL_n cover 81 0 (rch cover x y (mk, fd, 0))
  have h2 := rch_n cover x y (mk, fd, 0)
  rw [mgp]
  have : ((mk, fd, 0) : Sg).2.2 = 0 := rfl
  omega
/-- all gaps: how many, marks, found -/
def gpS (cover fd0 : Nat → Int32) : Nat → Nat × (Nat → Int32) × (Nat → Int32)
  | 0 => (0, fun _ => 0, fd0)
  | c + 1 => ((gpS cover fd0 c).1 + (if 0 < (mgp cover (nI (c % 10)) (nI (c / 10)) (gpS cover fd0 c).2.1 (gpS cover fd0 c).2.2).2.2 then 1 else 0), (mgp cover (nI (c % 10)) (nI (c / 10)) (gpS cover fd0 c).2.1 (gpS cover fd0 c).2.2).1, (mgp cover (nI (c % 10)) (nI (c / 10)) (gpS cover fd0 c).2.1 (gpS cover fd0 c).2.2).2.1)
theorem gpS_n (cover fd0 : Nat → Int32) (n : Nat) : (gpS cover fd0 n).1 ≤ n := by
  induction n with
  | zero => exact Nat.le_refl 0
  | succ n ih => rw [gpS]; dsimp only; split <;> omega
theorem gpS_xy (cover fd0 : Nat → Int32) {x y : Nat} (hx : x < 10) : gpS cover fd0 (10 * y + x + 1) = ((gpS cover fd0 (10 * y + x)).1 + (if 0 < (mgp cover (nI x) (nI y) (gpS cover fd0 (10 * y + x)).2.1 (gpS cover fd0 (10 * y + x)).2.2).2.2 then 1 else 0), (mgp cover (nI x) (nI y) (gpS cover fd0 (10 * y + x)).2.1 (gpS cover fd0 (10 * y + x)).2.2).1, (mgp cover (nI x) (nI y) (gpS cover fd0 (10 * y + x)).2.1 (gpS cover fd0 (10 * y + x)).2.2).2.1) := by
  rw [gpS, show (10 * y + x) % 10 = x by omega, show (10 * y + x) / 10 = y by omega]
/-- pieces for marked lines -/
def ndI (g : Nat → Bool) : Nat → Nat × Nat
  | 0 => (0, 0)
  | t + 1 => if g t then ((ndI g t).1 + (if (ndI g t).2 % 3 = 0 then 1 else 0), (ndI g t).2 + 1) else ((ndI g t).1, 0)
theorem ndI_le (g : Nat → Bool) (t : Nat) : (ndI g t).1 ≤ t ∧ (ndI g t).2 ≤ t := by
  induction t with
  | zero => exact ⟨Nat.le_refl 0, Nat.le_refl 0⟩
  | succ t ih => rw [ndI]; split <;> dsimp only <;> (try split) <;> omega
def ndL (g : Nat → Nat → Bool) (st : Nat) : Nat → Nat
  | 0 => 0
  | i + 1 => ndL g st i + (ndI (g i) st).1
theorem ndL_le (g : Nat → Nat → Bool) (st i : Nat) : ndL g st i ≤ st * i := by
  induction i with
  | zero => exact Nat.zero_le _
  | succ i ih => rw [ndL, Nat.mul_succ]; have := ndI_le (g i) st; omega
def pfg (mk : Nat → Int32) (ac : Bool) (line st : Nat) : Bool := decide (mk (if ac then 10 * line + st else 10 * st + line) ≠ 0)
def pfm (mk : Nat → Int32) (ac : Bool) : Nat := ndL (pfg mk ac) (if ac then 10 else 8) (if ac then 8 else 10)
/-- an hour's drying -/
def dry1 (f cover : Nat → Int32) (less : Int32) (ev : Bool) (c : Nat) : Int32 := if 1 ≤ f c ∧ (cover c = -1 ∨ ev = true) then (if 0 < f c - less then f c - less else 0) else f c
theorem lo_keep {g F f : Nat → Int32} {i : Nat} (hlo : ∀ c, c < i → g c = F c) (hhi : ∀ c, i ≤ c → g c = f c) (h : F i = f i) : ∀ c, c < i + 1 → g c = F c := by
  intro c hc
  rcases Nat.lt_succ_iff_lt_or_eq.mp hc with q | q
  · exact hlo c q
  · rw [q, h]; exact hhi i (Nat.le_refl i)
theorem lo_put {g F : Nat → Int32} {i : Nat} {v : Int32} (hlo : ∀ c, c < i → g c = F c) (h : F i = v) : ∀ c, c < i + 1 → upd g i v c = F c := by
  intro c hc
  rcases Nat.lt_succ_iff_lt_or_eq.mp hc with q | q
  · rw [pk_un (by omega)]; exact hlo c q
  · rw [q, pk_us, h]
theorem hi_put {g f : Nat → Int32} {i : Nat} {v : Int32} (hhi : ∀ c, i ≤ c → g c = f c) : ∀ c, i + 1 ≤ c → upd g i v c = f c := by
  intro c hc
  rw [pk_un (by omega)]; exact hhi c (by omega)
/-- the first n of some places set -/
def setL (f : Nat → Int32) (cl : Nat → Nat) (v : Int32) : Nat → Nat → Int32
  | 0 => f
  | n + 1 => upd (setL f cl v n) (cl n) v
/-- pieces as a list of cells -/
def plist (pa : Nat → Nat) (P : Nat → Pd) : Nat → va_W
  | 0 => []
  | n + 1 => plist pa P n ++ [(pa n, pcE (P n))]
theorem plist_len (pa : Nat → Nat) (P : Nat → Pd) (n : Nat) : (plist pa P n).length = n := by
  induction n with
  | zero => rfl
  | succ n ih => rw [plist, List.length_append, ih]; rfl
theorem plist_get0 {pa : Nat → Nat} {P : Nat → Pd} {n k : Nat} (h : k < n) : (plist pa P n)[k]? = some (pa k, pcE (P k)) := by
  induction n with
  | zero => omega
  | succ n ih =>
    rw [plist]
    by_cases e : k = n
    · subst e
      rw [List.getElem?_append_right (by rw [plist_len]; exact Nat.le_refl _), plist_len, Nat.sub_self]; rfl
    · rw [List.getElem?_append_left (by rw [plist_len]; omega)]; exact ih (by omega)
theorem plist_get {pa : Nat → Nat} {P : Nat → Pd} {n k : Nat} {Y : va_W} (h : k < n) : (plist pa P n ++ Y)[k]? = some (pa k, pcE (P k)) := by
  rw [List.getElem?_append_left (by rw [plist_len]; exact h)]; exact plist_get0 h
def pup (P : Nat → Pd) (k : Nat) (q : Pd) : Nat → Pd := fun j => if j = k then q else P j
theorem pup_s {P : Nat → Pd} {k : Nat} {q : Pd} : pup P k q k = q := if_pos rfl
theorem pup_n {P : Nat → Pd} {k j : Nat} {q : Pd} (h : j ≠ k) : pup P k q j = P j := if_neg h
theorem plist_congr {pa pa' : Nat → Nat} {P P' : Nat → Pd} {n : Nat} (h : ∀ k, k < n → pa k = pa' k ∧ P k = P' k) : plist pa P n = plist pa' P' n := by
  induction n with
  | zero => rfl
  | succ n ih => rw [plist, plist, ih (fun k hk => h k (by omega)), (h n (by omega)).1, (h n (by omega)).2]
theorem plist_set0 {pa : Nat → Nat} {P : Nat → Pd} {n k : Nat} {q : Pd} (h : k < n) : (plist pa P n).set k (pa k, pcE q) = plist pa (pup P k q) n := by
  induction n with
  | zero => omega
  | succ n ih =>
    rw [plist, plist]
    by_cases e : k = n
    · subst e
      rw [List.set_append_right _ _ (by rw [plist_len]; exact Nat.le_refl _), plist_len, Nat.sub_self, pup_s]
      rw [plist_congr (P' := pup P k q) (fun j hj => ⟨rfl, (pup_n (by omega)).symm⟩)]
      rfl
    · rw [List.set_append_left _ _ (by rw [plist_len]; omega), ih (by omega), pup_n (Ne.symm e)]
theorem plist_set {pa : Nat → Nat} {P : Nat → Pd} {n k : Nat} {q : Pd} {Y : va_W} (h : k < n) : (plist pa P n ++ Y).set k (pa k, pcE q) = plist pa (pup P k q) n ++ Y := by
  rw [List.set_append_left _ _ (by rw [plist_len]; exact h), plist_set0 h]
theorem plist_mem {pa : Nat → Nat} {P : Nat → Pd} {n k : Nat} {Y : va_W} (h : k < n) : (pa k, pcE (P k)) ∈ plist pa P n ++ Y := List.mem_of_getElem? (plist_get h)
theorem Pin_of {np : Nat} {pcs : Nat → Option Nat} {pa : Nat → Nat} {P : Nat → Pd} {Y : va_W} (h : ∀ k, k < np → pcs k = some (pa k)) : Pin (plist pa P np ++ Y) np pcs pa P := fun k hk => ⟨h k hk, plist_mem hk⟩
def flp (p : Pd) : Pd := (qx p, qy p, ql p, qf p, qb p, qc p, !qs p, qo p)
def trn (p : Pd) : Pd := (qx p, qy p, ql p, qf p, qb p, !qc p, qs p, qo p)
def tko (p : Pd) : Pd := (qx p, qy p, ql p, qf p, qb p, qc p, qs p, true)
theorem flp2 (p : Pd) : flp (flp p) = p := by
  obtain ⟨a, b, c, d, e, f, g, h⟩ := p
  simp [flp]
theorem pup_pup {P : Nat → Pd} {k : Nat} {q r : Pd} : pup (pup P k q) k r = pup P k r := by
  funext j
  by_cases e : j = k
  · subst e; rw [pup_s, pup_s]
  · rw [pup_n e, pup_n e, pup_n e]
theorem pup_same {P : Nat → Pd} {k : Nat} : pup P k (P k) = P := by
  funext j
  by_cases e : j = k
  · subst e; rw [pup_s]
  · rw [pup_n e]
section GL4
variable {p : Program} {l : Launch} {e : Env} {R : Room} {s : State} {m : MethodId} {args : Array Value} {below : List Frame} {meth : Method} {c : Code} {Q : State → Prop} {D : va_G} {A : Nat → Prop} {H0 : Heap} {tys : List (ClassId × FieldType)} {cc : ByteArray} {nL k n : Nat} {Ts : List Cond} {own : String} {ret : Option FieldType} {pc : Nat} {lv : List (Nat × Value)} {rest : List Value} {ws : va_W}
theorem g_ixor (C : gC p s m args meth c D A H0 tys cc nL Ts own ret) {x y : Int32} (hdg : decode cc pc = .ok (.ixor, 1)) (kk : G p l e R s m args below meth c D A H0 nL k n Q (pc + 1) lv (.int (x ^^^ y) :: rest) ws) : G p l e R s m args below meth c D A H0 nL k n Q pc lv (.int y :: .int x :: rest) ws := fun H locs ls hP hD hS hl => lv_ixor C.x C.b hdg (kk H locs ls hP hD hS hl)
end GL4
theorem xorI (a b : Nat) : nI a ^^^ nI b = nI (a ^^^ b) := by
  apply Int32.toBitVec_inj.mp
  rw [Int32.toBitVec_xor]
  show BitVec.ofNat 32 a ^^^ BitVec.ofNat 32 b = BitVec.ofNat 32 (a ^^^ b)
  apply BitVec.eq_of_toNat_eq
  simp [BitVec.toNat_xor, Nat.xor_mod_two_pow]
theorem xor8 {a : Nat} (h : a < 2 ^ 30) : (0 : Int32) ≤ nI a ^^^ 8 := by
  rw [show (8 : Int32) = nI 8 from rfl, xorI]
  exact nI_pos' (Nat.lt_of_lt_of_le (Nat.xor_lt_two_pow h (show 8 < 2 ^ 30 by decide)) (by decide))
theorem gM_ofF {l : Launch} {y : MethodName} {words words' : List Cond} {rm : Room} {D : va_G} {tys : List (ClassId × FieldType)} {As : List Value} {W0 : va_W} {post : Option Value → va_W → Prop} {mc ms : Nat} {cc : ByteArray} {maxL : Nat} {ret : Option FieldType}
    (hy : plainFor y = true) (hw : words = Cond.code y cc maxL ret :: words') (hlen : (lg_sl As).length ≤ maxL)
    (body : ∀ (p : Program) (e : Env) (s : State) (m : MethodId) (args : Array Value) (below : List Frame) (meth : Method) (c : Code) (A : Nat → Prop) (Q : State → Prop), meth.name = y.name → gC p s m args meth c D A s.heap tys cc maxL words y.cls ret → (∀ t, MQ below (gQ post D A) args s mc ms A t → Q t) →
      G p l e rm s m args below meth c D A s.heap maxL 0 0 Q 0 (lv_args 0 As) [] W0) : gM l y words rm D tys As W0 post mc ms := by
  intro sz
  refine va_MetF hy hw ?_
  intro p e s m args below meth c s₁ B hml hv
  obtain ⟨rfl, hsz, hP, hK, hD0, hE⟩ := hv
  subst hsz
  have hl := lv_entry As (n := maxL) hlen
  rw [lg_entry_eq]
  exact body p e s m _ below meth c (va_A W0 s.heap.size) _ (name_of_methodNamed B.named B.method).1 ⟨B.exec, B.bytes, hml, findClass_of_methodNamed B.named, atoms_spec (ws := words) B.pre, hK, fun q h => Or.inr h, B.returns, B.notSynchronized, hE, rfl⟩ (fun t h => h) s.heap [] _ hP hD0.self va_S.rf hl
theorem i_nle {a b : Int32} (h : a < b) : ¬ b ≤ a := by rw [fa_lt] at h; rw [fa_le]; omega
