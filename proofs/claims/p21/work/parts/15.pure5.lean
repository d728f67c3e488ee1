theorem inR1_nI {x : Nat} {N : Nat} {w M : Int32} (hM : M = nI N) (hN : N < 2 ^ 30) (hx : x ≤ N) (h : inR 1 (M - nI x) w = true) : ∃ j : Nat, 1 ≤ j ∧ j + x ≤ N ∧ w = nI j := by
  subst hM
  rw [pk_sub hx, inR_iff, nI_toInt (by omega)] at h
  have e1 : (1 : Int32).toInt = 1 := rfl
  obtain ⟨j, hj, rfl⟩ := nI_of2 (x := w) (M := nI (N - x)) (n := N - x) (nI_toInt (by omega)) (fun h9 => by rw [fa_lt] at h9; have e2 : (0 : Int32).toInt = 0 := rfl; omega) (by rw [fa_le, nI_toInt (by omega)]; exact h.2)
  rw [nI_toInt (by omega)] at h
  exact ⟨j, by omega, by omega, rfl⟩
theorem inR1_of {N : Nat} {w M : Int32} (hM : M = nI N) (hN : N < 2 ^ 30) (h : inR 1 M w = true) : ∃ j : Nat, 1 ≤ j ∧ j ≤ N ∧ w = nI j := by
  obtain ⟨j, h1, h2, h3⟩ := inR1_nI (x := 0) hM hN (Nat.zero_le _) (by rw [hM, show nI N - nI 0 = nI (N - 0) from pk_sub (Nat.zero_le _), Nat.sub_zero]; rw [hM] at h; exact h)
  exact ⟨j, h1, by omega, h3⟩
theorem spr_t {cover wet : Nat → Int32} {x y w d r : Nat} (hr : r < w) (h : cover (10 * (y + d) + (x + r)) = -1) : cnt (sprF cover x y w) (w * d + (r + 1)) = cnt (sprF cover x y w) (w * d + r) + 1 ∧ sprW wet cover x y w (w * d + (r + 1)) = upd (sprW wet cover x y w (w * d + r)) (10 * (y + d) + (x + r)) 12 := by
  have e : sprF cover x y w (w * d + r) = true := by rw [sprF, rcl_dr hr]; exact decide_eq_true h
  refine ⟨cnt_t e, ?_⟩
  show sprW wet cover x y w ((w * d + r) + 1) = _
  rw [sprW, if_pos e, rcl_dr hr]
theorem spr_f {cover wet : Nat → Int32} {x y w d r : Nat} (hr : r < w) (h : ¬ cover (10 * (y + d) + (x + r)) = -1) : cnt (sprF cover x y w) (w * d + (r + 1)) = cnt (sprF cover x y w) (w * d + r) ∧ sprW wet cover x y w (w * d + (r + 1)) = sprW wet cover x y w (w * d + r) := by
  have e : sprF cover x y w (w * d + r) = false := by rw [sprF, rcl_dr hr]; exact decide_eq_false h
  refine ⟨cnt_f e, ?_⟩
  show sprW wet cover x y w ((w * d + r) + 1) = _
  rw [sprW, e]; rfl
theorem cpy80 {f g : Nat → Int32} : ∀ j, j < 80 → va_cpy f g 0 0 80 j = f j := fun j hj => (pk_cpy_in (by omega) (by omega)).trans (by rw [Nat.sub_zero, Nat.zero_add])
theorem dgN_1 (f : Nat → Int32) (n : Nat) (d : Int64) : dgN f (n + 1) d = dgN f n d * 31 + (f n).toInt64 := rfl
def dg1 (np hr : Nat) (P : Nat → Pd) (wet cover fd : Nat → Int32) : Nat → Int32 := cntf np hr P wet cover fd
def dg2 (np : Nat) (P : Nat → Pd) (wet cover : Nat → Int32) (i : Nat) : Int32 := cfact np P wet cover (i / 3) (i % 3)
def dg3 (P : Nat → Pd) (wet : Nat → Int32) (i : Nat) : Int32 := pfact (P (i / 8)) wet (i % 8)
def dgT (np hr : Nat) (P : Nat → Pd) (wet cover sun fd : Nat → Int32) : Int64 := dgN sun 8 (dgN (dg3 P wet) (8 * np) (dgN (dg2 np P wet cover) 240 (dgN (dg1 np hr P wet cover fd) 8 967)))
theorem hrm_cel {wet cover : Nat → Int32} {x y ln : Nat} {ac : Bool} {own : Int32} (hx : x ≤ 9) (hy : y ≤ 7) (hln : ln ≤ 3) (h : hrm wet cover x y ln ac own = true) : ∀ j, j < ln → cel x y ac j < 80 := by
  intro j hj
  have h1 := allB_iff.mp h j hj
  simp only [hr1, Bool.and_eq_true, onW] at h1
  obtain ⟨⟨h2, h3⟩, -⟩ := h1
  rw [inR_iff] at h2 h3
  have e9 : (9 : Int32).toInt = 9 := rfl
  have e7 : (7 : Int32).toInt = 7 := rfl
  cases ac
  · simp only [Bool.false_eq_true, if_false] at h2 h3
    rw [nI_toInt (by omega)] at h3
    simp only [cel, Bool.false_eq_true, if_false]
    omega
  · simp only [if_true] at h2 h3
    rw [nI_toInt (by omega)] at h2
    simp only [cel, if_true]
    omega
theorem upd_k {g : Nat → Int32} {i : Nat} {v : Int32} (h : ∀ c, c < i → g c = v) : ∀ c, c < i + 1 → upd g i v c = v := by
  intro c hc
  by_cases e : c = i
  · subst e; exact pk_us
  · rw [pk_un e]; exact h c (by omega)
theorem inR99 {np : Nat} (hn : np ≤ 100) (h : inR 0 99 (nI np) = true) : np ≤ 99 := by
  rw [inR_iff, nI_toInt (by omega)] at h
  have e9 : (99 : Int32).toInt = 99 := rfl
  omega
theorem plist_push {pa : Nat → Nat} {P : Nat → Pd} {np q : Nat} {p : Pd} {a b c d e f g h : Nat × va_E} {Y : va_W} : List.Perm ((q, pcE p) :: a :: b :: c :: d :: e :: f :: g :: h :: (plist pa P np ++ Y)) (a :: b :: c :: d :: e :: f :: g :: h :: (plist (va_up pa np q) (pup P np p) (np + 1) ++ Y)) := by
  have e1 : plist (va_up pa np q) (pup P np p) (np + 1) = plist pa P np ++ [(q, pcE p)] := by
    rw [plist, va_up_self, pup_s, plist_congr (pa' := pa) (P' := P) (fun k hk => ⟨va_up_ne _ _ (by omega), pup_n (by omega)⟩)]
  rw [e1]
  have h1 : List.Perm ((q, pcE p) :: ([a, b, c, d, e, f, g, h] ++ (plist pa P np ++ Y))) ([a, b, c, d, e, f, g, h] ++ ((q, pcE p) :: (plist pa P np ++ Y))) := List.perm_middle.symm
  refine h1.trans (List.Perm.append_left [a, b, c, d, e, f, g, h] ?_)
  have h2 : List.Perm ((q, pcE p) :: (plist pa P np ++ Y)) (plist pa P np ++ ((q, pcE p) :: Y)) := List.perm_middle.symm
  show List.Perm _ ((plist pa P np ++ [(q, pcE p)]) ++ Y)
  rw [List.append_assoc]
  exact h2
theorem plist_last {pa : Nat → Nat} {P : Nat → Pd} {np q : Nat} {p : Pd} {Y : va_W} : (q, pcE p) ∈ plist (va_up pa np q) (pup P np p) (np + 1) ++ Y := by
  have h := plist_mem (pa := va_up pa np q) (P := pup P np p) (Y := Y) (show np < np + 1 by omega)
  rw [va_up_self, pup_s] at h
  exact h
theorem bo1 (b : Bool) : narrow .boolean (.int (gz b)) = .int (gz b) := by cases b <;> decide
theorem bo2 (b : Bool) : fits .boolean (.int (gz b)) = true := by cases b <;> decide
