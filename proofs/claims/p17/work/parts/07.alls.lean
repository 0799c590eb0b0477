def mm_all (cc : ByteArray) : List (Option mm_I) → Nat → Bool
  | [], _ => true
  | none :: l, i => mm_all cc l (i + 1)
  | some x :: l, i => mm_chk cc i x && mm_all cc l (i + 1)
theorem mm_all_get {cc : ByteArray} : ∀ (l : List (Option mm_I)) (o : Nat), mm_all cc l o = true → ∀ (pc : Nat) (x : mm_I), mm_nth l pc = some (some x) → mm_chk cc (o + pc) x = true
  | [], o, _, pc, x, h => by simp [mm_nth] at h
  | none :: l, o, ha, pc, x, h => by
    cases pc with
    | zero => simp [mm_nth] at h
    | succ n =>
      have z := mm_all_get l (o + 1) (by simpa [mm_all] using ha) n x (by simpa [mm_nth] using h)
      rwa [show o + (n + 1) = o + 1 + n by omega]
  | some y :: l, o, ha, pc, x, h => by
    simp only [mm_all, Bool.and_eq_true] at ha
    cases pc with
    | zero =>
      have e : y = x := by simpa [mm_nth] using h
      subst e
      exact ha.1
    | succ n =>
      have z := mm_all_get l (o + 1) ha.2 n x (by simpa [mm_nth] using h)
      rwa [show o + (n + 1) = o + 1 + n by omega]
theorem mm_all_sp {cc : ByteArray} {l : List (Option mm_I)} (h : mm_all cc l 0 = true) : ∀ (pc : Nat) (x : mm_I), mm_nth l pc = some (some x) → mm_chk cc pc x = true := fun pc x hx => by
  have z := mm_all_get l 0 h pc x hx
  rwa [Nat.zero_add] at z
theorem mm_all_app {cc : ByteArray} : ∀ (a b : List (Option mm_I)) (o : Nat), mm_all cc a o = true → mm_all cc b (o + a.length) = true → mm_all cc (a ++ b) o = true
  | [], b, o, _, h => by simpa using h
  | none :: a, b, o, h1, h2 => by
    simp only [List.cons_append, mm_all] at h1 ⊢
    exact mm_all_app a b (o + 1) h1 (by rwa [show o + 1 + a.length = o + (none :: a : List (Option mm_I)).length by simp; omega])
  | some x :: a, b, o, h1, h2 => by
    simp only [List.cons_append, mm_all, Bool.and_eq_true] at h1 ⊢
    exact ⟨h1.1, mm_all_app a b (o + 1) h1.2 (by rwa [show o + 1 + a.length = o + (some x :: a : List (Option mm_I)).length by simp; omega])⟩
theorem mm_look_in : ∀ (l : List (Nat × mm_K)) (i : Nat) (K : mm_K), mm_look l i = some K → (i, K) ∈ l
  | [], i, K, h => by simp [mm_look] at h
  | x :: l, i, K, h => by
    simp only [mm_look] at h
    split at h
    · rename_i e
      have e := Nat.eq_of_beq_eq_true e
      cases h
      subst e
      exact List.mem_cons_self
    · exact List.mem_cons_of_mem _ (mm_look_in l i K h)
theorem mm_pool_sp {P : Nat → mm_K → Prop} {l : List (Nat × mm_K)} (h : ∀ x ∈ l, P x.1 x.2) : ∀ (i : Nat) (K : mm_K), mm_look l i = some K → P i K := fun i K hk => h (i, K) (mm_look_in l i K hk)
