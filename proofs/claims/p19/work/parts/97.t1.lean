/-! SPANS MODULO 2 -/
def f2_s : List Nat → Nat → Prop
  | [], x => x = 0
  | a :: l, x => f2_s l x ∨ f2_s l (x ^^^ a)
def f2_i : List Nat → Prop
  | [] => True
  | a :: l => ¬ f2_s l a ∧ f2_i l
theorem f2_0 : ∀ (l : List Nat), f2_s l 0
  | [] => rfl
  | _ :: l => Or.inl (f2_0 l)
theorem f2_xx (x y : Nat) : x ^^^ y ^^^ y = x := by rw [Nat.xor_assoc, Nat.xor_self, Nat.xor_zero]
theorem f2_add : ∀ (l : List Nat) (x y : Nat), f2_s l x → f2_s l y → f2_s l (x ^^^ y)
  | [], x, y, hx, hy => by
    show x ^^^ y = 0
    rw [show x = 0 from hx, show y = 0 from hy]
    rfl
  | a :: l, x, y, hx, hy => by
    rcases hx with hx | hx <;> rcases hy with hy | hy
    · exact Or.inl (f2_add l x y hx hy)
    · refine Or.inr ?_
      rw [Nat.xor_assoc]
      exact f2_add l x _ hx hy
    · refine Or.inr ?_
      have e : x ^^^ y ^^^ a = x ^^^ a ^^^ y := by rw [Nat.xor_assoc, Nat.xor_comm y a, ← Nat.xor_assoc]
      rw [e]
      exact f2_add l _ y hx hy
    · refine Or.inl ?_
      have e : x ^^^ y = (x ^^^ a) ^^^ (y ^^^ a) := by rw [Nat.xor_assoc x a, ← Nat.xor_assoc a y, Nat.xor_comm a y, Nat.xor_assoc y a, Nat.xor_self, Nat.xor_zero]
      rw [e]
      exact f2_add l _ _ hx hy
theorem f2_mem : ∀ (l : List Nat) (a : Nat), a ∈ l → f2_s l a
  | b :: l, a, h => by
    rcases List.mem_cons.mp h with e | e
    · refine Or.inr ?_
      rw [e, Nat.xor_self]
      exact f2_0 l
    · exact Or.inl (f2_mem l a e)
theorem f2_sub : ∀ (l m : List Nat), (∀ a, a ∈ l → f2_s m a) → ∀ x, f2_s l x → f2_s m x
  | [], m, _, x, hx => by
    rw [show x = 0 from hx]
    exact f2_0 m
  | a :: l, m, h, x, hx => by
    rcases hx with hx | hx
    · exact f2_sub l m (fun b hb => h b (List.mem_cons_of_mem a hb)) x hx
    · have z := f2_add m _ _ (f2_sub l m (fun b hb => h b (List.mem_cons_of_mem a hb)) _ hx) (h a List.mem_cons_self)
      rwa [f2_xx] at z
/-- moved by a0 where it helps -/
noncomputable def f2_f (B : List Nat) (a0 a : Nat) : Nat := @ite Nat (f2_s B a) (Classical.propDecidable _) a (a ^^^ a0)
theorem f2_fs {B : List Nat} {a0 b a : Nat} (h0 : f2_s B (a0 ^^^ b)) (h : f2_s (b :: B) a) : f2_s B (f2_f B a0 a) := by
  unfold f2_f
  by_cases c : f2_s B a
  · rw [if_pos c]
    exact c
  · rw [if_neg c]
    have z := f2_add B _ _ (h.resolve_left c) h0
    have e : a ^^^ b ^^^ (a0 ^^^ b) = a ^^^ a0 := by rw [Nat.xor_comm a0 b, Nat.xor_assoc, ← Nat.xor_assoc b b a0, Nat.xor_self, Nat.zero_xor]
    rwa [e] at z
theorem f2_fm (B : List Nat) (a0 : Nat) : ∀ (l : List Nat) (y : Nat), f2_s (l.map (f2_f B a0)) y → f2_s l y ∨ f2_s l (y ^^^ a0)
  | [], y, h => Or.inl h
  | a :: l, y, h => by
    have key : ∀ z, f2_s l z ∨ f2_s l (z ^^^ a0) → (f2_s (a :: l) z ∨ f2_s (a :: l) (z ^^^ a0)) := fun z hz => hz.imp Or.inl Or.inl
    rcases h with h | h
    · exact key y (f2_fm B a0 l y h)
    · have z := f2_fm B a0 l _ h
      unfold f2_f at z
      by_cases c : f2_s B a
      · rw [if_pos c] at z
        refine z.imp Or.inr (fun q => Or.inr ?_)
        rwa [Nat.xor_assoc, Nat.xor_comm a a0, ← Nat.xor_assoc] at q
      · rw [if_neg c] at z
        rcases z with q | q
        · refine Or.inr (Or.inr ?_)
          rwa [← Nat.xor_assoc, Nat.xor_assoc, Nat.xor_comm a a0, ← Nat.xor_assoc] at q
        · refine Or.inl (Or.inr ?_)
          rwa [← Nat.xor_assoc, f2_xx] at q
theorem f2_ip : ∀ (l : List Nat) (B : List Nat) (a0 : Nat), ¬ f2_s l a0 → f2_i l → f2_i (l.map (f2_f B a0))
  | [], _, _, _, _ => trivial
  | a :: l, B, a0, h0, hi => by
    have hl : ¬ f2_s l a0 := fun q => h0 (Or.inl q)
    have hla : ¬ f2_s l (a0 ^^^ a) := fun q => h0 (Or.inr q)
    refine ⟨fun q => ?_, f2_ip l B a0 hl hi.2⟩
    have z := f2_fm B a0 l _ q
    unfold f2_f at z
    by_cases c : f2_s B a
    · rw [if_pos c] at z
      rcases z with z | z
      · exact hi.1 z
      · exact hla (by rwa [Nat.xor_comm] at z)
    · rw [if_neg c] at z
      rcases z with z | z
      · exact hla (by rwa [Nat.xor_comm] at z)
      · rw [f2_xx] at z
        exact hi.1 z
/-- STEINITZ -/
theorem f2_st : ∀ (B A : List Nat), f2_i A → (∀ a, a ∈ A → f2_s B a) → A.length ≤ B.length
  | [], A, hi, h => by
    cases A with
    | nil => exact Nat.le_refl _
    | cons a l =>
      have : a = 0 := h a List.mem_cons_self
      exact absurd (by rw [this]; exact f2_0 l) hi.1
  | b :: B, A, hi, h => by
    have key : ∀ (post pre : List Nat), f2_i (pre ++ post) → (∀ a, a ∈ pre → f2_s B a) → (∀ a, a ∈ post → f2_s (b :: B) a) → (∃ A', f2_i A' ∧ (∀ a, a ∈ A' → f2_s B a) ∧ (pre ++ post).length ≤ A'.length + 1) := fun post => by
      induction post with
      | nil =>
        intro pre hi h1 _
        exact ⟨pre ++ [], hi, fun a ha => h1 a (by simpa using ha), by omega⟩
      | cons a0 post ih =>
        intro pre hi h1 h2
        by_cases c : f2_s B a0
        · have e : pre ++ a0 :: post = (pre ++ [a0]) ++ post := by simp
          rw [e] at hi ⊢
          refine ih (pre ++ [a0]) hi (fun a ha => ?_) (fun a ha => h2 a (List.mem_cons_of_mem a0 ha))
          rcases List.mem_append.mp ha with q | q
          · exact h1 a q
          · rw [List.mem_singleton.mp q]
            exact c
        · have h0 : f2_s B (a0 ^^^ b) := (h2 a0 List.mem_cons_self).resolve_left c
          refine ⟨pre ++ post.map (f2_f B a0), ?_, fun a ha => ?_, by simp; omega⟩
          · have go : ∀ (p : List Nat), f2_i (p ++ a0 :: post) → f2_i (p ++ post.map (f2_f B a0)) := fun p => by
              induction p with
              | nil => exact fun q => f2_ip post B a0 q.1 q.2
              | cons x p ihp =>
                intro q
                refine ⟨fun z => q.1 (f2_sub _ _ (fun y hy => ?_) x z), ihp q.2⟩
                rcases List.mem_append.mp hy with w | w
                · exact f2_mem _ y (List.mem_append_left _ w)
                · obtain ⟨u, hu, eu⟩ := List.mem_map.mp w
                  have m0 : f2_s (p ++ a0 :: post) a0 := f2_mem _ a0 (List.mem_append_right _ List.mem_cons_self)
                  have mu : f2_s (p ++ a0 :: post) u := f2_mem _ u (List.mem_append_right _ (List.mem_cons_of_mem a0 hu))
                  rw [← eu]
                  unfold f2_f
                  by_cases c2 : f2_s B u
                  · rw [if_pos c2]
                    exact mu
                  · rw [if_neg c2]
                    exact f2_add _ _ _ mu m0
            exact go pre hi
          · rcases List.mem_append.mp ha with q | q
            · exact h1 a q
            · obtain ⟨u, hu, eu⟩ := List.mem_map.mp q
              rw [← eu]
              exact f2_fs h0 (h2 u (List.mem_cons_of_mem a0 hu))
    obtain ⟨A', g1, g2, g3⟩ := key A [] hi (fun a ha => absurd ha (List.not_mem_nil)) h
    have z := f2_st B A' g1 g2
    have g3 : A.length ≤ A'.length + 1 := g3
    show A.length ≤ B.length + 1
    omega
theorem f2_eq {A B : List Nat} (hA : f2_i A) (hB : f2_i B) (h1 : ∀ a, a ∈ A → f2_s B a) (h2 : ∀ b, b ∈ B → f2_s A b) : A.length = B.length := Nat.le_antisymm (f2_st B A hA h1) (f2_st A B hB h2)
