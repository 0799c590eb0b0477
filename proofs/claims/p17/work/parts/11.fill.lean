/-- Arrays.fill over ints -/
def x_fill (f : Nat → Int32) (v : Int32) (i : Nat) : Nat → Int32 := fun j => if j < i then v else f j
theorem x_fill_s (f : Nat → Int32) (v : Int32) (i : Nat) : upd (x_fill f v i) i v = x_fill f v (i + 1) := by
  funext j
  unfold upd x_fill
  by_cases h1 : j = i
  · subst h1
    simp
  · by_cases h2 : j < i
    · have h3 : j < i + 1 := by omega
      simp [h1, h2, h3]
    · have h3 : ¬ j < i + 1 := by omega
      simp [h1, h2, h3]
set_option maxRecDepth 100000 in
theorem x_fill_loop {h : mm_H} {a n : Nat} {v : Int32} {f : Nat → Int32} (hn : n < 2 ^ 31) (ha : a < h.length) : ∀ (d i : Nat), i + d = n → ∀ g, g = x_fill f v i → mm_E kM none 2 5 [some (.ref a), some (.int v), some (.int (nI i)), some (.int (nI n))] [] (h.set a (.inl (.int, n, .inl g))) (none, h.set a (.inl (.int, n, .inl (x_fill f v n)))) := by
  intro d
  induction d with
  | zero =>
    intro i hi g hg
    have : i = n := by omega
    subst this
    subst hg
    refine mm_E.s rfl rfl rfl (fun _ => rfl) ?_
    refine mm_E.s rfl rfl rfl (fun _ => rfl) ?_
    refine mm_E.s rfl rfl rfl (fun _ => if_pos (nI_le (Nat.le_refl i) hn)) ?_
    exact mm_E.ret rfl rfl rfl
  | succ d ih =>
    intro i hi g hg
    refine mm_E.s rfl rfl rfl (fun _ => rfl) ?_
    refine mm_E.s rfl rfl rfl (fun _ => rfl) ?_
    refine mm_E.s rfl rfl rfl (fun _ => if_neg (nI_ge (by omega) hn)) ?_
    refine mm_E.s rfl rfl rfl (fun _ => rfl) ?_
    refine mm_E.s rfl rfl rfl (fun _ => rfl) ?_
    refine mm_E.s rfl rfl rfl (fun _ => rfl) ?_
    refine mm_E.is rfl rfl (mm_nth_set ha) (mm_bd (by omega) hn) (mm_put_some _ _ _ (by simpa using ha)) ?_
    refine mm_E.s rfl rfl rfl (fun _ => rfl) ?_
    refine mm_E.s rfl rfl rfl (fun _ => rfl) ?_
    rw [List.set_set, mm_cl (by omega)]
    have e := ih (i + 1) (by omega) (upd g i v) (by rw [hg]; exact x_fill_s f v i)
    rw [← nI_1] at e
    exact e
