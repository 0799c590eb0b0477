/-! THE SIGN OF A MAP: 0 just where two images fall together -/
theorem x_tb01 (m w : Nat) : x_tb m w = 0 ∨ x_tb m w = 1 := by
  unfold x_tb
  omega
theorem x_nc2 {g : Nat → Nat} (hg : ∀ v, v < 8 → g v < 8) (s : Int32) : ∀ v, v ≤ 8 → (∀ w, w < v → x_in s w → x_tb (x_mm g s w) (g w) = 0) → x_pc (x_mm g s v) = x_nn s v
  | 0, _, _ => (by decide : x_pc 0 = 0)
  | v + 1, h, hn => by
    have ih := x_nc2 hg s v (by omega) (fun w hw => hn w (by omega))
    by_cases c : x_in s v
    · have em : x_mm g s (v + 1) = x_mm g s v ||| 2 ^ g v := if_pos c
      have en : x_nn s (v + 1) = x_nn s v + 1 := if_pos c
      rw [em, en, ← ih]
      rcases x_pcA0 (x_mm_lt hg s v (by omega)) (hg v (by omega)) with q | q
      · have := hn v (by omega) c
        omega
      · exact q.2.2.1
    · rw [show x_mm g s (v + 1) = x_mm g s v from if_neg c, show x_nn s (v + 1) = x_nn s v from if_neg c]
      exact ih
theorem x_sn_0 {f : Nat → Int32} {g : Nat → Nat} (hg : ∀ v, v < 8 → g v < 8 ∧ f v = nI (g v)) {s : Int32} : ∀ d v, d + v = 8 → (∃ w, v ≤ w ∧ w < 8 ∧ x_in s w ∧ x_tb (x_mm g s w) (g w) = 1) → ∀ sw, x_sn f s d v (nI (x_mm g s v)) sw = 0
  | 0, v, h, ⟨w, h1, h2, _⟩, sw => by omega
  | d + 1, v, h, ⟨w, h1, h2, h3, h4⟩, sw => by
    have hg1 : ∀ v, v < 8 → g v < 8 := fun v hv => (hg v hv).1
    have l := x_mm_lt hg1 s v (by omega)
    have gv := hg v (by omega)
    obtain ⟨t1, t2⟩ := (x_pcC0 l).2 (g v) gv.1
    by_cases c : x_in s v
    · have em : x_mm g s (v + 1) = x_mm g s v ||| 2 ^ g v := if_pos c
      show (if ((s >>> (nI v &&& 31)) &&& 1) = 0 then _ else if ((nI (x_mm g s v) >>> (f v &&& 31)) &&& 1) = 0 then _ else _) = _
      rw [if_neg (x_in1 c), gv.2]
      rcases x_tb01 (x_mm g s v) (g v) with q | q
      · rw [if_pos (by rw [t2, q]; rfl), x_sh1 _ gv.1, x_or, ← em]
        refine x_sn_0 hg d (v + 1) (by omega) ⟨w, ?_, h2, h3, h4⟩ _
        have : w ≠ v := fun z => by
          rw [z, q] at h4
          omega
        omega
      · rw [if_neg (by rw [t2, q]; decide)]
    · have em : x_mm g s (v + 1) = x_mm g s v := if_neg c
      show (if ((s >>> (nI v &&& 31)) &&& 1) = 0 then _ else _) = _
      rw [if_pos (x_in0 c), ← em]
      refine x_sn_0 hg d (v + 1) (by omega) ⟨w, ?_, h2, h3, h4⟩ _
      have : w ≠ v := fun z => c (by rw [← z]; exact h3)
      omega
theorem x_snv {f : Nat → Int32} (hf : x_fo f) (s : Int32) : x_sn f s 8 0 0 0 = if x_sz8 s 8 = x_sz8 (x_io f s 8) 8 then x_go f s 8 else 0 := by
  by_cases c : x_sz8 s 8 = x_sz8 (x_io f s 8) 8
  · rw [if_pos c]
    exact x_sn_go hf c
  · rw [if_neg c]
    have hg0 : ∀ v, ∃ u, v < 8 → u < 8 ∧ f v = nI u := fun v => by
      by_cases c : v < 8
      · obtain ⟨u, h1, h2⟩ := hf v c
        exact ⟨u, fun _ => ⟨h1, h2⟩⟩
      · exact ⟨0, fun q => absurd q c⟩
    have hg : ∀ v, v < 8 → Classical.choose (hg0 v) < 8 ∧ f v = nI (Classical.choose (hg0 v)) := fun v hv => Classical.choose_spec (hg0 v) hv
    have hg1 : ∀ v, v < 8 → Classical.choose (hg0 v) < 8 := fun v hv => (hg v hv).1
    refine x_sn_0 (g := fun v => Classical.choose (hg0 v)) hg 8 0 rfl (Classical.byContradiction (fun q => c ?_)) 0
    have hn : ∀ w, w < 8 → x_in s w → x_tb (x_mm (fun v => Classical.choose (hg0 v)) s w) (Classical.choose (hg0 w)) = 0 := fun w hw hi => by
      rcases x_tb01 (x_mm (fun v => Classical.choose (hg0 v)) s w) (Classical.choose (hg0 w)) with z | z
      · exact z
      · exact absurd ⟨w, Nat.zero_le _, hw, hi, z⟩ q
    have l := x_mm_lt (g := fun v => Classical.choose (hg0 v)) hg1 s 8 (Nat.le_refl _)
    rw [x_io_mm (g := fun v => Classical.choose (hg0 v)) hg s 8 (Nat.le_refl _), (x_pcC0 l).1, x_sz_nn, x_nc2 (g := fun v => Classical.choose (hg0 v)) hg1 s 8 (Nat.le_refl _) hn]
