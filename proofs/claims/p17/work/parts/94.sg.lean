/-! THE SIGN OF A MAP, counted in two ways -/
abbrev x_in (s : Int32) (v : Nat) : Prop := ((s >>> (nI v &&& 31)) &&& 1) = 1
def x_sgn (n : Nat) : Int32 := if n % 2 = 0 then 1 else -1
theorem x_sgn_s (n : Nat) : x_sgn (n + 1) = - x_sgn n := by
  unfold x_sgn
  by_cases h : n % 2 = 0
  · rw [if_pos h, if_neg (by omega)]
  · rw [if_neg h, if_pos (by omega)]
    rfl
/-- u and w stand in s, and their images stand the other way round -/
def x_bw (f : Nat → Int32) (s : Int32) (u w : Nat) : Nat := if (x_in s u ∧ x_in s w) ∧ ¬ f u ≤ f w then 1 else 0
def x_gc (f : Nat → Int32) (s : Int32) (v : Nat) : Nat → Nat
  | 0 => 0
  | t + 1 => x_gc f s v t + x_bw f s v (v + 1 + t)
def x_gI (f : Nat → Int32) (s : Int32) : Nat → Nat
  | 0 => 0
  | v + 1 => x_gI f s v + x_gc f s v (7 - v)
theorem x_gi_c (f : Nat → Int32) (s : Int32) (v n : Nat) : ∀ t, x_gi f s v (x_sgn n) t = x_sgn (n + x_gc f s v t)
  | 0 => rfl
  | t + 1 => by
    show (if _ then - x_gi f s v (x_sgn n) t else x_gi f s v (x_sgn n) t) = x_sgn (n + (x_gc f s v t + x_bw f s v (v + 1 + t)))
    rw [x_gi_c f s v n t]
    unfold x_bw
    by_cases c : (x_in s v ∧ x_in s (v + 1 + t)) ∧ ¬ f v ≤ f (v + 1 + t)
    · rw [if_pos c, if_pos c, ← Nat.add_assoc, x_sgn_s]
    · rw [if_neg c, if_neg c, Nat.add_zero]
theorem x_go_c (f : Nat → Int32) (s : Int32) : ∀ v, x_go f s v = x_sgn (x_gI f s v)
  | 0 => rfl
  | v + 1 => by
    show x_gi f s v (x_go f s v) (7 - v) = x_sgn (x_gI f s v + x_gc f s v (7 - v))
    rw [x_go_c f s v, x_gi_c]
/-- the same pairs, row by row from above -/
def x_rc (f : Nat → Int32) (s : Int32) (w : Nat) : Nat → Nat
  | 0 => 0
  | t + 1 => x_rc f s w t + x_bw f s t w
def x_rI (f : Nat → Int32) (s : Int32) : Nat → Nat
  | 0 => 0
  | w + 1 => x_rI f s w + x_rc f s w w
theorem x_rI_gI (f : Nat → Int32) (s : Int32) : x_rI f s 8 = x_gI f s 8 := by
  show 0 + 0 + (0 + x_bw f s 0 1) + (0 + x_bw f s 0 2 + x_bw f s 1 2) + (0 + x_bw f s 0 3 + x_bw f s 1 3 + x_bw f s 2 3) + (0 + x_bw f s 0 4 + x_bw f s 1 4 + x_bw f s 2 4 + x_bw f s 3 4) + (0 + x_bw f s 0 5 + x_bw f s 1 5 + x_bw f s 2 5 + x_bw f s 3 5 + x_bw f s 4 5) + (0 + x_bw f s 0 6 + x_bw f s 1 6 + x_bw f s 2 6 + x_bw f s 3 6 + x_bw f s 4 6 + x_bw f s 5 6) + (0 + x_bw f s 0 7 + x_bw f s 1 7 + x_bw f s 2 7 + x_bw f s 3 7 + x_bw f s 4 7 + x_bw f s 5 7 + x_bw f s 6 7) = 0 + (0 + x_bw f s 0 1 + x_bw f s 0 2 + x_bw f s 0 3 + x_bw f s 0 4 + x_bw f s 0 5 + x_bw f s 0 6 + x_bw f s 0 7) + (0 + x_bw f s 1 2 + x_bw f s 1 3 + x_bw f s 1 4 + x_bw f s 1 5 + x_bw f s 1 6 + x_bw f s 1 7) + (0 + x_bw f s 2 3 + x_bw f s 2 4 + x_bw f s 2 5 + x_bw f s 2 6 + x_bw f s 2 7) + (0 + x_bw f s 3 4 + x_bw f s 3 5 + x_bw f s 3 6 + x_bw f s 3 7) + (0 + x_bw f s 4 5 + x_bw f s 4 6 + x_bw f s 4 7) + (0 + x_bw f s 5 6 + x_bw f s 5 7) + (0 + x_bw f s 6 7) + 0
  omega
theorem x_bw_le (f : Nat → Int32) (s : Int32) (u w : Nat) : x_bw f s u w ≤ 1 := by
  unfold x_bw
  split <;> omega
theorem x_rc_le (f : Nat → Int32) (s : Int32) (w : Nat) : ∀ t, x_rc f s w t ≤ t
  | 0 => Nat.le_refl _
  | t + 1 => by
    have := x_rc_le f s w t
    have := x_bw_le f s t w
    show x_rc f s w t + x_bw f s t w ≤ t + 1
    omega
theorem x_rI_le (f : Nat → Int32) (s : Int32) : ∀ w, w ≤ 8 → x_rI f s w ≤ 8 * w
  | 0, _ => Nat.le_refl _
  | w + 1, h => by
    have := x_rI_le f s w (by omega)
    have := x_rc_le f s w w
    show x_rI f s w + x_rc f s w w ≤ 8 * (w + 1)
    omega
theorem x_sc_n : ∀ n, n < 65 → x_sc (nI n) = x_sgn n := by decide +kernel
/-- images so far, as a number -/
def x_mm (g : Nat → Nat) (s : Int32) : Nat → Nat
  | 0 => 0
  | v + 1 => if x_in s v then x_mm g s v ||| 2 ^ g v else x_mm g s v
def x_nn (s : Int32) : Nat → Nat
  | 0 => 0
  | v + 1 => if x_in s v then x_nn s v + 1 else x_nn s v
theorem x_in0 {s : Int32} {v : Nat} (h : ¬ x_in s v) : ((s >>> (nI v &&& 31)) &&& 1) = 0 := (x_bit01 _).resolve_right h
theorem x_in1 {s : Int32} {v : Nat} (h : x_in s v) : ¬ ((s >>> (nI v &&& 31)) &&& 1) = 0 := fun q => absurd (h.symm.trans q) (by decide)
theorem x_mm_lt {g : Nat → Nat} (hg : ∀ v, v < 8 → g v < 8) (s : Int32) : ∀ v, v ≤ 8 → x_mm g s v < 256
  | 0, _ => (by decide : (0 : Nat) < 256)
  | v + 1, h => by
    have ih := x_mm_lt hg s v (by omega)
    show (if _ then _ else _) < 256
    split
    · rcases x_pcA0 ih (hg v (by omega)) with q | q
      · rw [q.2]
        exact ih
      · exact q.2.1
    · exact ih
theorem x_io_mm {f : Nat → Int32} {g : Nat → Nat} (hg : ∀ v, v < 8 → g v < 8 ∧ f v = nI (g v)) (s : Int32) : ∀ v, v ≤ 8 → x_io f s v = nI (x_mm g s v)
  | 0, _ => rfl
  | v + 1, h => by
    have ih := x_io_mm hg s v (by omega)
    show (if x_in s v then _ else _) = nI (if x_in s v then _ else _)
    by_cases c : x_in s v
    · rw [if_pos c, if_pos c, ih, (hg v (by omega)).2, x_sh1 _ (hg v (by omega)).1, x_or]
    · rw [if_neg c, if_neg c, ih]
theorem x_sz_nn (s : Int32) : ∀ v, x_sz8 s v = nI (x_nn s v)
  | 0 => rfl
  | v + 1 => by
    show x_sz8 s v + ((s >>> (nI v &&& 31)) &&& 1) = nI (if x_in s v then _ else _)
    rw [x_sz_nn s v]
    by_cases c : x_in s v
    · rw [if_pos c, show ((s >>> (nI v &&& 31)) &&& 1) = 1 from c, nI_1]
    · rw [if_neg c, x_in0 c, Int32.add_zero]
theorem x_nn_le (s : Int32) : ∀ v, x_nn s v ≤ v
  | 0 => Nat.le_refl _
  | v + 1 => by
    have := x_nn_le s v
    by_cases c : x_in s v
    · rw [show x_nn s (v + 1) = x_nn s v + 1 from if_pos c]
      omega
    · rw [show x_nn s (v + 1) = x_nn s v from if_neg c]
      omega
/-- no two images alike -/
theorem x_nc {g : Nat → Nat} (hg : ∀ v, v < 8 → g v < 8) (s : Int32) : ∀ v, v ≤ 8 → x_pc (x_mm g s v) ≤ x_nn s v ∧ (x_pc (x_mm g s v) = x_nn s v → ∀ w, w < v → x_in s w → x_tb (x_mm g s w) (g w) = 0)
  | 0, _ => ⟨(by decide : x_pc 0 ≤ 0), fun _ w hw => absurd hw (Nat.not_lt_zero w)⟩
  | v + 1, h => by
    obtain ⟨i1, i2⟩ := x_nc hg s v (by omega)
    by_cases c : x_in s v
    · have em : x_mm g s (v + 1) = x_mm g s v ||| 2 ^ g v := if_pos c
      have en : x_nn s (v + 1) = x_nn s v + 1 := if_pos c
      rw [em, en]
      rcases x_pcA0 (x_mm_lt hg s v (by omega)) (hg v (by omega)) with q | q
      · rw [q.2]
        exact ⟨by omega, fun z => by omega⟩
      · rw [q.2.2.1]
        refine ⟨by omega, fun z w hw hi => ?_⟩
        by_cases e : w = v
        · rw [e]
          exact q.1
        · exact i2 (by omega) w (by omega) hi
    · have em : x_mm g s (v + 1) = x_mm g s v := if_neg c
      have en : x_nn s (v + 1) = x_nn s v := if_neg c
      rw [em, en]
      refine ⟨i1, fun z w hw hi => ?_⟩
      by_cases e : w = v
      · rw [e] at hi
        exact absurd hi c
      · exact i2 z w (by omega) hi
/-- an image that was seen -/
theorem x_seen {g : Nat → Nat} (hg : ∀ v, v < 8 → g v < 8) {s : Int32} {u : Nat} (hu : x_in s u) : ∀ v, v ≤ 8 → u < v → x_tb (x_mm g s v) (g u) = 1
  | 0, _, h => absurd h (Nat.not_lt_zero u)
  | v + 1, h, huv => by
    by_cases c : x_in s v
    · have em : x_mm g s (v + 1) = x_mm g s v ||| 2 ^ g v := if_pos c
      rw [em]
      rcases x_pcA0 (x_mm_lt hg s v (by omega)) (hg v (by omega)) with q | q
      · rw [q.2]
        by_cases e : u = v
        · rw [e]
          exact q.1
        · exact x_seen hg hu v (by omega) (by omega)
      · rw [(q.2.2.2 (g u) (hg u (by omega))).2]
        by_cases e : g u = g v
        · rw [if_pos e]
        · rw [if_neg e]
          exact x_seen hg hu v (by omega) (by
            have : u ≠ v := fun z => e (by rw [z])
            omega)
    · have em : x_mm g s (v + 1) = x_mm g s v := if_neg c
      rw [em]
      have : u ≠ v := fun z => c (by rw [← z]; exact hu)
      exact x_seen hg hu v (by omega) (by omega)
def x_cq (g : Nat → Nat) (s : Int32) (k : Nat) : Nat → Nat
  | 0 => 0
  | u + 1 => x_cq g s k u + (if x_in s u ∧ k ≤ g u then 1 else 0)
theorem x_pc_cq {g : Nat → Nat} (hg : ∀ v, v < 8 → g v < 8) {s : Int32} {k : Nat} (hk : k < 8) : ∀ v, v ≤ 8 → (∀ w, w < v → x_in s w → x_tb (x_mm g s w) (g w) = 0) → x_pc (x_mm g s v / 2 ^ k) = x_cq g s k v
  | 0, _, _ => by
    show x_pc (0 / 2 ^ k) = 0
    rw [Nat.zero_div]
    rfl
  | v + 1, h, hn => by
    have ih := x_pc_cq hg (s := s) hk v (by omega) (fun w hw => hn w (by omega))
    show _ = x_cq g s k v + (if x_in s v ∧ k ≤ g v then 1 else 0)
    by_cases c : x_in s v
    · have em : x_mm g s (v + 1) = x_mm g s v ||| 2 ^ g v := if_pos c
      rw [em]
      rcases x_pcA0 (x_mm_lt hg s v (by omega)) (hg v (by omega)) with q | q
      · have := hn v (by omega) c
        omega
      · rw [(q.2.2.2 k hk).1, ih]
        by_cases e : k ≤ g v
        · rw [if_pos e, if_pos ⟨c, e⟩]
        · rw [if_neg e, if_neg (fun z => e z.2)]
    · have em : x_mm g s (v + 1) = x_mm g s v := if_neg c
      rw [em, ih, if_neg (fun z => c z.1), Nat.add_zero]
theorem x_cq_rc {f : Nat → Int32} {g : Nat → Nat} (hg : ∀ v, v < 8 → g v < 8 ∧ f v = nI (g v)) {s : Int32} {w : Nat} (hw : w < 8) (hi : x_in s w) (hne : ∀ u, u < w → x_in s u → g u ≠ g w) : ∀ t, t ≤ w → x_cq g s (g w) t = x_rc f s w t
  | 0, _ => rfl
  | t + 1, h => by
    show x_cq g s (g w) t + (if x_in s t ∧ g w ≤ g t then 1 else 0) = x_rc f s w t + x_bw f s t w
    rw [x_cq_rc hg hw hi hne t (by omega)]
    unfold x_bw
    have g1 := hg t (by omega)
    have g2 := hg w hw
    by_cases c : x_in s t ∧ g w ≤ g t
    · have := hne t (by omega) c.1
      rw [if_pos c, if_pos ⟨⟨c.1, hi⟩, by rw [g1.2, g2.2]; exact nI_ge (by omega) (by omega)⟩]
    · rw [if_neg c, if_neg (fun z => c ⟨z.1.1, by
        have z2 := z.2
        rw [g1.2, g2.2] at z2
        exact Nat.le_of_not_lt (fun y => z2 (nI_le (by omega) (by omega)))⟩)]
theorem x_sn_ok {f : Nat → Int32} {g : Nat → Nat} (hg : ∀ v, v < 8 → g v < 8 ∧ f v = nI (g v)) {s : Int32} (hn : ∀ w, w < 8 → x_in s w → x_tb (x_mm g s w) (g w) = 0) : ∀ d v, d + v = 8 → x_sn f s d v (nI (x_mm g s v)) (nI (x_rI f s v)) = x_sc (nI (x_rI f s 8))
  | 0, v, h => by
    have : v = 8 := by omega
    subst this
    rfl
  | d + 1, v, h => by
    have hg1 : ∀ v, v < 8 → g v < 8 := fun v hv => (hg v hv).1
    have ih := x_sn_ok hg hn d (v + 1) (by omega)
    have er : x_rI f s (v + 1) = x_rI f s v + x_rc f s v v := rfl
    by_cases c : x_in s v
    · have em : x_mm g s (v + 1) = x_mm g s v ||| 2 ^ g v := if_pos c
      have l := x_mm_lt hg1 s v (by omega)
      have gv := hg v (by omega)
      obtain ⟨t1, t2⟩ := (x_pcC0 l).2 (g v) gv.1
      have hz := hn v (by omega) c
      have e1 : x_pc (x_mm g s v / 2 ^ g v) = x_rc f s v v := by
        rw [x_pc_cq hg1 gv.1 v (by omega) (fun w hw => hn w (by omega))]
        exact x_cq_rc hg (by omega) c (fun u hu hi e => by
          have z := x_seen hg1 hi v (by omega) hu
          rw [e, hz] at z
          omega) v (Nat.le_refl _)
      show (if ((s >>> (nI v &&& 31)) &&& 1) = 0 then _ else if ((nI (x_mm g s v) >>> (f v &&& 31)) &&& 1) = 0 then _ else _) = _
      rw [if_neg (x_in1 c), gv.2, if_pos (by rw [t2, hz]; rfl), t1, e1, nI_add, ← er, x_sh1 _ gv.1, x_or, ← em]
      exact ih
    · have em : x_mm g s (v + 1) = x_mm g s v := if_neg c
      have e0 : x_rc f s v v = 0 := by
        have key : ∀ t, x_rc f s v t = 0 := fun t => by
          induction t with
          | zero => rfl
          | succ t ih2 =>
            show x_rc f s v t + x_bw f s t v = 0
            rw [ih2]
            unfold x_bw
            rw [if_neg (fun z => c z.1.2)]
        exact key v
      rw [er, e0, Nat.add_zero, em] at ih
      show (if ((s >>> (nI v &&& 31)) &&& 1) = 0 then _ else _) = _
      rw [if_pos (x_in0 c)]
      exact ih
/-- THE SIGN: counter and reference -/
theorem x_sn_go {f : Nat → Int32} (hf : x_fo f) {s : Int32} (hs : x_sz8 s 8 = x_sz8 (x_io f s 8) 8) : x_sn f s 8 0 0 0 = x_go f s 8 := by
  have hg0 : ∀ v, ∃ u, v < 8 → u < 8 ∧ f v = nI u := fun v => by
    by_cases c : v < 8
    · obtain ⟨u, h1, h2⟩ := hf v c
      exact ⟨u, fun _ => ⟨h1, h2⟩⟩
    · exact ⟨0, fun q => absurd q c⟩
  have hg : ∀ v, v < 8 → Classical.choose (hg0 v) < 8 ∧ f v = nI (Classical.choose (hg0 v)) := fun v hv => Classical.choose_spec (hg0 v) hv
  have hg1 : ∀ v, v < 8 → Classical.choose (hg0 v) < 8 := fun v hv => (hg v hv).1
  have l := x_mm_lt (g := fun v => Classical.choose (hg0 v)) hg1 s 8 (Nat.le_refl _)
  have l2 := x_nn_le s 8
  rw [x_io_mm (g := fun v => Classical.choose (hg0 v)) hg s 8 (Nat.le_refl _), (x_pcC0 l).1, x_sz_nn] at hs
  have l3 := (x_nc (g := fun v => Classical.choose (hg0 v)) hg1 s 8 (Nat.le_refl _)).1
  have e := (nI_eq (by omega) (by omega)).mp hs
  have hn := (x_nc (g := fun v => Classical.choose (hg0 v)) hg1 s 8 (Nat.le_refl _)).2 e.symm
  have z := x_sn_ok (g := fun v => Classical.choose (hg0 v)) hg (s := s) hn 8 0 rfl
  have l4 := x_rI_le f s 8 (Nat.le_refl _)
  rw [x_sc_n _ (by omega), x_rI_gI, ← x_go_c] at z
  exact z
