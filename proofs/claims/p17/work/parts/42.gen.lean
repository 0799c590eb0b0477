/-- given's inner and outer loop: the sign so far -/
def x_gi (f : Nat → Int32) (s : Int32) (v : Nat) (g : Int32) : Nat → Int32
  | 0 => g
  | t + 1 => if (((s >>> (nI v &&& 31)) &&& 1) = 1 ∧ ((s >>> (nI (v + 1 + t) &&& 31)) &&& 1) = 1) ∧ ¬ f v ≤ f (v + 1 + t) then - x_gi f s v g t else x_gi f s v g t
def x_go (f : Nat → Int32) (s : Int32) : Nat → Int32
  | 0 => 1
  | v + 1 => x_gi f s v (x_go f s v) (7 - v)
def x_gv (f : Nat → Int32) (s to : Int32) : Int32 := if x_sz8 s 8 = x_sz8 to 8 ∧ x_io f s 8 = to then x_go f s 8 else 0
theorem g_gvI {h : mm_H} {ro co di tr : Int32} {f : Nat → Int32} (hO : mm_nth h 25 = some (x_mo ro co di tr)) (h28 : mm_nth h 28 = some (x_it 8 f)) {s to : Int32} {v : Nat} (hv : v < 8) (g : Int32) {y : Option Value} {res : Option Value × mm_H} (hk : ∀ y, mm_E kM none 105 40 [some (.ref 25), some (.int s), some (.int to), some (.int (x_gi f s v g (7 - v))), some (.int (nI v)), some (.int (nI 8)), y] [] h res) : mm_E kM none 105 40 [some (.ref 25), some (.int s), some (.int to), some (.int g), some (.int (nI v)), some (.int (nI (v + 1))), y] [] h res := by
  have key : ∀ (d t : Nat) (y : Option Value), t + d = 7 - v → mm_E kM none 105 40 [some (.ref 25), some (.int s), some (.int to), some (.int (x_gi f s v g t)), some (.int (nI v)), some (.int (nI (v + 1 + t))), y] [] h res := by
    intro d
    induction d with
    | zero =>
      intro t y ht
      have e1 : v + 1 + t = 8 := by omega
      have e2 : t = 7 - v := by omega
      rw [e1, e2]
      exact hk y
    | succ d ih =>
      intro t y ht
      have lt : v + 1 + t < 8 := by omega
      by_cases b1 : ((s >>> (nI v &&& 31)) &&& 1) = 1
      · by_cases b2 : ((s >>> (nI (v + 1 + t) &&& 31)) &&& 1) = 1
        · have z := ih (t + 1) (some (.int 1)) (by omega)
          rw [show v + 1 + (t + 1) = v + 1 + t + 1 by omega, ← nI_1] at z
          by_cases b3 : f v ≤ f (v + 1 + t)
          · rw [show x_gi f s v g (t + 1) = x_gi f s v g t from if_neg (fun q => q.2 b3)] at z
            refine mm_E.s rfl rfl rfl (fun _ => rfl) ?_
            refine mm_E.s rfl rfl rfl (fun _ => rfl) ?_
            refine mm_E.s rfl rfl rfl (fun _ => if_neg (nI_ge lt (by decide))) ?_
            refine mm_E.s rfl rfl rfl (fun _ => rfl) ?_
            refine mm_E.s rfl rfl rfl (fun _ => rfl) ?_
            refine mm_E.s rfl rfl rfl (fun _ => rfl) ?_
            refine mm_E.s rfl rfl rfl (fun _ => rfl) ?_
            refine mm_E.s rfl rfl rfl (fun _ => rfl) ?_
            refine mm_E.s rfl rfl rfl (fun _ => rfl) ?_
            refine mm_E.s rfl rfl rfl (fun _ => if_pos b1) ?_
            refine mm_E.s rfl rfl rfl (fun _ => rfl) ?_
            refine mm_E.s rfl rfl rfl (fun _ => rfl) ?_
            refine mm_E.s rfl rfl rfl (fun _ => rfl) ?_
            refine mm_E.s rfl rfl rfl (fun _ => rfl) ?_
            refine mm_E.s rfl rfl rfl (fun _ => rfl) ?_
            refine mm_E.s rfl rfl rfl (fun _ => rfl) ?_
            refine mm_E.s rfl rfl rfl (fun _ => if_pos b2) ?_
            refine mm_E.s rfl rfl rfl (fun _ => rfl) ?_
            refine mm_E.s rfl rfl rfl (fun _ => rfl) ?_
            refine mm_E.s rfl rfl rfl (fun _ => rfl) ?_
            refine mm_E.s rfl rfl rfl (fun _ => rfl) ?_
            refine mm_E.s rfl rfl rfl (fun _ => rfl) ?_
            refine mm_E.s rfl rfl rfl (fun _ => rfl) ?_
            refine mm_E.gf rfl rfl rfl hO rfl ?_
            refine mm_E.s rfl rfl rfl (fun _ => rfl) ?_
            refine mm_E.ia rfl rfl h28 (mm_bd (by omega) (by decide)) (v := f v) (by rw [mm_cl (by omega)]) ?_
            refine mm_E.s rfl rfl rfl (fun _ => rfl) ?_
            refine mm_E.gf rfl rfl rfl hO rfl ?_
            refine mm_E.s rfl rfl rfl (fun _ => rfl) ?_
            refine mm_E.ia rfl rfl h28 (mm_bd (by omega) (by decide)) (v := f (v + 1 + t)) (by rw [mm_cl (by omega)]) ?_
            refine mm_E.s rfl rfl rfl (fun _ => if_pos b3) ?_
            refine mm_E.s rfl rfl rfl (fun _ => rfl) ?_
            refine mm_E.s rfl rfl rfl (fun _ => rfl) ?_
            refine mm_E.s rfl rfl rfl (fun _ => rfl) ?_
            refine mm_E.s rfl rfl rfl (fun _ => rfl) ?_
            exact z
          · rw [show x_gi f s v g (t + 1) = - x_gi f s v g t from if_pos ⟨⟨b1, b2⟩, b3⟩] at z
            refine mm_E.s rfl rfl rfl (fun _ => rfl) ?_
            refine mm_E.s rfl rfl rfl (fun _ => rfl) ?_
            refine mm_E.s rfl rfl rfl (fun _ => if_neg (nI_ge lt (by decide))) ?_
            refine mm_E.s rfl rfl rfl (fun _ => rfl) ?_
            refine mm_E.s rfl rfl rfl (fun _ => rfl) ?_
            refine mm_E.s rfl rfl rfl (fun _ => rfl) ?_
            refine mm_E.s rfl rfl rfl (fun _ => rfl) ?_
            refine mm_E.s rfl rfl rfl (fun _ => rfl) ?_
            refine mm_E.s rfl rfl rfl (fun _ => rfl) ?_
            refine mm_E.s rfl rfl rfl (fun _ => if_pos b1) ?_
            refine mm_E.s rfl rfl rfl (fun _ => rfl) ?_
            refine mm_E.s rfl rfl rfl (fun _ => rfl) ?_
            refine mm_E.s rfl rfl rfl (fun _ => rfl) ?_
            refine mm_E.s rfl rfl rfl (fun _ => rfl) ?_
            refine mm_E.s rfl rfl rfl (fun _ => rfl) ?_
            refine mm_E.s rfl rfl rfl (fun _ => rfl) ?_
            refine mm_E.s rfl rfl rfl (fun _ => if_pos b2) ?_
            refine mm_E.s rfl rfl rfl (fun _ => rfl) ?_
            refine mm_E.s rfl rfl rfl (fun _ => rfl) ?_
            refine mm_E.s rfl rfl rfl (fun _ => rfl) ?_
            refine mm_E.s rfl rfl rfl (fun _ => rfl) ?_
            refine mm_E.s rfl rfl rfl (fun _ => rfl) ?_
            refine mm_E.s rfl rfl rfl (fun _ => rfl) ?_
            refine mm_E.gf rfl rfl rfl hO rfl ?_
            refine mm_E.s rfl rfl rfl (fun _ => rfl) ?_
            refine mm_E.ia rfl rfl h28 (mm_bd (by omega) (by decide)) (v := f v) (by rw [mm_cl (by omega)]) ?_
            refine mm_E.s rfl rfl rfl (fun _ => rfl) ?_
            refine mm_E.gf rfl rfl rfl hO rfl ?_
            refine mm_E.s rfl rfl rfl (fun _ => rfl) ?_
            refine mm_E.ia rfl rfl h28 (mm_bd (by omega) (by decide)) (v := f (v + 1 + t)) (by rw [mm_cl (by omega)]) ?_
            refine mm_E.s rfl rfl rfl (fun _ => if_neg b3) ?_
            refine mm_E.s rfl rfl rfl (fun _ => rfl) ?_
            refine mm_E.s rfl rfl rfl (fun _ => rfl) ?_
            refine mm_E.s rfl rfl rfl (fun _ => rfl) ?_
            refine mm_E.s rfl rfl rfl (fun _ => rfl) ?_
            refine mm_E.s rfl rfl rfl (fun _ => rfl) ?_
            refine mm_E.s rfl rfl rfl (fun _ => rfl) ?_
            exact z
        · have z := ih (t + 1) (some (.int 0)) (by omega)
          rw [show v + 1 + (t + 1) = v + 1 + t + 1 by omega, ← nI_1, show x_gi f s v g (t + 1) = x_gi f s v g t from if_neg (fun q => b2 q.1.2)] at z
          refine mm_E.s rfl rfl rfl (fun _ => rfl) ?_
          refine mm_E.s rfl rfl rfl (fun _ => rfl) ?_
          refine mm_E.s rfl rfl rfl (fun _ => if_neg (nI_ge lt (by decide))) ?_
          refine mm_E.s rfl rfl rfl (fun _ => rfl) ?_
          refine mm_E.s rfl rfl rfl (fun _ => rfl) ?_
          refine mm_E.s rfl rfl rfl (fun _ => rfl) ?_
          refine mm_E.s rfl rfl rfl (fun _ => rfl) ?_
          refine mm_E.s rfl rfl rfl (fun _ => rfl) ?_
          refine mm_E.s rfl rfl rfl (fun _ => rfl) ?_
          refine mm_E.s rfl rfl rfl (fun _ => if_pos b1) ?_
          refine mm_E.s rfl rfl rfl (fun _ => rfl) ?_
          refine mm_E.s rfl rfl rfl (fun _ => rfl) ?_
          refine mm_E.s rfl rfl rfl (fun _ => rfl) ?_
          refine mm_E.s rfl rfl rfl (fun _ => rfl) ?_
          refine mm_E.s rfl rfl rfl (fun _ => rfl) ?_
          refine mm_E.s rfl rfl rfl (fun _ => rfl) ?_
          refine mm_E.s rfl rfl rfl (fun _ => if_neg b2) ?_
          refine mm_E.s rfl rfl rfl (fun _ => rfl) ?_
          refine mm_E.s rfl rfl rfl (fun _ => rfl) ?_
          refine mm_E.s rfl rfl rfl (fun _ => rfl) ?_
          refine mm_E.s rfl rfl rfl (fun _ => rfl) ?_
          refine mm_E.s rfl rfl rfl (fun _ => rfl) ?_
          refine mm_E.s rfl rfl rfl (fun _ => rfl) ?_
          refine mm_E.s rfl rfl rfl (fun _ => rfl) ?_
          refine mm_E.s rfl rfl rfl (fun _ => rfl) ?_
          exact z
      · have z := ih (t + 1) (some (.int 0)) (by omega)
        rw [show v + 1 + (t + 1) = v + 1 + t + 1 by omega, ← nI_1, show x_gi f s v g (t + 1) = x_gi f s v g t from if_neg (fun q => b1 q.1.1)] at z
        refine mm_E.s rfl rfl rfl (fun _ => rfl) ?_
        refine mm_E.s rfl rfl rfl (fun _ => rfl) ?_
        refine mm_E.s rfl rfl rfl (fun _ => if_neg (nI_ge lt (by decide))) ?_
        refine mm_E.s rfl rfl rfl (fun _ => rfl) ?_
        refine mm_E.s rfl rfl rfl (fun _ => rfl) ?_
        refine mm_E.s rfl rfl rfl (fun _ => rfl) ?_
        refine mm_E.s rfl rfl rfl (fun _ => rfl) ?_
        refine mm_E.s rfl rfl rfl (fun _ => rfl) ?_
        refine mm_E.s rfl rfl rfl (fun _ => rfl) ?_
        refine mm_E.s rfl rfl rfl (fun _ => if_neg b1) ?_
        refine mm_E.s rfl rfl rfl (fun _ => rfl) ?_
        refine mm_E.s rfl rfl rfl (fun _ => rfl) ?_
        refine mm_E.s rfl rfl rfl (fun _ => rfl) ?_
        refine mm_E.s rfl rfl rfl (fun _ => rfl) ?_
        refine mm_E.s rfl rfl rfl (fun _ => rfl) ?_
        refine mm_E.s rfl rfl rfl (fun _ => rfl) ?_
        refine mm_E.s rfl rfl rfl (fun _ => rfl) ?_
        refine mm_E.s rfl rfl rfl (fun _ => rfl) ?_
        exact z
  exact key (7 - v) 0 y (by omega)
theorem g_gv {h : mm_H} {ro co di tr : Int32} {f : Nat → Int32} (hO : mm_nth h 25 = some (x_mo ro co di tr)) (h28 : mm_nth h 28 = some (x_it 8 f)) (s to : Int32) : mm_EC kM 105 [.ref 25, .int s, .int to] h (some (.int (x_gv f s to)), h) := by
  refine ⟨kq_105, rfl, rfl, ?_⟩
  by_cases h1 : x_sz8 s 8 = x_sz8 to 8
  · by_cases h2 : x_io f s 8 = to
    · rw [show x_gv f s to = x_go f s 8 from if_pos ⟨h1, h2⟩]
      refine mm_E.s rfl rfl rfl (fun _ => rfl) ?_
      refine mm_E.ic rfl rfl rfl rfl rfl (x_size _) ?_
      refine mm_E.s rfl rfl rfl (fun _ => rfl) ?_
      refine mm_E.ic rfl rfl rfl rfl rfl (x_size _) ?_
      refine mm_E.s rfl rfl rfl (fun _ => if_pos h1) ?_
      refine mm_E.s rfl rfl rfl (fun _ => rfl) ?_
      refine mm_E.s rfl rfl rfl (fun _ => rfl) ?_
      refine mm_E.iv rfl rfl rfl rfl hO rfl (g_io hO h28 _) ?_
      refine mm_E.s rfl rfl rfl (fun _ => rfl) ?_
      refine mm_E.s rfl rfl rfl (fun _ => if_pos h2) ?_
      refine mm_E.s rfl rfl rfl (fun _ => rfl) ?_
      refine mm_E.s rfl rfl rfl (fun _ => rfl) ?_
      refine mm_E.s rfl rfl rfl (fun _ => rfl) ?_
      refine mm_E.s rfl rfl rfl (fun _ => rfl) ?_
      have key : ∀ (d v : Nat) (y5 y6 : Option Value), v + d = 8 → mm_E kM none 105 27 [some (.ref 25), some (.int s), some (.int to), some (.int (x_go f s v)), some (.int (nI v)), y5, y6] [] h (some (.int (x_go f s 8)), h) := by
        intro d
        induction d with
        | zero =>
          intro v y5 y6 hv
          have : v = 8 := by omega
          subst this
          refine mm_E.s rfl rfl rfl (fun _ => rfl) ?_
          refine mm_E.s rfl rfl rfl (fun _ => rfl) ?_
          refine mm_E.s rfl rfl rfl (fun _ => rfl) ?_
          refine mm_E.s rfl rfl rfl (fun _ => rfl) ?_
          exact mm_E.ret rfl rfl rfl
        | succ d ih =>
          intro v y5 y6 hv
          refine mm_E.s rfl rfl rfl (fun _ => rfl) ?_
          refine mm_E.s rfl rfl rfl (fun _ => rfl) ?_
          refine mm_E.s rfl rfl rfl (fun _ => if_neg (nI_ge (a := v) (b := 8) (by omega) (by decide))) ?_
          refine mm_E.s rfl rfl rfl (fun _ => rfl) ?_
          refine mm_E.s rfl rfl rfl (fun _ => rfl) ?_
          refine mm_E.s rfl rfl rfl (fun _ => rfl) ?_
          refine mm_E.s rfl rfl rfl (fun _ => rfl) ?_
          refine mm_E.lc [some (.ref 25), some (.int s), some (.int to), some (.int (x_go f s v)), some (.int (nI v)), some (.int (nI (v + 1))), y6] (by rw [← nI_1]; rfl) ?_
          refine g_gvI hO h28 (by omega) (x_go f s v) (fun y => ?_)
          have z := ih (v + 1) (some (.int (nI 8))) y (by omega)
          rw [← nI_1] at z
          refine mm_E.s rfl rfl rfl (fun _ => rfl) ?_
          refine mm_E.s rfl rfl rfl (fun _ => rfl) ?_
          refine mm_E.s rfl rfl rfl (fun _ => rfl) ?_
          refine mm_E.s rfl rfl rfl (fun _ => rfl) ?_
          refine mm_E.s rfl rfl rfl (fun _ => rfl) ?_
          exact z
      exact key 8 0 none none rfl
    · rw [show x_gv f s to = 0 from if_neg (fun q => h2 q.2)]
      refine mm_E.s rfl rfl rfl (fun _ => rfl) ?_
      refine mm_E.ic rfl rfl rfl rfl rfl (x_size _) ?_
      refine mm_E.s rfl rfl rfl (fun _ => rfl) ?_
      refine mm_E.ic rfl rfl rfl rfl rfl (x_size _) ?_
      refine mm_E.s rfl rfl rfl (fun _ => if_pos h1) ?_
      refine mm_E.s rfl rfl rfl (fun _ => rfl) ?_
      refine mm_E.s rfl rfl rfl (fun _ => rfl) ?_
      refine mm_E.iv rfl rfl rfl rfl hO rfl (g_io hO h28 _) ?_
      refine mm_E.s rfl rfl rfl (fun _ => rfl) ?_
      refine mm_E.s rfl rfl rfl (fun _ => if_neg h2) ?_
      refine mm_E.s rfl rfl rfl (fun _ => rfl) ?_
      exact mm_E.ret rfl rfl rfl
  · rw [show x_gv f s to = 0 from if_neg (fun q => h1 q.1)]
    refine mm_E.s rfl rfl rfl (fun _ => rfl) ?_
    refine mm_E.ic rfl rfl rfl rfl rfl (x_size _) ?_
    refine mm_E.s rfl rfl rfl (fun _ => rfl) ?_
    refine mm_E.ic rfl rfl rfl rfl rfl (x_size _) ?_
    refine mm_E.s rfl rfl rfl (fun _ => if_neg h1) ?_
    refine mm_E.s rfl rfl rfl (fun _ => rfl) ?_
    exact mm_E.ret rfl rfl rfl

def x_im (has kept f : Nat → Int32) (s : Int32) : Nat → Int32
  | 0 => 0
  | t + 1 => if has (t + 1) = 0 then x_im has kept f s t else x_im has kept f s t + x_gv f (nI (t + 1)) s * kept (t + 1)
theorem g_image {h : mm_H} {ro co di tr : Int32} {has : Nat → Int32} (hO : mm_nth h 25 = some (x_mo ro co di tr)) (hH : mm_nth h 26 = some (x_ha has)) {f : Nat → Int32} (h28 : mm_nth h 28 = some (x_it 8 f)) (hf : x_fo f) {kept : Nat → Int32} (h27 : mm_nth h 27 = some (x_it 512 kept)) (s : Int32) [Decidable (x_si has f)] : mm_EC kM 106 [.ref 25, .int s] h (some (.int (if x_is has 1 s ∧ x_si has f then x_im has kept f s 255 else 0)), h) := by
  refine ⟨kq_106, rfl, rfl, ?_⟩
  by_cases hs : x_is has 1 s
  · by_cases hi : x_si has f
    · rw [if_pos ⟨hs, hi⟩]
      refine mm_E.s rfl rfl rfl (fun _ => rfl) ?_
      refine mm_E.s rfl rfl rfl (fun _ => rfl) ?_
      refine mm_E.s rfl rfl rfl (fun _ => rfl) ?_
      refine mm_E.iv rfl rfl rfl rfl hO rfl (g_is1 hO hH hs) ?_
      refine mm_E.s rfl rfl rfl (fun _ => rfl) ?_
      refine mm_E.s rfl rfl rfl (fun _ => rfl) ?_
      refine mm_E.iv rfl rfl rfl rfl hO rfl (g_si1 hO hH h28 hf hi) ?_
      refine mm_E.s rfl rfl rfl (fun _ => rfl) ?_
      refine mm_E.s rfl rfl rfl (fun _ => rfl) ?_
      refine mm_E.s rfl rfl rfl (fun _ => rfl) ?_
      refine mm_E.s rfl rfl rfl (fun _ => rfl) ?_
      refine mm_E.s rfl rfl rfl (fun _ => rfl) ?_
      refine mm_E.loop (fun t => [some (.ref 25), some (.int s), some (.int (x_im has kept f s t)), some (.int (nI (t + 1)))]) (fun _ => h) 255 ?_ ?_
      · skip
        refine mm_E.s rfl rfl rfl (fun _ => rfl) ?_
        refine mm_E.s rfl rfl rfl (fun _ => rfl) ?_
        refine mm_E.s rfl rfl rfl (fun _ => rfl) ?_
        refine mm_E.s rfl rfl rfl (fun _ => rfl) ?_
        exact mm_E.ret rfl rfl rfl
      · intro t ht ih
        rw [← nI_1] at ih
        by_cases h0 : has (t + 1) = 0
        · rw [show x_im has kept f s (t + 1) = x_im has kept f s t from if_pos h0] at ih
          refine mm_E.s rfl rfl rfl (fun _ => rfl) ?_
          refine mm_E.s rfl rfl rfl (fun _ => rfl) ?_
          refine mm_E.s rfl rfl rfl (fun _ => if_neg (nI_ge (a := t + 1) (b := 256) (by omega) (by decide))) ?_
          refine mm_E.s rfl rfl rfl (fun _ => rfl) ?_
          refine mm_E.gf rfl rfl rfl hO rfl ?_
          refine mm_E.s rfl rfl rfl (fun _ => rfl) ?_
          refine mm_E.za rfl rfl hH (mm_bd (by omega) (by decide)) (v := has (t + 1)) (by rw [mm_cl (by omega)]) ?_
          refine mm_E.s rfl rfl rfl (fun _ => if_pos h0) ?_
          refine mm_E.s rfl rfl rfl (fun _ => rfl) ?_
          refine mm_E.s rfl rfl rfl (fun _ => rfl) ?_
          refine mm_E.s rfl rfl rfl (fun _ => rfl) ?_
          refine mm_E.s rfl rfl rfl (fun _ => rfl) ?_
          exact ih
        · rw [show x_im has kept f s (t + 1) = _ from if_neg h0] at ih
          refine mm_E.s rfl rfl rfl (fun _ => rfl) ?_
          refine mm_E.s rfl rfl rfl (fun _ => rfl) ?_
          refine mm_E.s rfl rfl rfl (fun _ => if_neg (nI_ge (a := t + 1) (b := 256) (by omega) (by decide))) ?_
          refine mm_E.s rfl rfl rfl (fun _ => rfl) ?_
          refine mm_E.gf rfl rfl rfl hO rfl ?_
          refine mm_E.s rfl rfl rfl (fun _ => rfl) ?_
          refine mm_E.za rfl rfl hH (mm_bd (by omega) (by decide)) (v := has (t + 1)) (by rw [mm_cl (by omega)]) ?_
          refine mm_E.s rfl rfl rfl (fun _ => if_neg h0) ?_
          refine mm_E.s rfl rfl rfl (fun _ => rfl) ?_
          refine mm_E.s rfl rfl rfl (fun _ => rfl) ?_
          refine mm_E.s rfl rfl rfl (fun _ => rfl) ?_
          refine mm_E.s rfl rfl rfl (fun _ => rfl) ?_
          refine mm_E.iv rfl rfl rfl rfl hO rfl (g_gv hO h28 _ _) ?_
          refine mm_E.s rfl rfl rfl (fun _ => rfl) ?_
          refine mm_E.gf rfl rfl rfl hO rfl ?_
          refine mm_E.s rfl rfl rfl (fun _ => rfl) ?_
          refine mm_E.ia rfl rfl h27 (mm_bd (by omega) (by decide)) (v := kept (t + 1)) (by rw [mm_cl (by omega)]) ?_
          refine mm_E.s rfl rfl rfl (fun _ => rfl) ?_
          refine mm_E.s rfl rfl rfl (fun _ => rfl) ?_
          refine mm_E.s rfl rfl rfl (fun _ => rfl) ?_
          refine mm_E.s rfl rfl rfl (fun _ => rfl) ?_
          refine mm_E.s rfl rfl rfl (fun _ => rfl) ?_
          refine mm_E.s rfl rfl rfl (fun _ => rfl) ?_
          exact ih
    · rw [if_neg (fun q => hi q.2)]
      refine mm_E.s rfl rfl rfl (fun _ => rfl) ?_
      refine mm_E.s rfl rfl rfl (fun _ => rfl) ?_
      refine mm_E.s rfl rfl rfl (fun _ => rfl) ?_
      refine mm_E.iv rfl rfl rfl rfl hO rfl (g_is1 hO hH hs) ?_
      refine mm_E.s rfl rfl rfl (fun _ => rfl) ?_
      refine mm_E.s rfl rfl rfl (fun _ => rfl) ?_
      refine mm_E.iv rfl rfl rfl rfl hO rfl (g_si0 hO hH h28 hf hi) ?_
      refine mm_E.s rfl rfl rfl (fun _ => rfl) ?_
      refine mm_E.s rfl rfl rfl (fun _ => rfl) ?_
      exact mm_E.ret rfl rfl rfl
  · rw [if_neg (fun q => hs q.1)]
    refine mm_E.s rfl rfl rfl (fun _ => rfl) ?_
    refine mm_E.s rfl rfl rfl (fun _ => rfl) ?_
    refine mm_E.s rfl rfl rfl (fun _ => rfl) ?_
    refine mm_E.iv rfl rfl rfl rfl hO rfl (g_is0 hO hH hs) ?_
    refine mm_E.s rfl rfl rfl (fun _ => rfl) ?_
    refine mm_E.s rfl rfl rfl (fun _ => rfl) ?_
    exact mm_E.ret rfl rfl rfl

theorem g_clear {h : mm_H} {ro co di tr : Int32} {has : Nat → Int32} (hO : mm_nth h 25 = some (x_mo ro co di tr)) (hH : mm_nth h 26 = some (x_ha has)) {kept : Nat → Int32} (h27 : mm_nth h 27 = some (x_it 512 kept)) {n : Nat} (hn : n < 2) : mm_EC kM 73 [.ref 25, .int (nI n)] h (some (.int 1), (h.set 26 (x_ha (x_cz has (256 * n) 256))).set 27 (x_it 512 (x_cz kept (256 * n) 256))) := by
  have l26 := mm_nth_lt hH
  have l27 := mm_nth_lt h27
  have hc : nI n = 0 ∨ nI n = 1 := by
    rcases (show n = 0 ∨ n = 1 by omega) with rfl | rfl
    · exact Or.inl rfl
    · exact Or.inr rfl
  refine ⟨kq_73, rfl, rfl, ?_⟩
  refine mm_E.hc ((h.set 26 (x_ha (x_cz has (256 * n) 0))).set 27 (x_it 512 (x_cz kept (256 * n) 0))) (by rw [x_cz_0, x_cz_0, x_same hH, x_same h27]) ?_
  refine mm_E.s rfl rfl rfl (fun _ => rfl) ?_
  refine mm_E.ic rfl rfl rfl rfl rfl (x_isC1 hc) ?_
  refine mm_E.s rfl rfl rfl (fun _ => rfl) ?_
  refine mm_E.s rfl rfl rfl (fun _ => rfl) ?_
  refine mm_E.s rfl rfl rfl (fun _ => rfl) ?_
  refine mm_E.loop (fun t => [some (.ref 25), some (.int (nI n)), some (.int (nI t))]) (fun t => (h.set 26 (x_ha (x_cz has (256 * n) t))).set 27 (x_it 512 (x_cz kept (256 * n) t))) 256 ?_ ?_
  · skip
    refine mm_E.s rfl rfl rfl (fun _ => rfl) ?_
    refine mm_E.s rfl rfl rfl (fun _ => rfl) ?_
    refine mm_E.s rfl rfl rfl (fun _ => rfl) ?_
    refine mm_E.s rfl rfl rfl (fun _ => rfl) ?_
    exact mm_E.ret rfl rfl rfl
  · intro t ht ih
    rw [← nI_1, ← x_cz_s, ← x_cz_s] at ih
    have hO2 : mm_nth ((h.set 26 (x_ha (x_cz has (256 * n) t))).set 27 (x_it 512 (x_cz kept (256 * n) t))) 25 = some (x_mo ro co di tr) := by rw [mm_nth_set_ne (by decide), mm_nth_set_ne (by decide)]; exact hO
    have hH2 : mm_nth ((h.set 26 (x_ha (x_cz has (256 * n) t))).set 27 (x_it 512 (x_cz kept (256 * n) t))) 26 = some (x_ha (x_cz has (256 * n) t)) := by rw [mm_nth_set_ne (by decide)]; exact mm_nth_set l26
    have hO3 : mm_nth (((h.set 26 (x_ha (x_cz has (256 * n) t))).set 27 (x_it 512 (x_cz kept (256 * n) t))).set 26 (x_ha (upd (x_cz has (256 * n) t) (256 * n + t) 0))) 25 = some (x_mo ro co di tr) := by rw [mm_nth_set_ne (by decide)]; exact hO2
    have h27b : mm_nth (((h.set 26 (x_ha (x_cz has (256 * n) t))).set 27 (x_it 512 (x_cz kept (256 * n) t))).set 26 (x_ha (upd (x_cz has (256 * n) t) (256 * n + t) 0))) 27 = some (x_it 512 (x_cz kept (256 * n) t)) := by rw [mm_nth_set_ne (by decide)]; exact mm_nth_set (by simpa using l27)
    refine mm_E.s rfl rfl rfl (fun _ => rfl) ?_
    refine mm_E.s rfl rfl rfl (fun _ => rfl) ?_
    refine mm_E.s rfl rfl rfl (fun _ => if_neg (nI_ge (a := t) (b := 256) (by omega) (by decide))) ?_
    refine mm_E.s rfl rfl rfl (fun _ => rfl) ?_
    refine mm_E.gf rfl rfl rfl hO2 rfl ?_
    refine mm_E.s rfl rfl rfl (fun _ => rfl) ?_
    refine mm_E.s rfl rfl rfl (fun _ => rfl) ?_
    refine mm_E.s rfl rfl rfl (fun _ => rfl) ?_
    refine mm_E.s rfl rfl rfl (fun _ => rfl) ?_
    refine mm_E.s rfl rfl rfl (fun _ => rfl) ?_
    refine mm_E.ti _ (x_ix n t) ?_
    refine mm_E.s rfl rfl rfl (fun _ => rfl) ?_
    refine mm_E.zs rfl rfl hH2 (mm_bd (by omega) (by decide)) (mm_put_some _ _ _ (by simpa using l26)) ?_
    rw [mm_cl (by omega)]
    refine mm_E.s rfl rfl rfl (fun _ => rfl) ?_
    refine mm_E.gf rfl rfl rfl hO3 rfl ?_
    refine mm_E.s rfl rfl rfl (fun _ => rfl) ?_
    refine mm_E.s rfl rfl rfl (fun _ => rfl) ?_
    refine mm_E.s rfl rfl rfl (fun _ => rfl) ?_
    refine mm_E.s rfl rfl rfl (fun _ => rfl) ?_
    refine mm_E.s rfl rfl rfl (fun _ => rfl) ?_
    refine mm_E.ti _ (x_ix n t) ?_
    refine mm_E.s rfl rfl rfl (fun _ => rfl) ?_
    refine mm_E.is rfl rfl h27b (mm_bd (by omega) (by decide)) (mm_put_some _ _ _ (by simpa using l27)) ?_
    rw [mm_cl (by omega)]
    refine mm_E.s rfl rfl rfl (fun _ => rfl) ?_
    refine mm_E.s rfl rfl rfl (fun _ => rfl) ?_
    refine mm_E.hc _ ?_ ih
    rw [List.set_comm _ _ (show (27 : Nat) ≠ 26 by decide), List.set_set, List.set_set]
    rfl
theorem g_clear0 {h : mm_H} {c : Int32} (hc : ¬ (c = 0 ∨ c = 1)) : mm_EC kM 73 [.ref 25, .int c] h (some (.int 0), h) := by
  refine ⟨kq_73, rfl, rfl, ?_⟩
  refine mm_E.s rfl rfl rfl (fun _ => rfl) ?_
  refine mm_E.ic rfl rfl rfl rfl rfl (x_isC0 hc) ?_
  refine mm_E.s rfl rfl rfl (fun _ => rfl) ?_
  refine mm_E.s rfl rfl rfl (fun _ => rfl) ?_
  exact mm_E.ret rfl rfl rfl

theorem g_num {h : mm_H} {ro co di tr : Int32} {has : Nat → Int32} (hO : mm_nth h 25 = some (x_mo ro co di tr)) (hH : mm_nth h 26 = some (x_ha has)) {n s : Nat} (hn : n < 2) (hs1 : 1 ≤ s) (hs : s < 256) : mm_EC kM 109 [.ref 25, .int (nI n), .int (nI s)] h (some (.int (nI (x_mn has n (x_sz8 (nI s) 8 - 1) (s - 1)))), h) := by
  have hk : x_sz8 (nI s) 8 - 1 + 1 = x_sz8 (nI s) 8 := Int32.sub_add_cancel _ _
  generalize hkk : x_sz8 (nI s) 8 - 1 = kk at hk
  refine ⟨kq_109, rfl, rfl, ?_⟩
  refine mm_E.s rfl rfl rfl (fun _ => rfl) ?_
  refine mm_E.s rfl rfl rfl (fun _ => rfl) ?_
  refine mm_E.s rfl rfl rfl (fun _ => rfl) ?_
  refine mm_E.s rfl rfl rfl (fun _ => rfl) ?_
  refine mm_E.loop (fun t => [some (.ref 25), some (.int (nI n)), some (.int (nI s)), some (.int (nI (x_mn has n kk t))), some (.int (nI (t + 1)))]) (fun _ => h) (s - 1) ?_ ?_
  · rw [show s - 1 + 1 = s by omega]
    refine mm_E.s rfl rfl rfl (fun _ => rfl) ?_
    refine mm_E.s rfl rfl rfl (fun _ => rfl) ?_
    refine mm_E.s rfl rfl rfl (fun _ => if_pos (nI_le (Nat.le_refl s) (by omega))) ?_
    refine mm_E.s rfl rfl rfl (fun _ => rfl) ?_
    exact mm_E.ret rfl rfl rfl
  · intro t ht ih
    rw [← nI_1] at ih
    refine mm_E.s rfl rfl rfl (fun _ => rfl) ?_
    refine mm_E.s rfl rfl rfl (fun _ => rfl) ?_
    refine mm_E.s rfl rfl rfl (fun _ => if_neg (nI_ge (a := t + 1) (b := s) (by omega) (by omega))) ?_
    refine mm_E.s rfl rfl rfl (fun _ => rfl) ?_
    refine mm_E.gf rfl rfl rfl hO rfl ?_
    refine mm_E.s rfl rfl rfl (fun _ => rfl) ?_
    refine mm_E.s rfl rfl rfl (fun _ => rfl) ?_
    refine mm_E.s rfl rfl rfl (fun _ => rfl) ?_
    refine mm_E.s rfl rfl rfl (fun _ => rfl) ?_
    refine mm_E.s rfl rfl rfl (fun _ => rfl) ?_
    refine mm_E.ti _ (x_ix n (t + 1)) ?_
    by_cases h0 : has (256 * n + (t + 1)) = 0
    · rw [x_mn_n (fun q => q.1 h0)] at ih
      refine mm_E.za rfl rfl hH (mm_bd (by omega) (by decide)) (v := has (256 * n + (t + 1))) (by rw [mm_cl (by omega)]) ?_
      refine mm_E.s rfl rfl rfl (fun _ => if_pos h0) ?_
      refine mm_E.s rfl rfl rfl (fun _ => rfl) ?_
      refine mm_E.s rfl rfl rfl (fun _ => rfl) ?_
      refine mm_E.s rfl rfl rfl (fun _ => rfl) ?_
      refine mm_E.s rfl rfl rfl (fun _ => rfl) ?_
      exact ih
    · by_cases h1 : x_sz8 (nI (t + 1)) 8 = x_sz8 (nI s) 8
      · rw [x_mn_y ⟨h0, by rw [h1, hk]⟩, ← nI_1] at ih
        refine mm_E.za rfl rfl hH (mm_bd (by omega) (by decide)) (v := has (256 * n + (t + 1))) (by rw [mm_cl (by omega)]) ?_
        refine mm_E.s rfl rfl rfl (fun _ => if_neg h0) ?_
        refine mm_E.s rfl rfl rfl (fun _ => rfl) ?_
        refine mm_E.ic rfl rfl rfl rfl rfl (x_size _) ?_
        refine mm_E.s rfl rfl rfl (fun _ => rfl) ?_
        refine mm_E.ic rfl rfl rfl rfl rfl (x_size _) ?_
        refine mm_E.s rfl rfl rfl (fun _ => if_pos h1) ?_
        refine mm_E.s rfl rfl rfl (fun _ => rfl) ?_
        refine mm_E.s rfl rfl rfl (fun _ => rfl) ?_
        refine mm_E.s rfl rfl rfl (fun _ => rfl) ?_
        refine mm_E.s rfl rfl rfl (fun _ => rfl) ?_
        refine mm_E.s rfl rfl rfl (fun _ => rfl) ?_
        refine mm_E.s rfl rfl rfl (fun _ => rfl) ?_
        refine mm_E.s rfl rfl rfl (fun _ => rfl) ?_
        exact ih
      · rw [x_mn_n (fun q => h1 (by rw [q.2, hk]))] at ih
        refine mm_E.za rfl rfl hH (mm_bd (by omega) (by decide)) (v := has (256 * n + (t + 1))) (by rw [mm_cl (by omega)]) ?_
        refine mm_E.s rfl rfl rfl (fun _ => if_neg h0) ?_
        refine mm_E.s rfl rfl rfl (fun _ => rfl) ?_
        refine mm_E.ic rfl rfl rfl rfl rfl (x_size _) ?_
        refine mm_E.s rfl rfl rfl (fun _ => rfl) ?_
        refine mm_E.ic rfl rfl rfl rfl rfl (x_size _) ?_
        refine mm_E.s rfl rfl rfl (fun _ => if_neg h1) ?_
        refine mm_E.s rfl rfl rfl (fun _ => rfl) ?_
        refine mm_E.s rfl rfl rfl (fun _ => rfl) ?_
        refine mm_E.s rfl rfl rfl (fun _ => rfl) ?_
        refine mm_E.s rfl rfl rfl (fun _ => rfl) ?_
        exact ih

