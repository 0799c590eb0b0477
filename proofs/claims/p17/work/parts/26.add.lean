def x_sz8 (x : Int32) : Nat → Int32
  | 0 => 0
  | n + 1 => x_sz8 x n + ((x >>> (nI n &&& 31)) &&& 1)
abbrev x_A (s q : Nat) : Prop := (nI q &&& (nI s ^^^ (Int32.ofInt (-1)))) = 0
def x_cn (s k : Nat) : Nat → Int32
  | 0 => 0
  | t + 1 => if x_A s (t + 1) ∧ x_sz8 (nI (t + 1)) 8 = nI k + 1 then x_cn s k t + 1 else x_cn s k t
def x_mr (s : Nat) : Nat → Int32
  | 0 => 0
  | t + 1 => if x_A s (t + 1) then x_mr s t + 1 else x_mr s t
def x_sv (f : Nat → Int32) (s a : Nat) (v : Int32) (t : Nat) : Nat → Int32 := fun j => if a < j ∧ j ≤ a + t ∧ x_A s (j - a) then v else f j
theorem x_sv_0 (f : Nat → Int32) (s a : Nat) (v : Int32) : x_sv f s a v 0 = f := by
  funext j
  unfold x_sv
  rw [if_neg (fun q => by omega)]
theorem x_sv_y (f : Nat → Int32) (s a : Nat) (v : Int32) {t : Nat} (h : x_A s (t + 1)) : upd (x_sv f s a v t) (a + (t + 1)) v = x_sv f s a v (t + 1) := by
  funext j
  unfold upd x_sv
  by_cases h1 : j = a + (t + 1)
  · subst h1
    rw [if_pos rfl, if_pos ⟨by omega, by omega, by rw [show a + (t + 1) - a = t + 1 by omega]; exact h⟩]
  · rw [if_neg h1]
    by_cases h2 : a < j ∧ j ≤ a + t ∧ x_A s (j - a)
    · rw [if_pos h2, if_pos ⟨h2.1, by omega, h2.2.2⟩]
    · rw [if_neg h2, if_neg (fun q => h2 ⟨q.1, by omega, q.2.2⟩)]
theorem x_sv_n (f : Nat → Int32) (s a : Nat) (v : Int32) {t : Nat} (h : ¬ x_A s (t + 1)) : x_sv f s a v (t + 1) = x_sv f s a v t := by
  funext j
  unfold x_sv
  by_cases h1 : j = a + (t + 1)
  · subst h1
    rw [if_neg (fun q => h (by have z := q.2.2; rwa [show a + (t + 1) - a = t + 1 by omega] at z)), if_neg (fun q => by omega)]
  · by_cases h2 : a < j ∧ j ≤ a + t ∧ x_A s (j - a)
    · rw [if_pos h2, if_pos ⟨h2.1, by omega, h2.2.2⟩]
    · rw [if_neg h2, if_neg (fun q => h2 ⟨q.1, by omega, q.2.2⟩)]
theorem x_sv_at (f : Nat → Int32) (s a : Nat) (v : Int32) (t : Nat) : x_sv f s a v t (a + (t + 1)) = f (a + (t + 1)) := by
  unfold x_sv
  rw [if_neg (fun q => by omega)]
theorem x_size {h : mm_H} (x : Int32) : mm_EC kM 65 [.int x] h (some (.int (x_sz8 x 8)), h) := by
  refine ⟨kq_65, rfl, rfl, ?_⟩
  refine mm_E.s rfl rfl rfl (fun _ => rfl) ?_
  refine mm_E.s rfl rfl rfl (fun _ => rfl) ?_
  refine mm_E.s rfl rfl rfl (fun _ => rfl) ?_
  refine mm_E.s rfl rfl rfl (fun _ => rfl) ?_
  refine mm_E.loop (fun t => [some (.int x), some (.int (x_sz8 x t)), some (.int (nI t))]) (fun _ => h) 8 ?_ ?_
  · skip
    refine mm_E.s rfl rfl rfl (fun _ => rfl) ?_
    refine mm_E.s rfl rfl rfl (fun _ => rfl) ?_
    refine mm_E.s rfl rfl rfl (fun _ => rfl) ?_
    refine mm_E.s rfl rfl rfl (fun _ => rfl) ?_
    exact mm_E.ret rfl rfl rfl
  · intro t ht ih
    rw [← nI_1] at ih
    refine mm_E.s rfl rfl rfl (fun _ => rfl) ?_
    refine mm_E.s rfl rfl rfl (fun _ => rfl) ?_
    refine mm_E.s rfl rfl rfl (fun _ => if_neg (nI_ge (a := t) (b := 8) (by omega) (by decide))) ?_
    refine mm_E.s rfl rfl rfl (fun _ => rfl) ?_
    refine mm_E.s rfl rfl rfl (fun _ => rfl) ?_
    refine mm_E.s rfl rfl rfl (fun _ => rfl) ?_
    refine mm_E.s rfl rfl rfl (fun _ => rfl) ?_
    refine mm_E.s rfl rfl rfl (fun _ => rfl) ?_
    refine mm_E.s rfl rfl rfl (fun _ => rfl) ?_
    refine mm_E.s rfl rfl rfl (fun _ => rfl) ?_
    refine mm_E.s rfl rfl rfl (fun _ => rfl) ?_
    refine mm_E.s rfl rfl rfl (fun _ => rfl) ?_
    refine mm_E.s rfl rfl rfl (fun _ => rfl) ?_
    exact ih

theorem y_addA {h : mm_H} {ro co di tr : Int32} {has : Nat → Int32} (hO : mm_nth h 25 = some (x_mo ro co di tr)) (hH : mm_nth h 26 = some (x_ha has)) (hz : x_no has) {n s k : Nat} (hn : n < 2) (hs : s < 256) {res : Option Value × mm_H} (hk : mm_E kM none 72 47 [some (.ref 25), some (.int (nI n)), some (.int (nI s)), some (.int (nI k)), some (.int (x_cn s k s)), some (.int (nI (s + 1)))] [] h res) : mm_E kM none 72 47 [some (.ref 25), some (.int (nI n)), some (.int (nI s)), some (.int (nI k)), some (.int 0), some (.int 1)] [] h res := by
  refine mm_E.loop (fun t => [some (.ref 25), some (.int (nI n)), some (.int (nI s)), some (.int (nI k)), some (.int (x_cn s k t)), some (.int (nI (t + 1)))]) (fun _ => h) s hk ?_
  intro t ht ih
  rw [← nI_1] at ih
  by_cases hA : x_A s (t + 1)
  · by_cases hB : x_sz8 (nI (t + 1)) 8 = nI k + 1
    · rw [show x_cn s k (t + 1) = x_cn s k t + 1 from if_pos ⟨hA, hB⟩] at ih
      refine mm_E.s rfl rfl rfl (fun _ => rfl) ?_
      refine mm_E.s rfl rfl rfl (fun _ => rfl) ?_
      refine mm_E.s rfl rfl rfl (fun _ => if_neg (nI_nlt (a := s) (b := t + 1) (by omega) (by omega))) ?_
      refine mm_E.s rfl rfl rfl (fun _ => rfl) ?_
      refine mm_E.s rfl rfl rfl (fun _ => rfl) ?_
      refine mm_E.s rfl rfl rfl (fun _ => rfl) ?_
      refine mm_E.s rfl rfl rfl (fun _ => rfl) ?_
      refine mm_E.s rfl rfl rfl (fun _ => rfl) ?_
      refine mm_E.s rfl rfl rfl (fun _ => if_pos hA) ?_
      refine mm_E.s rfl rfl rfl (fun _ => rfl) ?_
      refine mm_E.ic rfl rfl rfl rfl rfl (x_size _) ?_
      refine mm_E.s rfl rfl rfl (fun _ => rfl) ?_
      refine mm_E.s rfl rfl rfl (fun _ => rfl) ?_
      refine mm_E.s rfl rfl rfl (fun _ => rfl) ?_
      refine mm_E.s rfl rfl rfl (fun _ => if_pos hB) ?_
      refine mm_E.s rfl rfl rfl (fun _ => rfl) ?_
      refine mm_E.gf rfl rfl rfl hO rfl ?_
      refine mm_E.s rfl rfl rfl (fun _ => rfl) ?_
      refine mm_E.s rfl rfl rfl (fun _ => rfl) ?_
      refine mm_E.s rfl rfl rfl (fun _ => rfl) ?_
      refine mm_E.s rfl rfl rfl (fun _ => rfl) ?_
      refine mm_E.s rfl rfl rfl (fun _ => rfl) ?_
      refine mm_E.ti _ (x_ix n (t + 1)) ?_
      refine mm_E.za rfl rfl hH (mm_bd (by omega) (by decide)) (v := 0) (by rw [mm_cl (by omega)]; exact hz _ (by omega)) ?_
      refine mm_E.s rfl rfl rfl (fun _ => rfl) ?_
      refine mm_E.s rfl rfl rfl (fun _ => rfl) ?_
      refine mm_E.s rfl rfl rfl (fun _ => rfl) ?_
      refine mm_E.s rfl rfl rfl (fun _ => rfl) ?_
      refine mm_E.s rfl rfl rfl (fun _ => rfl) ?_
      refine mm_E.s rfl rfl rfl (fun _ => rfl) ?_
      refine mm_E.s rfl rfl rfl (fun _ => rfl) ?_
      refine mm_E.s rfl rfl rfl (fun _ => rfl) ?_
      exact ih
    · rw [show x_cn s k (t + 1) = x_cn s k t from if_neg (fun q => hB q.2)] at ih
      refine mm_E.s rfl rfl rfl (fun _ => rfl) ?_
      refine mm_E.s rfl rfl rfl (fun _ => rfl) ?_
      refine mm_E.s rfl rfl rfl (fun _ => if_neg (nI_nlt (a := s) (b := t + 1) (by omega) (by omega))) ?_
      refine mm_E.s rfl rfl rfl (fun _ => rfl) ?_
      refine mm_E.s rfl rfl rfl (fun _ => rfl) ?_
      refine mm_E.s rfl rfl rfl (fun _ => rfl) ?_
      refine mm_E.s rfl rfl rfl (fun _ => rfl) ?_
      refine mm_E.s rfl rfl rfl (fun _ => rfl) ?_
      refine mm_E.s rfl rfl rfl (fun _ => if_pos hA) ?_
      refine mm_E.s rfl rfl rfl (fun _ => rfl) ?_
      refine mm_E.ic rfl rfl rfl rfl rfl (x_size _) ?_
      refine mm_E.s rfl rfl rfl (fun _ => rfl) ?_
      refine mm_E.s rfl rfl rfl (fun _ => rfl) ?_
      refine mm_E.s rfl rfl rfl (fun _ => rfl) ?_
      refine mm_E.s rfl rfl rfl (fun _ => if_neg hB) ?_
      refine mm_E.s rfl rfl rfl (fun _ => rfl) ?_
      refine mm_E.s rfl rfl rfl (fun _ => rfl) ?_
      refine mm_E.s rfl rfl rfl (fun _ => rfl) ?_
      refine mm_E.s rfl rfl rfl (fun _ => rfl) ?_
      exact ih
  · rw [show x_cn s k (t + 1) = x_cn s k t from if_neg (fun q => hA q.1)] at ih
    refine mm_E.s rfl rfl rfl (fun _ => rfl) ?_
    refine mm_E.s rfl rfl rfl (fun _ => rfl) ?_
    refine mm_E.s rfl rfl rfl (fun _ => if_neg (nI_nlt (a := s) (b := t + 1) (by omega) (by omega))) ?_
    refine mm_E.s rfl rfl rfl (fun _ => rfl) ?_
    refine mm_E.s rfl rfl rfl (fun _ => rfl) ?_
    refine mm_E.s rfl rfl rfl (fun _ => rfl) ?_
    refine mm_E.s rfl rfl rfl (fun _ => rfl) ?_
    refine mm_E.s rfl rfl rfl (fun _ => rfl) ?_
    refine mm_E.s rfl rfl rfl (fun _ => if_neg hA) ?_
    refine mm_E.s rfl rfl rfl (fun _ => rfl) ?_
    refine mm_E.s rfl rfl rfl (fun _ => rfl) ?_
    refine mm_E.s rfl rfl rfl (fun _ => rfl) ?_
    refine mm_E.s rfl rfl rfl (fun _ => rfl) ?_
    exact ih

theorem y_add {h : mm_H} {ro co di : Int32} (hE : x_em h ro co di) {n s : Nat} (hn : n < 2) (hs1 : 1 ≤ s) (hs : s < 256) (h4 : x_sz8 (nI s) 8 ≤ 4) (h24 : ∀ k, k < 4 → x_cn s k s ≤ 24) : ∃ h', mm_EC kM 72 [.ref 25, .int (nI n), .int (nI s)] h (some (.int (x_mr s s)), h') := by
  obtain ⟨tr, has, kept, f, cc, sp, e1, e2, e3, mat, work, dv, hO, hH, hz, h27, h28, h29, h30, h31, h32, h33, h34, h35, h36⟩ := hE
  have l26 := mm_nth_lt hH
  have l27 := mm_nth_lt h27
  have hc : nI n = 0 ∨ nI n = 1 := by
    rcases (show n = 0 ∨ n = 1 by omega) with rfl | rfl
    · exact Or.inl rfl
    · exact Or.inr rfl
  refine ⟨(h.set 26 (x_ha (x_sv has s (256 * n) 1 s))).set 27 (x_it 512 (x_sv kept s (256 * n) 0 s)), kq_72, rfl, rfl, ?_⟩
  refine mm_E.s rfl rfl rfl (fun _ => rfl) ?_
  refine mm_E.ic rfl rfl rfl rfl rfl (x_isC1 hc) ?_
  refine mm_E.s rfl rfl rfl (fun _ => rfl) ?_
  refine mm_E.s rfl rfl rfl (fun _ => rfl) ?_
  refine mm_E.s rfl rfl rfl (fun _ => rfl) ?_
  refine mm_E.s rfl rfl rfl (fun _ => if_neg (nI_nlt (a := s) (b := 1) (by omega) (by omega))) ?_
  refine mm_E.s rfl rfl rfl (fun _ => rfl) ?_
  refine mm_E.s rfl rfl rfl (fun _ => rfl) ?_
  refine mm_E.s rfl rfl rfl (fun _ => if_neg (nI_nlt (a := 255) (b := s) (by omega) (by decide))) ?_
  refine mm_E.s rfl rfl rfl (fun _ => rfl) ?_
  refine mm_E.ic rfl rfl rfl rfl rfl (x_size _) ?_
  refine mm_E.s rfl rfl rfl (fun _ => rfl) ?_
  refine mm_E.s rfl rfl rfl (fun _ => if_pos h4) ?_
  refine mm_E.s rfl rfl rfl (fun _ => rfl) ?_
  refine mm_E.s rfl rfl rfl (fun _ => rfl) ?_
  refine mm_E.loop (fun t => [some (.ref 25), some (.int (nI n)), some (.int (nI s)), some (.int (nI t)), (match t with
    | 0 => none
    | j + 1 => some (.int (x_cn s j s))), (match t with
    | 0 => none
    | _ + 1 => some (.int (nI (s + 1))))]) (fun _ => h) 4 ?_ ?_
  · refine mm_E.hc ((h.set 26 (x_ha (x_sv has s (256 * n) 1 0))).set 27 (x_it 512 (x_sv kept s (256 * n) 0 0))) (by rw [x_sv_0, x_sv_0, x_same hH, x_same h27]) ?_
    refine mm_E.s rfl rfl rfl (fun _ => rfl) ?_
    refine mm_E.s rfl rfl rfl (fun _ => rfl) ?_
    refine mm_E.s rfl rfl rfl (fun _ => rfl) ?_
    refine mm_E.s rfl rfl rfl (fun _ => rfl) ?_
    refine mm_E.s rfl rfl rfl (fun _ => rfl) ?_
    refine mm_E.s rfl rfl rfl (fun _ => rfl) ?_
    refine mm_E.s rfl rfl rfl (fun _ => rfl) ?_
    refine mm_E.loop (fun t => [some (.ref 25), some (.int (nI n)), some (.int (nI s)), some (.int (x_mr s t)), some (.int (nI (t + 1))), some (.int (nI (s + 1)))]) (fun t => (h.set 26 (x_ha (x_sv has s (256 * n) 1 t))).set 27 (x_it 512 (x_sv kept s (256 * n) 0 t))) s ?_ ?_
    · skip
      refine mm_E.s rfl rfl rfl (fun _ => rfl) ?_
      refine mm_E.s rfl rfl rfl (fun _ => rfl) ?_
      refine mm_E.s rfl rfl rfl (fun _ => if_pos (nI_lt (a := s) (b := s + 1) (by omega) (by omega))) ?_
      refine mm_E.s rfl rfl rfl (fun _ => rfl) ?_
      exact mm_E.ret rfl rfl rfl
    · intro t ht ih
      rw [← nI_1] at ih
      have hO2 : mm_nth ((h.set 26 (x_ha (x_sv has s (256 * n) 1 t))).set 27 (x_it 512 (x_sv kept s (256 * n) 0 t))) 25 = some (x_mo ro co di tr) := by rw [mm_nth_set_ne (by decide), mm_nth_set_ne (by decide)]; exact hO
      have hH2 : mm_nth ((h.set 26 (x_ha (x_sv has s (256 * n) 1 t))).set 27 (x_it 512 (x_sv kept s (256 * n) 0 t))) 26 = some (x_ha (x_sv has s (256 * n) 1 t)) := by rw [mm_nth_set_ne (by decide)]; exact mm_nth_set l26
      by_cases hA : x_A s (t + 1)
      · rw [show x_mr s (t + 1) = x_mr s t + 1 from if_pos hA, ← x_sv_y has s (256 * n) 1 hA, ← x_sv_y kept s (256 * n) 0 hA] at ih
        have hO3 : mm_nth (((h.set 26 (x_ha (x_sv has s (256 * n) 1 t))).set 27 (x_it 512 (x_sv kept s (256 * n) 0 t))).set 26 (x_ha (upd (x_sv has s (256 * n) 1 t) (256 * n + (t + 1)) 1))) 25 = some (x_mo ro co di tr) := by rw [mm_nth_set_ne (by decide)]; exact hO2
        have h27b : mm_nth (((h.set 26 (x_ha (x_sv has s (256 * n) 1 t))).set 27 (x_it 512 (x_sv kept s (256 * n) 0 t))).set 26 (x_ha (upd (x_sv has s (256 * n) 1 t) (256 * n + (t + 1)) 1))) 27 = some (x_it 512 (x_sv kept s (256 * n) 0 t)) := by rw [mm_nth_set_ne (by decide)]; exact mm_nth_set (by simpa using l27)
        refine mm_E.s rfl rfl rfl (fun _ => rfl) ?_
        refine mm_E.s rfl rfl rfl (fun _ => rfl) ?_
        refine mm_E.s rfl rfl rfl (fun _ => if_neg (nI_nlt (a := s) (b := t + 1) (by omega) (by omega))) ?_
        refine mm_E.s rfl rfl rfl (fun _ => rfl) ?_
        refine mm_E.s rfl rfl rfl (fun _ => rfl) ?_
        refine mm_E.s rfl rfl rfl (fun _ => rfl) ?_
        refine mm_E.s rfl rfl rfl (fun _ => rfl) ?_
        refine mm_E.s rfl rfl rfl (fun _ => rfl) ?_
        refine mm_E.s rfl rfl rfl (fun _ => if_pos hA) ?_
        refine mm_E.s rfl rfl rfl (fun _ => rfl) ?_
        refine mm_E.gf rfl rfl rfl hO2 rfl ?_
        refine mm_E.s rfl rfl rfl (fun _ => rfl) ?_
        refine mm_E.s rfl rfl rfl (fun _ => rfl) ?_
        refine mm_E.s rfl rfl rfl (fun _ => rfl) ?_
        refine mm_E.s rfl rfl rfl (fun _ => rfl) ?_
        refine mm_E.s rfl rfl rfl (fun _ => rfl) ?_
        refine mm_E.ti _ (x_ix n (t + 1)) ?_
        refine mm_E.za rfl rfl hH2 (mm_bd (by omega) (by decide)) (v := 0) (by rw [mm_cl (by omega), x_sv_at]; exact hz _ (by omega)) ?_
        refine mm_E.s rfl rfl rfl (fun _ => rfl) ?_
        refine mm_E.s rfl rfl rfl (fun _ => rfl) ?_
        refine mm_E.gf rfl rfl rfl hO2 rfl ?_
        refine mm_E.s rfl rfl rfl (fun _ => rfl) ?_
        refine mm_E.s rfl rfl rfl (fun _ => rfl) ?_
        refine mm_E.s rfl rfl rfl (fun _ => rfl) ?_
        refine mm_E.s rfl rfl rfl (fun _ => rfl) ?_
        refine mm_E.s rfl rfl rfl (fun _ => rfl) ?_
        refine mm_E.ti _ (x_ix n (t + 1)) ?_
        refine mm_E.s rfl rfl rfl (fun _ => rfl) ?_
        refine mm_E.zs rfl rfl hH2 (mm_bd (by omega) (by decide)) (mm_put_some _ _ _ (by simpa using l26)) ?_
        rw [mm_cl (by omega)]
        refine mm_E.s rfl rfl rfl (fun _ => rfl) ?_
        refine mm_E.gf rfl rfl rfl hO3 rfl ?_
        refine mm_E.s rfl rfl rfl (fun _ => rfl) ?_
        refine mm_E.s rfl rfl rfl (fun _ => rfl) ?_
        refine mm_E.s rfl rfl rfl (fun _ => rfl) ?_
        refine mm_E.s rfl rfl rfl (fun _ => rfl) ?_
        refine mm_E.s rfl rfl rfl (fun _ => rfl) ?_
        refine mm_E.ti _ (x_ix n (t + 1)) ?_
        refine mm_E.s rfl rfl rfl (fun _ => rfl) ?_
        refine mm_E.is rfl rfl h27b (mm_bd (by omega) (by decide)) (mm_put_some _ _ _ (by simpa using l27)) ?_
        rw [mm_cl (by omega)]
        refine mm_E.s rfl rfl rfl (fun _ => rfl) ?_
        refine mm_E.s rfl rfl rfl (fun _ => rfl) ?_
        refine mm_E.s rfl rfl rfl (fun _ => rfl) ?_
        refine mm_E.hc _ ?_ ih
        rw [List.set_comm _ _ (show (27 : Nat) ≠ 26 by decide), List.set_set, List.set_set]
        rfl
      · rw [show x_mr s (t + 1) = x_mr s t from if_neg hA, x_sv_n has s (256 * n) 1 hA, x_sv_n kept s (256 * n) 0 hA] at ih
        refine mm_E.s rfl rfl rfl (fun _ => rfl) ?_
        refine mm_E.s rfl rfl rfl (fun _ => rfl) ?_
        refine mm_E.s rfl rfl rfl (fun _ => if_neg (nI_nlt (a := s) (b := t + 1) (by omega) (by omega))) ?_
        refine mm_E.s rfl rfl rfl (fun _ => rfl) ?_
        refine mm_E.s rfl rfl rfl (fun _ => rfl) ?_
        refine mm_E.s rfl rfl rfl (fun _ => rfl) ?_
        refine mm_E.s rfl rfl rfl (fun _ => rfl) ?_
        refine mm_E.s rfl rfl rfl (fun _ => rfl) ?_
        refine mm_E.s rfl rfl rfl (fun _ => if_neg hA) ?_
        refine mm_E.s rfl rfl rfl (fun _ => rfl) ?_
        refine mm_E.s rfl rfl rfl (fun _ => rfl) ?_
        exact ih
  · intro t ht ih
    rw [← nI_1] at ih
    refine mm_E.s rfl rfl rfl (fun _ => rfl) ?_
    refine mm_E.s rfl rfl rfl (fun _ => rfl) ?_
    refine mm_E.s rfl rfl rfl (fun _ => if_neg (nI_ge (a := t) (b := 4) (by omega) (by decide))) ?_
    refine mm_E.s rfl rfl rfl (fun _ => rfl) ?_
    refine mm_E.s rfl rfl rfl (fun _ => rfl) ?_
    refine mm_E.s rfl rfl rfl (fun _ => rfl) ?_
    refine mm_E.iv rfl rfl rfl rfl hO rfl (x_many0 hO hH hz hn _) ?_
    refine mm_E.s rfl rfl rfl (fun _ => rfl) ?_
    refine mm_E.s rfl rfl rfl (fun _ => rfl) ?_
    refine mm_E.s rfl rfl rfl (fun _ => rfl) ?_
    refine y_addA hO hH hz hn hs ?_
    refine mm_E.s rfl rfl rfl (fun _ => rfl) ?_
    refine mm_E.s rfl rfl rfl (fun _ => rfl) ?_
    refine mm_E.s rfl rfl rfl (fun _ => if_pos (nI_lt (a := s) (b := s + 1) (by omega) (by omega))) ?_
    refine mm_E.s rfl rfl rfl (fun _ => rfl) ?_
    refine mm_E.s rfl rfl rfl (fun _ => rfl) ?_
    refine mm_E.s rfl rfl rfl (fun _ => if_pos (h24 t ht)) ?_
    refine mm_E.s rfl rfl rfl (fun _ => rfl) ?_
    refine mm_E.s rfl rfl rfl (fun _ => rfl) ?_
    exact ih

theorem y_addB {h : mm_H} {c s : Int32} (hb : ¬ ((c = 0 ∨ c = 1) ∧ ¬ s < 1 ∧ ¬ 255 < s ∧ x_sz8 s 8 ≤ 4)) : mm_EC kM 72 [.ref 25, .int c, .int s] h (some (.int (-1)), h) := by
  refine ⟨kq_72, rfl, rfl, ?_⟩
  by_cases hc : c = 0 ∨ c = 1
  · by_cases h1 : s < 1
    · skip
      refine mm_E.s rfl rfl rfl (fun _ => rfl) ?_
      refine mm_E.ic rfl rfl rfl rfl rfl (x_isC1 hc) ?_
      refine mm_E.s rfl rfl rfl (fun _ => rfl) ?_
      refine mm_E.s rfl rfl rfl (fun _ => rfl) ?_
      refine mm_E.s rfl rfl rfl (fun _ => rfl) ?_
      refine mm_E.s rfl rfl rfl (fun _ => if_pos h1) ?_
      refine mm_E.s rfl rfl rfl (fun _ => rfl) ?_
      exact mm_E.ret rfl rfl rfl
    · by_cases h2 : 255 < s
      · skip
        refine mm_E.s rfl rfl rfl (fun _ => rfl) ?_
        refine mm_E.ic rfl rfl rfl rfl rfl (x_isC1 hc) ?_
        refine mm_E.s rfl rfl rfl (fun _ => rfl) ?_
        refine mm_E.s rfl rfl rfl (fun _ => rfl) ?_
        refine mm_E.s rfl rfl rfl (fun _ => rfl) ?_
        refine mm_E.s rfl rfl rfl (fun _ => if_neg h1) ?_
        refine mm_E.s rfl rfl rfl (fun _ => rfl) ?_
        refine mm_E.s rfl rfl rfl (fun _ => rfl) ?_
        refine mm_E.s rfl rfl rfl (fun _ => if_pos h2) ?_
        refine mm_E.s rfl rfl rfl (fun _ => rfl) ?_
        exact mm_E.ret rfl rfl rfl
      · have h4 : ¬ x_sz8 s 8 ≤ 4 := fun q => hb ⟨hc, h1, h2, q⟩
        refine mm_E.s rfl rfl rfl (fun _ => rfl) ?_
        refine mm_E.ic rfl rfl rfl rfl rfl (x_isC1 hc) ?_
        refine mm_E.s rfl rfl rfl (fun _ => rfl) ?_
        refine mm_E.s rfl rfl rfl (fun _ => rfl) ?_
        refine mm_E.s rfl rfl rfl (fun _ => rfl) ?_
        refine mm_E.s rfl rfl rfl (fun _ => if_neg h1) ?_
        refine mm_E.s rfl rfl rfl (fun _ => rfl) ?_
        refine mm_E.s rfl rfl rfl (fun _ => rfl) ?_
        refine mm_E.s rfl rfl rfl (fun _ => if_neg h2) ?_
        refine mm_E.s rfl rfl rfl (fun _ => rfl) ?_
        refine mm_E.ic rfl rfl rfl rfl rfl (x_size _) ?_
        refine mm_E.s rfl rfl rfl (fun _ => rfl) ?_
        refine mm_E.s rfl rfl rfl (fun _ => if_neg h4) ?_
        refine mm_E.s rfl rfl rfl (fun _ => rfl) ?_
        exact mm_E.ret rfl rfl rfl
  · skip
    refine mm_E.s rfl rfl rfl (fun _ => rfl) ?_
    refine mm_E.ic rfl rfl rfl rfl rfl (x_isC0 hc) ?_
    refine mm_E.s rfl rfl rfl (fun _ => rfl) ?_
    refine mm_E.s rfl rfl rfl (fun _ => rfl) ?_
    exact mm_E.ret rfl rfl rfl

def x_cz (f : Nat → Int32) (a t : Nat) : Nat → Int32 := fun j => if a ≤ j ∧ j < a + t then 0 else f j
theorem x_cz_0 (f : Nat → Int32) (a : Nat) : x_cz f a 0 = f := by
  funext j
  unfold x_cz
  rw [if_neg (fun q => by omega)]
theorem x_cz_s (f : Nat → Int32) (a t : Nat) : upd (x_cz f a t) (a + t) 0 = x_cz f a (t + 1) := by
  funext j
  unfold upd x_cz
  by_cases h1 : j = a + t
  · subst h1
    rw [if_pos rfl, if_pos ⟨by omega, by omega⟩]
  · rw [if_neg h1]
    by_cases h2 : a ≤ j ∧ j < a + t
    · rw [if_pos h2, if_pos ⟨h2.1, by omega⟩]
    · rw [if_neg h2, if_neg (fun q => h2 ⟨q.1, by omega⟩)]
theorem y_clear {h : mm_H} {ro co di : Int32} (hE : x_em h ro co di) (c : Int32) : ∃ h', mm_EC kM 73 [.ref 25, .int c] h (some (.int (if c = 0 ∨ c = 1 then 1 else 0)), h') := by
  by_cases hc : c = 0 ∨ c = 1
  · rw [if_pos hc]
    obtain ⟨tr, has, kept, f, cc, sp, e1, e2, e3, mat, work, dv, hO, hH, hz, h27, h28, h29, h30, h31, h32, h33, h34, h35, h36⟩ := hE
    have l26 := mm_nth_lt hH
    have l27 := mm_nth_lt h27
    obtain ⟨n, hn, rfl⟩ := x_c01 hc
    refine ⟨(h.set 26 (x_ha (x_cz has (256 * n) 256))).set 27 (x_it 512 (x_cz kept (256 * n) 256)), kq_73, rfl, rfl, ?_⟩
    refine mm_E.hc ((h.set 26 (x_ha (x_cz has (256 * n) 0))).set 27 (x_it 512 (x_cz kept (256 * n) 0))) (by rw [x_cz_0, x_cz_0, x_same hH, x_same h27]) ?_
    refine mm_E.s rfl rfl rfl (fun _ => rfl) ?_
    refine mm_E.ic rfl rfl rfl rfl rfl (x_isC1 hc) ?_
    refine mm_E.s rfl rfl rfl (fun _ => rfl) ?_
    refine mm_E.s rfl rfl rfl (fun _ => rfl) ?_
    refine mm_E.s rfl rfl rfl (fun _ => rfl) ?_
    refine mm_E.loop (fun t => [some (.ref 25), some (.int (nI n)), some (.int (nI t))]) (fun t => (h.set 26 (x_ha (x_cz has (256 * n) t))).set 27 (x_it 512 (x_cz kept (256 * n) t))) 256 ?_ ?_
    · skip
      refine mm_E.s rfl rfl rfl (fun _ => rfl) ?_
      refine mm_E.s rfl rfl rfl (fun _ => rfl) ?_
      refine mm_E.s rfl rfl rfl (fun _ => rfl) ?_
      refine mm_E.s rfl rfl rfl (fun _ => rfl) ?_
      exact mm_E.ret rfl rfl rfl
    · intro t ht ih
      rw [← nI_1, ← x_cz_s, ← x_cz_s] at ih
      have hO2 : mm_nth ((h.set 26 (x_ha (x_cz has (256 * n) t))).set 27 (x_it 512 (x_cz kept (256 * n) t))) 25 = some (x_mo ro co di tr) := by rw [mm_nth_set_ne (by decide), mm_nth_set_ne (by decide)]; exact hO
      have hH2 : mm_nth ((h.set 26 (x_ha (x_cz has (256 * n) t))).set 27 (x_it 512 (x_cz kept (256 * n) t))) 26 = some (x_ha (x_cz has (256 * n) t)) := by rw [mm_nth_set_ne (by decide)]; exact mm_nth_set l26
      have hO3 : mm_nth (((h.set 26 (x_ha (x_cz has (256 * n) t))).set 27 (x_it 512 (x_cz kept (256 * n) t))).set 26 (x_ha (upd (x_cz has (256 * n) t) (256 * n + t) 0))) 25 = some (x_mo ro co di tr) := by rw [mm_nth_set_ne (by decide)]; exact hO2
      have h27b : mm_nth (((h.set 26 (x_ha (x_cz has (256 * n) t))).set 27 (x_it 512 (x_cz kept (256 * n) t))).set 26 (x_ha (upd (x_cz has (256 * n) t) (256 * n + t) 0))) 27 = some (x_it 512 (x_cz kept (256 * n) t)) := by rw [mm_nth_set_ne (by decide)]; exact mm_nth_set (by simpa using l27)
      refine mm_E.s rfl rfl rfl (fun _ => rfl) ?_
      refine mm_E.s rfl rfl rfl (fun _ => rfl) ?_
      refine mm_E.s rfl rfl rfl (fun _ => if_neg (nI_ge (a := t) (b := 256) (by omega) (by decide))) ?_
      refine mm_E.s rfl rfl rfl (fun _ => rfl) ?_
      refine mm_E.gf rfl rfl rfl hO2 rfl ?_
      refine mm_E.s rfl rfl rfl (fun _ => rfl) ?_
      refine mm_E.s rfl rfl rfl (fun _ => rfl) ?_
      refine mm_E.s rfl rfl rfl (fun _ => rfl) ?_
      refine mm_E.s rfl rfl rfl (fun _ => rfl) ?_
      refine mm_E.s rfl rfl rfl (fun _ => rfl) ?_
      refine mm_E.ti _ (x_ix n t) ?_
      refine mm_E.s rfl rfl rfl (fun _ => rfl) ?_
      refine mm_E.zs rfl rfl hH2 (mm_bd (by omega) (by decide)) (mm_put_some _ _ _ (by simpa using l26)) ?_
      rw [mm_cl (by omega)]
      refine mm_E.s rfl rfl rfl (fun _ => rfl) ?_
      refine mm_E.gf rfl rfl rfl hO3 rfl ?_
      refine mm_E.s rfl rfl rfl (fun _ => rfl) ?_
      refine mm_E.s rfl rfl rfl (fun _ => rfl) ?_
      refine mm_E.s rfl rfl rfl (fun _ => rfl) ?_
      refine mm_E.s rfl rfl rfl (fun _ => rfl) ?_
      refine mm_E.s rfl rfl rfl (fun _ => rfl) ?_
      refine mm_E.ti _ (x_ix n t) ?_
      refine mm_E.s rfl rfl rfl (fun _ => rfl) ?_
      refine mm_E.is rfl rfl h27b (mm_bd (by omega) (by decide)) (mm_put_some _ _ _ (by simpa using l27)) ?_
      rw [mm_cl (by omega)]
      refine mm_E.s rfl rfl rfl (fun _ => rfl) ?_
      refine mm_E.s rfl rfl rfl (fun _ => rfl) ?_
      refine mm_E.hc _ ?_ ih
      rw [List.set_comm _ _ (show (27 : Nat) ≠ 26 by decide), List.set_set, List.set_set]
      rfl
  · rw [if_neg hc]
    refine ⟨h, kq_73, rfl, rfl, ?_⟩
    refine mm_E.s rfl rfl rfl (fun _ => rfl) ?_
    refine mm_E.ic rfl rfl rfl rfl rfl (x_isC0 hc) ?_
    refine mm_E.s rfl rfl rfl (fun _ => rfl) ?_
    refine mm_E.s rfl rfl rfl (fun _ => rfl) ?_
    exact mm_E.ret rfl rfl rfl

