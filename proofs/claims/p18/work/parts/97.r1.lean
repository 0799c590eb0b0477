/-! HADAMARD'S BOUND, by wedges of columns -/
/-- sum of squares of all coefficients -/
def hd_N : Nat → (List Bool → Int) → Int
  | 0, D => D [] * D []
  | m + 1, D => hd_N m (fun l => D (false :: l)) + hd_N m (fun l => D (true :: l))
def hd_I : Nat → (List Bool → Int) → (List Bool → Int) → Int
  | 0, D, F => D [] * F []
  | m + 1, D, F => hd_I m (fun l => D (false :: l)) (fun l => F (false :: l)) + hd_I m (fun l => D (true :: l)) (fun l => F (true :: l))
/-- a column ahead of a wedge -/
def hd_W : Nat → (Nat → Int) → (List Bool → Int) → List Bool → Int
  | 0, _, _, _ => 0
  | _ + 1, _, _, [] => 0
  | m + 1, w, D, false :: t => hd_W m w (fun l => D (false :: l)) t
  | m + 1, w, D, true :: t => w m * D (false :: t) - hd_W m w (fun l => D (true :: l)) t
/-- its adjoint -/
def hd_J : Nat → (Nat → Int) → (List Bool → Int) → List Bool → Int
  | 0, _, _, _ => 0
  | _ + 1, _, _, [] => 0
  | m + 1, w, D, false :: t => hd_J m w (fun l => D (false :: l)) t + w m * D (true :: t)
  | m + 1, w, D, true :: t => - hd_J m w (fun l => D (true :: l)) t
theorem hd_I_add (m : Nat) : ∀ (D F H : List Bool → Int), hd_I m (fun l => D l + F l) H = hd_I m D H + hd_I m F H := by
  induction m with
  | zero => exact fun D F H => Int.add_mul _ _ _
  | succ m ih =>
    intro D F H
    show hd_I m (fun l => D (false :: l) + F (false :: l)) _ + hd_I m (fun l => D (true :: l) + F (true :: l)) _ = _
    rw [ih, ih]
    show _ = (hd_I m _ _ + hd_I m _ _) + (hd_I m _ _ + hd_I m _ _)
    omega
theorem hd_I_sub (m : Nat) : ∀ (D F H : List Bool → Int), hd_I m H (fun l => D l - F l) = hd_I m H D - hd_I m H F := by
  induction m with
  | zero => exact fun D F H => Int.mul_sub _ _ _
  | succ m ih =>
    intro D F H
    show hd_I m _ (fun l => D (false :: l) - F (false :: l)) + hd_I m _ (fun l => D (true :: l) - F (true :: l)) = _
    rw [ih, ih]
    show _ = (hd_I m _ _ + hd_I m _ _) - (hd_I m _ _ + hd_I m _ _)
    omega
theorem hd_I_neg (m : Nat) : ∀ (D H : List Bool → Int), hd_I m (fun l => - D l) H = - hd_I m D H := by
  induction m with
  | zero => exact fun D H => Int.neg_mul _ _
  | succ m ih =>
    intro D H
    show hd_I m (fun l => - D (false :: l)) _ + hd_I m (fun l => - D (true :: l)) _ = _
    rw [ih, ih]
    show _ = - (hd_I m _ _ + hd_I m _ _)
    omega
theorem hd_I_cl (m : Nat) (c : Int) : ∀ (D H : List Bool → Int), hd_I m (fun l => c * D l) H = c * hd_I m D H := by
  induction m with
  | zero => exact fun D H => Int.mul_assoc _ _ _
  | succ m ih =>
    intro D H
    show hd_I m (fun l => c * D (false :: l)) _ + hd_I m (fun l => c * D (true :: l)) _ = _
    rw [ih, ih]
    show _ = c * (hd_I m _ _ + hd_I m _ _)
    rw [Int.mul_add]
theorem hd_I_cm (m : Nat) : ∀ (D H : List Bool → Int), hd_I m D H = hd_I m H D := by
  induction m with
  | zero => exact fun D H => Int.mul_comm _ _
  | succ m ih =>
    intro D H
    show hd_I m _ _ + hd_I m _ _ = hd_I m _ _ + hd_I m _ _
    rw [ih, ih (fun l => D (true :: l))]
theorem hd_N_I (m : Nat) : ∀ (D : List Bool → Int), hd_N m D = hd_I m D D := by
  induction m with
  | zero => exact fun D => rfl
  | succ m ih =>
    intro D
    show hd_N m _ + hd_N m _ = hd_I m _ _ + hd_I m _ _
    rw [ih, ih]
theorem hd_sq (x : Int) : 0 ≤ x * x := by
  rcases Int.le_total 0 x with h | h
  · exact Int.mul_nonneg h h
  · have := Int.mul_nonneg (Int.neg_nonneg_of_nonpos h) (Int.neg_nonneg_of_nonpos h)
    rwa [Int.neg_mul_neg] at this
theorem hd_N_0 (m : Nat) : ∀ (D : List Bool → Int), 0 ≤ hd_N m D := by
  induction m with
  | zero => exact fun D => hd_sq _
  | succ m ih =>
    intro D
    have h1 := ih (fun l => D (false :: l))
    have h2 := ih (fun l => D (true :: l))
    show 0 ≤ hd_N m _ + hd_N m _
    omega
/-- one coefficient against all -/
theorem hd_N_le (m : Nat) : ∀ (D : List Bool → Int) (l : List Bool), l.length = m → D l * D l ≤ hd_N m D := by
  induction m with
  | zero =>
    intro D l h
    rw [List.length_eq_zero_iff.mp h]
    exact Int.le_refl _
  | succ m ih =>
    intro D l h
    have h1 := hd_N_0 m (fun l => D (false :: l))
    have h2 := hd_N_0 m (fun l => D (true :: l))
    show _ ≤ hd_N m (fun l => D (false :: l)) + hd_N m (fun l => D (true :: l))
    match l, h with
    | false :: t, h =>
      have := ih (fun l => D (false :: l)) t (by simpa using h)
      have this : D (false :: t) * D (false :: t) ≤ hd_N m (fun l => D (false :: l)) := this
      omega
    | true :: t, h =>
      have := ih (fun l => D (true :: l)) t (by simpa using h)
      have this : D (true :: t) * D (true :: t) ≤ hd_N m (fun l => D (true :: l)) := this
      omega
theorem hd_adj (m : Nat) (w : Nat → Int) : ∀ (D F : List Bool → Int), hd_I m D (hd_W m w F) = hd_I m (hd_J m w D) F := by
  induction m with
  | zero =>
    intro D F
    show D [] * 0 = 0 * F []
    rw [Int.mul_zero, Int.zero_mul]
  | succ m ih =>
    intro D F
    show hd_I m (fun l => D (false :: l)) (hd_W m w (fun l => F (false :: l))) + hd_I m (fun l => D (true :: l)) (fun t => w m * F (false :: t) - hd_W m w (fun l => F (true :: l)) t) = hd_I m (fun t => hd_J m w (fun l => D (false :: l)) t + w m * D (true :: t)) (fun l => F (false :: l)) + hd_I m (fun t => - hd_J m w (fun l => D (true :: l)) t) (fun l => F (true :: l))
    rw [hd_I_sub, hd_I_add, hd_I_neg, ih, ih (fun l => D (true :: l)), hd_I_cl, hd_I_cm m (fun l => D (true :: l)) (fun t => w m * F (false :: t)), hd_I_cl, hd_I_cm m (fun l => F (false :: l)) (fun l => D (true :: l))]
    omega
/-- the length of a column -/
def hd_L (w : Nat → Int) (m : Nat) : Int := dt_S (fun i => w i * w i) m
theorem hd_N_sub (m : Nat) (D F : List Bool → Int) : hd_N m (fun l => D l - F l) = hd_N m D + hd_N m F - 2 * hd_I m D F := by
  have e : (fun l => D l - F l) = (fun l => D l + - F l) := by
    funext l
    omega
  rw [hd_N_I, e, hd_I_add, hd_I_neg, hd_I_cm m D, hd_I_cm m F, hd_I_add, hd_I_neg, hd_I_add, hd_I_neg, hd_N_I, hd_N_I, hd_I_cm m F D]
  omega
theorem hd_N_add (m : Nat) (D F : List Bool → Int) : hd_N m (fun l => D l + F l) = hd_N m D + hd_N m F + 2 * hd_I m D F := by
  rw [hd_N_I, hd_I_add, hd_I_cm m D, hd_I_cm m F, hd_I_add, hd_I_add, hd_N_I, hd_N_I, hd_I_cm m F D]
  omega
theorem hd_N_c (m : Nat) (c : Int) (D : List Bool → Int) : hd_N m (fun l => c * D l) = c * c * hd_N m D := by
  rw [hd_N_I, hd_I_cl, hd_I_cm, hd_I_cl, hd_N_I, Int.mul_assoc]
theorem hd_N_n (m : Nat) (D : List Bool → Int) : hd_N m (fun l => - D l) = hd_N m D := by
  rw [hd_N_I, hd_I_neg, hd_I_cm, hd_I_neg, hd_N_I, Int.neg_neg]
theorem hd_key (m : Nat) (w : Nat → Int) : ∀ (D : List Bool → Int), hd_N m (hd_W m w D) + hd_N m (hd_J m w D) = hd_L w m * hd_N m D := by
  induction m with
  | zero =>
    intro D
    show (0 : Int) * 0 + 0 * 0 = 0 * (D [] * D [])
    rw [Int.zero_mul, Int.zero_mul]
    rfl
  | succ m ih =>
    intro D
    have i1 := ih (fun l => D (false :: l))
    have i2 := ih (fun l => D (true :: l))
    have ad := hd_adj m w (fun l => D (false :: l)) (fun l => D (true :: l))
    show (hd_N m (hd_W m w (fun l => D (false :: l))) + hd_N m (fun t => w m * D (false :: t) - hd_W m w (fun l => D (true :: l)) t)) + (hd_N m (fun t => hd_J m w (fun l => D (false :: l)) t + w m * D (true :: t)) + hd_N m (fun t => - hd_J m w (fun l => D (true :: l)) t)) = (hd_L w m + w m * w m) * (hd_N m (fun l => D (false :: l)) + hd_N m (fun l => D (true :: l)))
    rw [hd_N_sub m (fun t => w m * D (false :: t)), hd_N_add m (hd_J m w (fun l => D (false :: l))), hd_N_n, hd_N_c, hd_N_c, hd_I_cl, ad, hd_I_cm m (hd_J m w (fun l => D (false :: l))) (fun t => w m * D (true :: t)), hd_I_cl, hd_I_cm m (fun l => D (true :: l))]
    rw [Int.add_mul, Int.mul_add, Int.mul_add, ← i1, ← i2]
    generalize hd_I m (hd_J m w (fun l => D (false :: l))) (fun l => D (true :: l)) = X
    generalize w m * X = Y
    omega
theorem hd_W_le (m : Nat) (w : Nat → Int) (D : List Bool → Int) : hd_N m (hd_W m w D) ≤ hd_L w m * hd_N m D := by
  have h1 := hd_key m w D
  have h2 := hd_N_0 m (hd_J m w D)
  omega
/-- where a list is true, from above -/
def hd_p : List Bool → List Nat
  | [] => []
  | true :: t => t.length :: hd_p t
  | false :: t => hd_p t
def hd_r : List Bool → Nat → List Bool
  | [], _ => []
  | true :: t, 0 => false :: t
  | true :: t, a + 1 => true :: hd_r t a
  | false :: t, a => false :: hd_r t a
theorem hd_r_len : ∀ (l : List Bool) (a : Nat), (hd_r l a).length = l.length
  | [], _ => rfl
  | true :: t, 0 => rfl
  | true :: t, a + 1 => congrArg (· + 1) (hd_r_len t a)
  | false :: t, a => congrArg (· + 1) (hd_r_len t a)
theorem hd_p_r : ∀ (l : List Bool) (a : Nat), a < (hd_p l).length → (hd_p (hd_r l a)).length + 1 = (hd_p l).length ∧ ∀ b, (hd_p (hd_r l a)).getD b 0 = (hd_p l).getD (dt_k a b) 0
  | [], a, h => absurd h (Nat.not_lt_zero a)
  | true :: t, 0, h => by
    refine ⟨rfl, fun b => ?_⟩
    show (hd_p t).getD b 0 = (t.length :: hd_p t).getD (dt_k 0 b) 0
    rw [show dt_k 0 b = b + 1 by unfold dt_k; rw [if_neg (Nat.not_lt_zero b)]]
    rfl
  | true :: t, a + 1, h => by
    obtain ⟨z1, z2⟩ := hd_p_r t a (by
      have h : a + 1 < (hd_p t).length + 1 := h
      omega)
    refine ⟨congrArg (· + 1) z1, fun b => ?_⟩
    show ((hd_r t a).length :: hd_p (hd_r t a)).getD b 0 = (t.length :: hd_p t).getD (dt_k (a + 1) b) 0
    rw [hd_r_len]
    cases b with
    | zero =>
      rw [show dt_k (a + 1) 0 = 0 by unfold dt_k; rw [if_pos (by omega)]]
      rfl
    | succ b =>
      rw [show dt_k (a + 1) (b + 1) = dt_k a b + 1 by unfold dt_k; split <;> split <;> omega]
      exact z2 b
  | false :: t, a, h => hd_p_r t a h
theorem hd_S_1 (f : Nat → Int) : ∀ n, dt_S f (n + 1) = f 0 + dt_S (fun i => f (i + 1)) n
  | 0 => by
    show 0 + f 0 = f 0 + 0
    omega
  | n + 1 => by
    show dt_S f (n + 1) + f (n + 1) = f 0 + (dt_S (fun i => f (i + 1)) n + f (n + 1))
    rw [hd_S_1 f n]
    omega
/-- a wedge's coefficient, written out along the new column -/
theorem hd_W_S (w : Nat → Int) : ∀ (l : List Bool) (D : List Bool → Int), hd_W l.length w D l = dt_S (fun a => dt_s a * w ((hd_p l).getD a 0) * D (hd_r l a)) (hd_p l).length
  | [], D => rfl
  | false :: t, D => hd_W_S w t (fun l => D (false :: l))
  | true :: t, D => by
    show w t.length * D (false :: t) - hd_W t.length w (fun l => D (true :: l)) t = dt_S _ ((hd_p t).length + 1)
    rw [hd_S_1, hd_W_S w t (fun l => D (true :: l))]
    show w t.length * D (false :: t) - dt_S _ (hd_p t).length = dt_s 0 * w t.length * D (false :: t) + dt_S (fun i => dt_s (i + 1) * w ((hd_p t).getD i 0) * D (true :: hd_r t i)) (hd_p t).length
    have e : dt_S (fun i => dt_s (i + 1) * w ((hd_p t).getD i 0) * D (true :: hd_r t i)) (hd_p t).length = (-1) * dt_S (fun a => dt_s a * w ((hd_p t).getD a 0) * D (true :: hd_r t a)) (hd_p t).length := by
      rw [← dt_S_mul]
      refine dt_S_congr _ (fun i _ => ?_)
      show dt_s (i + 1) * w ((hd_p t).getD i 0) * D (true :: hd_r t i) = (-1) * (dt_s i * w ((hd_p t).getD i 0) * D (true :: hd_r t i))
      rw [dt_s_succ, Int.neg_mul, Int.neg_mul, Int.neg_mul, Int.one_mul]
    rw [e, show dt_s 0 = 1 from rfl, Int.one_mul]
    omega
/-- the wedge of the columns k, k + 1, .. (r of them) -/
def hd_D (m : Nat) (M : Nat → Nat → Int) : Nat → Nat → List Bool → Int
  | 0, _ => fun l => if l.all (fun b => !b) then 1 else 0
  | r + 1, k => hd_W m (fun i => M i k) (hd_D m M r (k + 1))
theorem hd_p_0 : ∀ (l : List Bool), (hd_p l).length = 0 → l.all (fun b => !b) = true
  | [], _ => rfl
  | true :: t, h => absurd h (Nat.succ_ne_zero _)
  | false :: t, h => by
    rw [List.all_cons, hd_p_0 t h]
    rfl
theorem hd_D_dt (M : Nat → Nat → Int) : ∀ (r k : Nat) (l : List Bool), (hd_p l).length = r → hd_D l.length M r k l = dt r (fun a b => M ((hd_p l).getD a 0) (k + b))
  | 0, k, l, h => if_pos (hd_p_0 l h)
  | r + 1, k, l, h => by
    show hd_W l.length (fun i => M i k) (hd_D l.length M r (k + 1)) l = _
    rw [hd_W_S, h]
    refine dt_S_congr (r + 1) (fun a ha => ?_)
    obtain ⟨z1, z2⟩ := hd_p_r l a (by omega)
    have z := hd_D_dt M r (k + 1) (hd_r l a) (by omega)
    rw [hd_r_len] at z
    show dt_s a * M ((hd_p l).getD a 0) k * hd_D l.length M r (k + 1) (hd_r l a) = dt_s a * M ((hd_p l).getD a 0) (k + 0) * dt r (fun a' b => M ((hd_p l).getD (dt_k a a') 0) (k + (b + 1)))
    rw [z, Nat.add_zero]
    congr 1
    refine dt_congr r (fun a' b _ _ => ?_)
    rw [z2 a', show k + 1 + b = k + (b + 1) by omega]
theorem hd_D_N (m : Nat) (M : Nat → Nat → Int) : ∀ (r k : Nat), hd_N m (hd_D m M r k) ≤ dt_P (fun b => hd_L (fun i => M i (k + (r - 1 - b))) m) r
  | 0, k => by
    have key : ∀ m, hd_N m (fun l => if l.all (fun b => !b) then (1 : Int) else 0) = 1 := fun m => by
      induction m with
      | zero => rfl
      | succ m ih =>
        show hd_N m (fun l => if (false :: l).all (fun b => !b) then (1 : Int) else 0) + hd_N m (fun l => if (true :: l).all (fun b => !b) then (1 : Int) else 0) = 1
        have e1 : (fun l : List Bool => if (false :: l).all (fun b => !b) then (1 : Int) else 0) = (fun l => if l.all (fun b => !b) then (1 : Int) else 0) := by
          funext l
          rw [List.all_cons]
          rfl
        have e2 : (fun l : List Bool => if (true :: l).all (fun b => !b) then (1 : Int) else 0) = (fun l => (0 : Int) * 0) := by
          funext l
          rw [List.all_cons]
          rfl
        rw [e1, e2, ih, hd_N_c m 0 (fun _ => 0), Int.zero_mul, Int.zero_mul]
        rfl
    exact Int.le_of_eq (key m)
  | r + 1, k => by
    have ih := hd_D_N m M r (k + 1)
    have h1 := hd_W_le m (fun i => M i k) (hd_D m M r (k + 1))
    have h0 : 0 ≤ hd_L (fun i => M i k) m := dt_S_nonneg m (fun i _ => hd_sq _)
    refine Int.le_trans h1 ?_
    show _ ≤ dt_P (fun b => hd_L (fun i => M i (k + (r + 1 - 1 - b))) m) r * hd_L (fun i => M i (k + (r + 1 - 1 - r))) m
    rw [show k + (r + 1 - 1 - r) = k by omega, Int.mul_comm]
    refine Int.mul_le_mul_of_nonneg_right ?_ h0
    refine Int.le_trans ih (Int.le_of_eq (dt_P_congr r (fun b hb => ?_)))
    show hd_L (fun i => M i (k + 1 + (r - 1 - b))) m = hd_L (fun i => M i (k + (r + 1 - 1 - b))) m
    rw [show k + 1 + (r - 1 - b) = k + (r + 1 - 1 - b) by omega]
theorem hd_tt : ∀ (n : Nat), hd_p (List.replicate n true) = (List.range n).reverse
  | 0 => rfl
  | n + 1 => by
    rw [List.replicate_succ, List.range_succ, List.reverse_append]
    show (List.replicate n true).length :: hd_p (List.replicate n true) = [n] ++ (List.range n).reverse
    rw [hd_tt n, List.length_replicate]
    rfl
/-- HADAMARD: the square of a determinant is at most the product of the squares of its columns -/
theorem hd_had (r : Nat) (M : Nat → Nat → Int) {K : Int} (hK : ∀ b, b < r → dt_S (fun a => M a b * M a b) r ≤ K) (hK0 : 0 ≤ K) : dt r M * dt r M ≤ K ^ r := by
  have hl : (List.replicate r true).length = r := List.length_replicate
  have hp : (hd_p (List.replicate r true)).length = r := by rw [hd_tt, List.length_reverse, List.length_range]
  have e1 := hd_D_dt (fun i b => M (r - 1 - i) b) r 0 (List.replicate r true) hp
  rw [hl] at e1
  have e2 : dt r (fun a b => (fun i b => M (r - 1 - i) b) ((hd_p (List.replicate r true)).getD a 0) (0 + b)) = dt r M := dt_congr r (fun a b ha hb => by
    show M (r - 1 - (hd_p (List.replicate r true)).getD a 0) (0 + b) = M a b
    rw [hd_tt, Nat.zero_add]
    have : (List.range r).reverse.getD a 0 = r - 1 - a := by
      rw [List.getD_eq_getElem?_getD, List.getElem?_reverse (by rw [List.length_range]; exact ha), List.length_range, List.getElem?_range (by omega)]
      rfl
    rw [this, show r - 1 - (r - 1 - a) = a by omega])
  have h1 := hd_N_le r (hd_D r (fun i b => M (r - 1 - i) b) r 0) (List.replicate r true) hl
  have h2 := hd_D_N r (fun i b => M (r - 1 - i) b) r 0
  rw [e1, e2] at h1
  refine Int.le_trans h1 (Int.le_trans h2 ?_)
  have hb : ∀ b, b < r → 0 ≤ hd_L (fun i => M (r - 1 - i) (0 + (r - 1 - b))) r ∧ hd_L (fun i => M (r - 1 - i) (0 + (r - 1 - b))) r ≤ K := fun b hb => by
    refine ⟨dt_S_nonneg r (fun i _ => hd_sq _), ?_⟩
    refine Int.le_trans ?_ (hK (r - 1 - b) (by omega))
    rw [Nat.zero_add]
    exact dt_S_inj (m := r) r (fun x => M x (r - 1 - b) * M x (r - 1 - b)) (fun i => r - 1 - i) (fun x => hd_sq _) (fun a ha => by show r - 1 - a < r; omega) (fun a b ha hb h => by
      have h : r - 1 - a = r - 1 - b := h
      omega)
  have key : ∀ (n : Nat) (s : Nat → Int), (∀ b, b < n → 0 ≤ s b ∧ s b ≤ K) → 0 ≤ dt_P s n ∧ dt_P s n ≤ K ^ n := fun n s => by
    induction n with
    | zero => exact fun _ => ⟨(by decide : (0 : Int) ≤ 1), Int.le_of_eq (Int.pow_zero K).symm⟩
    | succ n ih =>
      intro h
      obtain ⟨g1, g2⟩ := ih (fun b hb => h b (by omega))
      obtain ⟨g3, g4⟩ := h n (by omega)
      refine ⟨Int.mul_nonneg g1 g3, ?_⟩
      show dt_P s n * s n ≤ K ^ (n + 1)
      rw [Int.pow_succ]
      exact Int.mul_le_mul g2 g4 g3 (Int.le_trans g1 g2)
  exact (key r _ hb).2
